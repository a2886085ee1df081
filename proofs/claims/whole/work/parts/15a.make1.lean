def q_mi (h : q_H) (i : Nat) (x : Int32) : q_H := q_set (q_set (q_set (q_set (q_set (q_set (q_set (q_set h 3 i 1 0) 3 i 2 0) 3 i 3 (-1)) 3 i 4 0) 3 i 5 0) 3 i 6 (-1)) 3 i 7 0) 3 i 0 x
def q_pi (h : q_H) (i : Nat) (x1 x2 x3 x4 x5 : Int32) : q_H := q_set (q_set (q_set (q_set (q_set (q_set (q_set (q_set (q_set (q_set h 4 i 4 0) 4 i 6 (-1)) 4 i 7 (-1)) 4 i 8 0) 4 i 9 0) 4 i 0 x1) 4 i 1 x2) 4 i 5 x3) 4 i 2 x4) 4 i 3 x5
section QM1
variable {g : q_G} {h : q_H}
set_option maxHeartbeats 4000000 in
theorem cm_X3_init {i : Nat} {x : Int32} : q_Ct g mX3_init (q_Rm 1 0 0) [q_O 3 i, q_I x] h (fun v h' => v = [] ∧ h' = q_mi h i x) := by
  refine q_mk rfl rfl (Nat.le_of_ble_eq_true rfl) (q_cs rfl (q_cs rfl q_nil)) (fun hv => ?_)
  refine xe_aload_n dX3_init_0 rfl q_rvO ?_
  refine xe_obj dX3_init_1 ⟨lX3_3, q_wObj⟩ (Nat.le_of_ble_eq_true rfl) ⟨Nat.le_of_ble_eq_true rfl, Nat.le_of_ble_eq_true rfl⟩ ?_
  refine xe_aload_n dX3_init_4 rfl q_rvO ?_
  refine xe_iconst 0 dX3_init_5 (by decide) ?_
  refine xe_puti dX3_init_6 fX3_9 (fun q hq => Or.inl (by cases hq; rfl)) ⟨rfl, rfl⟩ (fun _ _ => rfl) ?_
  refine xe_aload_n dX3_init_9 rfl q_rvO ?_
  refine xe_iconst 0 dX3_init_10 (by decide) ?_
  refine xe_puti dX3_init_11 fX3_15 (fun q hq => Or.inl (by cases hq; rfl)) ⟨rfl, rfl⟩ (fun _ _ => rfl) ?_
  refine xe_aload_n dX3_init_14 rfl q_rvO ?_
  refine xe_iconst (-1) dX3_init_15 (by decide) ?_
  refine xe_puti dX3_init_16 fX3_19 (fun q hq => Or.inl (by cases hq; rfl)) ⟨rfl, rfl⟩ (fun _ _ => rfl) ?_
  refine xe_aload_n dX3_init_19 rfl q_rvO ?_
  refine xe_iconst 0 dX3_init_20 (by decide) ?_
  refine xe_puti dX3_init_21 fX3_22 (fun q hq => Or.inl (by cases hq; rfl)) ⟨rfl, rfl⟩ (fun _ _ => rfl) ?_
  refine xe_aload_n dX3_init_24 rfl q_rvO ?_
  refine xe_iconst 0 dX3_init_25 (by decide) ?_
  refine xe_puti dX3_init_26 fX3_25 (fun q hq => Or.inl (by cases hq; rfl)) ⟨rfl, rfl⟩ (fun _ _ => rfl) ?_
  refine xe_aload_n dX3_init_29 rfl q_rvO ?_
  refine xe_iconst (-1) dX3_init_30 (by decide) ?_
  refine xe_puti dX3_init_31 fX3_28 (fun q hq => Or.inl (by cases hq; rfl)) ⟨rfl, rfl⟩ (fun _ _ => rfl) ?_
  refine xe_aload_n dX3_init_34 rfl q_rvO ?_
  refine xe_iconst 0 dX3_init_35 (by decide) ?_
  refine xe_puti dX3_init_36 fX3_31 (fun q hq => Or.inl (by cases hq; rfl)) ⟨rfl, rfl⟩ (fun _ _ => rfl) ?_
  refine xe_aload_n dX3_init_39 rfl q_rvO ?_
  refine xe_iload_n dX3_init_40 rfl ?_
  refine xe_puti dX3_init_41 fX3_34 (fun q hq => Or.inr (by cases hq; exact ⟨rfl, rfl, rfl, q_in (by decide +kernel) (by decide +kernel)⟩)) ⟨rfl, rfl⟩ (fun _ _ => rfl) ?_
  refine xe_vret dX3_init_44 rfl ?_
  exact ⟨rfl, rfl⟩
set_option maxHeartbeats 4000000 in
theorem cm_X4_init {i : Nat} {x1 x2 x3 x4 x5 : Int32} : q_Ct g mX4_init (q_Rm 1 0 0) [q_O 4 i, q_I x1, q_I x2, q_I x3, q_I x4, q_I x5] h (fun v h' => v = [] ∧ h' = q_pi h i x1 x2 x3 x4 x5) := by
  refine q_mk rfl rfl (Nat.le_of_ble_eq_true rfl) (q_cs rfl (q_cs rfl (q_cs rfl (q_cs rfl (q_cs rfl (q_cs rfl q_nil)))))) (fun hv => ?_)
  refine xe_aload_n dX4_init_0 rfl q_rvO ?_
  refine xe_obj dX4_init_1 ⟨lX4_3, q_wObj⟩ (Nat.le_of_ble_eq_true rfl) ⟨Nat.le_of_ble_eq_true rfl, Nat.le_of_ble_eq_true rfl⟩ ?_
  refine xe_aload_n dX4_init_4 rfl q_rvO ?_
  refine xe_iconst 0 dX4_init_5 (by decide) ?_
  refine xe_puti dX4_init_6 fX4_9 (fun q hq => Or.inl (by cases hq; rfl)) ⟨rfl, rfl⟩ (fun _ _ => rfl) ?_
  refine xe_aload_n dX4_init_9 rfl q_rvO ?_
  refine xe_iconst (-1) dX4_init_10 (by decide) ?_
  refine xe_puti dX4_init_11 fX4_15 (fun q hq => Or.inl (by cases hq; rfl)) ⟨rfl, rfl⟩ (fun _ _ => rfl) ?_
  refine xe_aload_n dX4_init_14 rfl q_rvO ?_
  refine xe_iconst (-1) dX4_init_15 (by decide) ?_
  refine xe_puti dX4_init_16 fX4_18 (fun q hq => Or.inl (by cases hq; rfl)) ⟨rfl, rfl⟩ (fun _ _ => rfl) ?_
  refine xe_aload_n dX4_init_19 rfl q_rvO ?_
  refine xe_iconst 0 dX4_init_20 (by decide) ?_
  refine xe_puti dX4_init_21 fX4_21 (fun q hq => Or.inl (by cases hq; rfl)) ⟨rfl, rfl⟩ (fun _ _ => rfl) ?_
  refine xe_aload_n dX4_init_24 rfl q_rvO ?_
  refine xe_iconst 0 dX4_init_25 (by decide) ?_
  refine xe_puti dX4_init_26 fX4_24 (fun q hq => Or.inl (by cases hq; rfl)) ⟨rfl, rfl⟩ (fun _ _ => rfl) ?_
  refine xe_aload_n dX4_init_29 rfl q_rvO ?_
  refine xe_iload_n dX4_init_30 rfl ?_
  refine xe_puti dX4_init_31 fX4_27 (fun q hq => Or.inr (by cases hq; exact ⟨rfl, rfl, rfl, q_in (by decide +kernel) (by decide +kernel)⟩)) ⟨rfl, rfl⟩ (fun _ _ => rfl) ?_
  refine xe_aload_n dX4_init_34 rfl q_rvO ?_
  refine xe_iload_n dX4_init_35 rfl ?_
  refine xe_puti dX4_init_36 fX4_30 (fun q hq => Or.inr (by cases hq; exact ⟨rfl, rfl, rfl, q_in (by decide +kernel) (by decide +kernel)⟩)) ⟨rfl, rfl⟩ (fun _ _ => rfl) ?_
  refine xe_aload_n dX4_init_39 rfl q_rvO ?_
  refine xe_iload_n dX4_init_40 rfl ?_
  refine xe_puti dX4_init_41 fX4_33 (fun q hq => Or.inl (by cases hq; rfl)) ⟨rfl, rfl⟩ (fun _ _ => rfl) ?_
  refine xe_aload_n dX4_init_44 rfl q_rvO ?_
  refine xe_iload dX4_init_45 rfl ?_
  refine xe_puti dX4_init_47 fX4_36 (fun q hq => Or.inr (by cases hq; exact ⟨rfl, rfl, rfl, q_in (by decide +kernel) (by decide +kernel)⟩)) ⟨rfl, rfl⟩ (fun _ _ => rfl) ?_
  refine xe_aload_n dX4_init_50 rfl q_rvO ?_
  refine xe_iload dX4_init_51 rfl ?_
  refine xe_puti dX4_init_53 fX4_39 (fun q hq => Or.inr (by cases hq; exact ⟨rfl, rfl, rfl, q_in (by decide +kernel) (by decide +kernel)⟩)) ⟨rfl, rfl⟩ (fun _ _ => rfl) ?_
  refine xe_vret dX4_init_56 rfl ?_
  exact ⟨rfl, rfl⟩
end QM1
def q_t1 (h : q_H) (i : Nat) (x1 : Int32) : q_H := q_set (q_set (q_set (q_set (q_set (q_sr (q_nu h 36) 9 i 0 (some (36, h.2.2 36))) 9 i 2 (-1)) 9 i 3 0) 9 i 4 (-1)) 9 i 5 0) 9 i 1 x1
def q_t2 (h : q_H) (n j : Nat) (x : Int32) : q_H := q_sr (q_mi (q_nu h 3) (h.2.2 3) x) 36 n j (some (3, h.2.2 3))
def q_ti (h : q_H) (i : Nat) (x1 x2 x3 x4 : Int32) : q_H := q_t2 (q_t2 (q_t2 (q_t1 h i x1) (h.2.2 36) 0 x2) (h.2.2 36) 1 x3) (h.2.2 36) 2 x4
theorem q_sr_at (h : q_H) (c i k : Nat) (r : Option (Nat × Nat)) : (q_sr h c i k r).2.1 c i k = r := if_pos ⟨rfl, rfl, rfl⟩
theorem q_t1_at (h : q_H) (i : Nat) (x1 : Int32) : (q_t1 h i x1).2.1 9 i 0 = some (36, h.2.2 36) := q_sr_at _ 9 i 0 _
theorem q_t2_at (h : q_H) (n j : Nat) (x : Int32) (i : Nat) (hi : i < h.2.2 9) : (q_t2 h n j x).2.1 9 i 0 = h.2.1 9 i 0 := by
  show (if 9 = 36 ∧ i = n ∧ 0 = j then some (3, h.2.2 3) else (if 9 = 3 ∧ i = h.2.2 3 then none else h.2.1 9 i 0)) = h.2.1 9 i 0
  rw [if_neg (fun z => absurd z.1 (by decide)), if_neg (fun z => absurd z.1 (by decide))]
section QM2
variable {g : q_G} {h : q_H}
set_option maxHeartbeats 4000000 in
theorem cm_X9_init {i : Nat} {x1 x2 x3 x4 : Int32} : q_Ct g mX9_init (q_Rm 2 4 27) [q_O 9 i, q_I x1, q_I x2, q_I x3, q_I x4] h (fun v h' => v = [] ∧ h' = q_ti h i x1 x2 x3 x4) := by
  refine q_mk rfl rfl (Nat.le_of_ble_eq_true rfl) (q_cs rfl (q_cs rfl (q_cs rfl (q_cs rfl (q_cs rfl q_nil))))) (fun hv => ?_)
  have hi : i < h.2.2 9 := q_hd hv
  refine xe_aload_n dX9_init_0 rfl q_rvO ?_
  refine xe_obj dX9_init_1 ⟨lX9_3, q_wObj⟩ (Nat.le_of_ble_eq_true rfl) ⟨Nat.le_of_ble_eq_true rfl, Nat.le_of_ble_eq_true rfl⟩ ?_
  refine xe_aload_n dX9_init_4 rfl q_rvO ?_
  refine xe_iconst 3 dX9_init_5 (by decide) ?_
  refine xe_newq (c := 36) dX9_init_6 rfl kX9_9 (by decide) (by decide) (by decide) (by decide) (Nat.le_of_ble_eq_true rfl) (Nat.le_of_ble_eq_true rfl) ?_
  refine xe_putr (r := some (_, _)) dX9_init_9 fX9_11 (fun q hq => Or.inr (by cases hq; exact ⟨rfl, rfl, rfl, q_in (by decide +kernel) (by decide +kernel)⟩)) rfl (fun _ _ => rfl) ?_
  refine xe_aload_n dX9_init_12 rfl q_rvO ?_
  refine xe_iconst (-1) dX9_init_13 (by decide) ?_
  refine xe_puti dX9_init_14 fX9_17 (fun q hq => Or.inl (by cases hq; rfl)) ⟨rfl, rfl⟩ (fun _ _ => rfl) ?_
  refine xe_aload_n dX9_init_17 rfl q_rvO ?_
  refine xe_iconst 0 dX9_init_18 (by decide) ?_
  refine xe_puti dX9_init_19 fX9_21 (fun q hq => Or.inl (by cases hq; rfl)) ⟨rfl, rfl⟩ (fun _ _ => rfl) ?_
  refine xe_aload_n dX9_init_22 rfl q_rvO ?_
  refine xe_iconst (-1) dX9_init_23 (by decide) ?_
  refine xe_puti dX9_init_24 fX9_25 (fun q hq => Or.inl (by cases hq; rfl)) ⟨rfl, rfl⟩ (fun _ _ => rfl) ?_
  refine xe_aload_n dX9_init_27 rfl q_rvO ?_
  refine xe_iconst 0 dX9_init_28 (by decide) ?_
  refine xe_puti dX9_init_29 fX9_28 (fun q hq => Or.inl (by cases hq; rfl)) ⟨rfl, rfl⟩ (fun _ _ => rfl) ?_
  refine xe_aload_n dX9_init_32 rfl q_rvO ?_
  refine xe_iload_n dX9_init_33 rfl ?_
  refine xe_puti dX9_init_34 fX9_31 (fun q hq => Or.inl (by cases hq; rfl)) ⟨rfl, rfl⟩ (fun _ _ => rfl) ?_
  refine xe_aload_n dX9_init_37 rfl q_rvO ?_
  refine xe_getr dX9_init_38 fX9_11 (fun _ _ => rfl) (q_t1_at h i x1) ?_
  refine xe_iconst 0 dX9_init_41 (by decide) ?_
  refine xe_new (c := 3) dX9_init_42 rfl kX9_9 q_ins3.1 q_ins3.2 (Nat.le_of_ble_eq_true rfl) (Nat.le_of_ble_eq_true rfl) ?_
  refine xe_dup dX9_init_45 rfl ?_
  refine xe_iload_n dX9_init_46 rfl ?_
  refine xe_ci (y' := mX3_init) dX9_init_47 (Or.inl lX9_34) tX3_init (cm_X3_init) rfl rfl (Nat.le_of_ble_eq_true rfl) ⟨Nat.le_of_ble_eq_true rfl, Nat.le_of_ble_eq_true rfl⟩ ⟨Nat.le_of_ble_eq_true rfl, Nat.le_of_ble_eq_true rfl⟩ (fun v1 h1 hl1 hk1 hm1 => ?_)
  obtain ⟨rfl, rfl⟩ := hk1
  refine xe_aast (q := (RX3, TX3, 8)) dX9_init_50 rfl rfl (by unfold vp_in; decide) ?_
  refine xe_aload_n dX9_init_51 rfl q_rvO ?_
  refine xe_getr dX9_init_52 fX9_11 (fun _ _ => rfl) ((q_t2_at (q_t1 h i x1) (h.2.2 36) 0 x2 i hi).trans (q_t1_at h i x1)) ?_
  refine xe_iconst 1 dX9_init_55 (by decide) ?_
  refine xe_new (c := 3) dX9_init_56 rfl kX9_9 q_ins3.1 q_ins3.2 (Nat.le_of_ble_eq_true rfl) (Nat.le_of_ble_eq_true rfl) ?_
  refine xe_dup dX9_init_59 rfl ?_
  refine xe_iload_n dX9_init_60 rfl ?_
  refine xe_ci (y' := mX3_init) dX9_init_61 (Or.inl lX9_34) tX3_init (cm_X3_init) rfl rfl (Nat.le_of_ble_eq_true rfl) ⟨Nat.le_of_ble_eq_true rfl, Nat.le_of_ble_eq_true rfl⟩ ⟨Nat.le_of_ble_eq_true rfl, Nat.le_of_ble_eq_true rfl⟩ (fun v1 h1 hl1 hk1 hm1 => ?_)
  obtain ⟨rfl, rfl⟩ := hk1
  refine xe_aast (q := (RX3, TX3, 8)) dX9_init_64 rfl rfl (by unfold vp_in; decide) ?_
  refine xe_aload_n dX9_init_65 rfl q_rvO ?_
  refine xe_getr dX9_init_66 fX9_11 (fun _ _ => rfl) ((q_t2_at (q_t2 (q_t1 h i x1) (h.2.2 36) 0 x2) (h.2.2 36) 1 x3 i hi).trans ((q_t2_at (q_t1 h i x1) (h.2.2 36) 0 x2 i hi).trans (q_t1_at h i x1))) ?_
  refine xe_iconst 2 dX9_init_69 (by decide) ?_
  refine xe_new (c := 3) dX9_init_70 rfl kX9_9 q_ins3.1 q_ins3.2 (Nat.le_of_ble_eq_true rfl) (Nat.le_of_ble_eq_true rfl) ?_
  refine xe_dup dX9_init_73 rfl ?_
  refine xe_iload dX9_init_74 rfl ?_
  refine xe_ci (y' := mX3_init) dX9_init_76 (Or.inl lX9_34) tX3_init (cm_X3_init) rfl rfl (Nat.le_of_ble_eq_true rfl) ⟨Nat.le_of_ble_eq_true rfl, Nat.le_of_ble_eq_true rfl⟩ ⟨Nat.le_of_ble_eq_true rfl, Nat.le_of_ble_eq_true rfl⟩ (fun v1 h1 hl1 hk1 hm1 => ?_)
  obtain ⟨rfl, rfl⟩ := hk1
  refine xe_aast (q := (RX3, TX3, 8)) dX9_init_79 rfl rfl (by unfold vp_in; decide) ?_
  refine xe_vret dX9_init_80 rfl ?_
  exact ⟨rfl, rfl⟩
end QM2
