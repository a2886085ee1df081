def qi_X0 (h : q_H) (i : Nat) : q_H := (q_set (q_set (q_set (q_sr (q_nu (q_sr (q_nu (q_sr (q_nu (q_sr (q_nu (q_sr (q_nu h 12) 0 i 0 (some (12, h.2.2 12))) 13) 0 i 1 (some (13, h.2.2 13))) 14) 0 i 2 (some (14, h.2.2 14))) 15) 0 i 3 (some (15, h.2.2 15))) 16) 0 i 4 (some (16, h.2.2 16))) 0 i 5 0) 0 i 6 0) 0 i 7 0)
set_option maxHeartbeats 8000000 in
set_option maxRecDepth 10000 in
theorem cm_X0_init {g : q_G} {h : q_H} {i : Nat} : q_Ct g mX0_init (q_Rm 1 5 280) [q_O 0 i] h (fun v h' => v = [] ∧ h' = qi_X0 h i) := by
  refine q_mk rfl rfl (Nat.le_of_ble_eq_true rfl) (q_cs rfl q_nil) (fun hv => ?_)
  refine xe_aload_n dX0_init_0 rfl q_rvO ?_
  refine xe_obj dX0_init_1 ⟨lX0_3, q_wObj⟩ (Nat.le_of_ble_eq_true rfl) ⟨Nat.le_of_ble_eq_true rfl, Nat.le_of_ble_eq_true rfl⟩ ?_
  refine xe_aload_n dX0_init_4 rfl q_rvO ?_
  refine xe_bipush 20 dX0_init_5 (by decide) ?_
  refine xe_newa (c := 12) dX0_init_7 rfl rfl q_ac_int (fun _ _ h => h) (by decide) (by decide) (by decide) (Nat.le_of_ble_eq_true rfl) (Nat.le_of_ble_eq_true rfl) ?_
  refine xe_putr (r := some (_, _)) dX0_init_9 fX0_9 (fun q hq => Or.inr (by cases hq; exact ⟨rfl, rfl, rfl, q_in (by decide +kernel) (by decide +kernel)⟩)) rfl (fun _ _ => rfl) ?_
  refine xe_aload_n dX0_init_12 rfl q_rvO ?_
  refine xe_bipush 20 dX0_init_13 (by decide) ?_
  refine xe_newa (c := 13) dX0_init_15 rfl rfl q_ac_int (fun _ _ h => h) (by decide) (by decide) (by decide) (Nat.le_of_ble_eq_true rfl) (Nat.le_of_ble_eq_true rfl) ?_
  refine xe_putr (r := some (_, _)) dX0_init_17 fX0_15 (fun q hq => Or.inr (by cases hq; exact ⟨rfl, rfl, rfl, q_in (by decide +kernel) (by decide +kernel)⟩)) rfl (fun _ _ => rfl) ?_
  refine xe_aload_n dX0_init_20 rfl q_rvO ?_
  refine xe_bipush 80 dX0_init_21 (by decide) ?_
  refine xe_newa (c := 14) dX0_init_23 rfl rfl q_ac_int (fun _ _ h => h) (by decide) (by decide) (by decide) (Nat.le_of_ble_eq_true rfl) (Nat.le_of_ble_eq_true rfl) ?_
  refine xe_putr (r := some (_, _)) dX0_init_25 fX0_18 (fun q hq => Or.inr (by cases hq; exact ⟨rfl, rfl, rfl, q_in (by decide +kernel) (by decide +kernel)⟩)) rfl (fun _ _ => rfl) ?_
  refine xe_aload_n dX0_init_28 rfl q_rvO ?_
  refine xe_bipush 80 dX0_init_29 (by decide) ?_
  refine xe_newa (c := 15) dX0_init_31 rfl rfl q_ac_int (fun _ _ h => h) (by decide) (by decide) (by decide) (Nat.le_of_ble_eq_true rfl) (Nat.le_of_ble_eq_true rfl) ?_
  refine xe_putr (r := some (_, _)) dX0_init_33 fX0_21 (fun q hq => Or.inr (by cases hq; exact ⟨rfl, rfl, rfl, q_in (by decide +kernel) (by decide +kernel)⟩)) rfl (fun _ _ => rfl) ?_
  refine xe_aload_n dX0_init_36 rfl q_rvO ?_
  refine xe_bipush 80 dX0_init_37 (by decide) ?_
  refine xe_newa (c := 16) dX0_init_39 rfl rfl q_ac_int (fun _ _ h => h) (by decide) (by decide) (by decide) (Nat.le_of_ble_eq_true rfl) (Nat.le_of_ble_eq_true rfl) ?_
  refine xe_putr (r := some (_, _)) dX0_init_41 fX0_24 (fun q hq => Or.inr (by cases hq; exact ⟨rfl, rfl, rfl, q_in (by decide +kernel) (by decide +kernel)⟩)) rfl (fun _ _ => rfl) ?_
  refine xe_aload_n dX0_init_44 rfl q_rvO ?_
  refine xe_iconst 0 dX0_init_45 (by decide) ?_
  refine xe_puti dX0_init_46 fX0_27 (fun q hq => Or.inl (by cases hq; rfl)) ⟨rfl, rfl⟩ (fun _ _ => rfl) ?_
  refine xe_aload_n dX0_init_49 rfl q_rvO ?_
  refine xe_iconst 0 dX0_init_50 (by decide) ?_
  refine xe_puti dX0_init_51 fX0_31 (fun q hq => Or.inl (by cases hq; rfl)) ⟨rfl, rfl⟩ (fun _ _ => rfl) ?_
  refine xe_aload_n dX0_init_54 rfl q_rvO ?_
  refine xe_iconst 0 dX0_init_55 (by decide) ?_
  refine xe_puti dX0_init_56 fX0_34 (fun q hq => Or.inl (by cases hq; rfl)) ⟨rfl, rfl⟩ (fun _ _ => rfl) ?_
  exact xe_vret dX0_init_59 rfl ⟨rfl, rfl⟩
def qi_X1 (h : q_H) (i : Nat) : q_H := (q_set (q_set (q_set (q_set (q_sr (q_nu (q_sr (q_nu (q_sr (q_nu (q_sr (q_nu (q_sr (q_nu h 17) 1 i 0 (some (17, h.2.2 17))) 18) 1 i 1 (some (18, h.2.2 18))) 19) 1 i 2 (some (19, h.2.2 19))) 20) 1 i 3 (some (20, h.2.2 20))) 21) 1 i 4 (some (21, h.2.2 21))) 1 i 5 0) 1 i 6 0) 1 i 7 0) 1 i 8 0)
set_option maxHeartbeats 8000000 in
set_option maxRecDepth 10000 in
theorem cm_X1_init {g : q_G} {h : q_H} {i : Nat} : q_Ct g mX1_init (q_Rm 1 5 51) [q_O 1 i] h (fun v h' => v = [] ∧ h' = qi_X1 h i) := by
  refine q_mk rfl rfl (Nat.le_of_ble_eq_true rfl) (q_cs rfl q_nil) (fun hv => ?_)
  refine xe_aload_n dX1_init_0 rfl q_rvO ?_
  refine xe_obj dX1_init_1 ⟨lX1_3, q_wObj⟩ (Nat.le_of_ble_eq_true rfl) ⟨Nat.le_of_ble_eq_true rfl, Nat.le_of_ble_eq_true rfl⟩ ?_
  refine xe_aload_n dX1_init_4 rfl q_rvO ?_
  refine xe_bipush 10 dX1_init_5 (by decide) ?_
  refine xe_newa (c := 17) dX1_init_7 rfl rfl q_ac_int (fun _ _ h => h) (by decide) (by decide) (by decide) (Nat.le_of_ble_eq_true rfl) (Nat.le_of_ble_eq_true rfl) ?_
  refine xe_putr (r := some (_, _)) dX1_init_9 fX1_9 (fun q hq => Or.inr (by cases hq; exact ⟨rfl, rfl, rfl, q_in (by decide +kernel) (by decide +kernel)⟩)) rfl (fun _ _ => rfl) ?_
  refine xe_aload_n dX1_init_12 rfl q_rvO ?_
  refine xe_bipush 10 dX1_init_13 (by decide) ?_
  refine xe_newa (c := 18) dX1_init_15 rfl rfl q_ac_int (fun _ _ h => h) (by decide) (by decide) (by decide) (Nat.le_of_ble_eq_true rfl) (Nat.le_of_ble_eq_true rfl) ?_
  refine xe_putr (r := some (_, _)) dX1_init_17 fX1_15 (fun q hq => Or.inr (by cases hq; exact ⟨rfl, rfl, rfl, q_in (by decide +kernel) (by decide +kernel)⟩)) rfl (fun _ _ => rfl) ?_
  refine xe_aload_n dX1_init_20 rfl q_rvO ?_
  refine xe_bipush 11 dX1_init_21 (by decide) ?_
  refine xe_newa (c := 19) dX1_init_23 rfl rfl q_ac_int (fun _ _ h => h) (by decide) (by decide) (by decide) (Nat.le_of_ble_eq_true rfl) (Nat.le_of_ble_eq_true rfl) ?_
  refine xe_putr (r := some (_, _)) dX1_init_25 fX1_18 (fun q hq => Or.inr (by cases hq; exact ⟨rfl, rfl, rfl, q_in (by decide +kernel) (by decide +kernel)⟩)) rfl (fun _ _ => rfl) ?_
  refine xe_aload_n dX1_init_28 rfl q_rvO ?_
  refine xe_bipush 10 dX1_init_29 (by decide) ?_
  refine xe_newa (c := 20) dX1_init_31 rfl rfl q_ac_int (fun _ _ h => h) (by decide) (by decide) (by decide) (Nat.le_of_ble_eq_true rfl) (Nat.le_of_ble_eq_true rfl) ?_
  refine xe_putr (r := some (_, _)) dX1_init_33 fX1_21 (fun q hq => Or.inr (by cases hq; exact ⟨rfl, rfl, rfl, q_in (by decide +kernel) (by decide +kernel)⟩)) rfl (fun _ _ => rfl) ?_
  refine xe_aload_n dX1_init_36 rfl q_rvO ?_
  refine xe_bipush 10 dX1_init_37 (by decide) ?_
  refine xe_newa (c := 21) dX1_init_39 rfl rfl q_ac_int (fun _ _ h => h) (by decide) (by decide) (by decide) (Nat.le_of_ble_eq_true rfl) (Nat.le_of_ble_eq_true rfl) ?_
  refine xe_putr (r := some (_, _)) dX1_init_41 fX1_24 (fun q hq => Or.inr (by cases hq; exact ⟨rfl, rfl, rfl, q_in (by decide +kernel) (by decide +kernel)⟩)) rfl (fun _ _ => rfl) ?_
  refine xe_aload_n dX1_init_44 rfl q_rvO ?_
  refine xe_iconst 0 dX1_init_45 (by decide) ?_
  refine xe_puti dX1_init_46 fX1_27 (fun q hq => Or.inl (by cases hq; rfl)) ⟨rfl, rfl⟩ (fun _ _ => rfl) ?_
  refine xe_aload_n dX1_init_49 rfl q_rvO ?_
  refine xe_iconst 0 dX1_init_50 (by decide) ?_
  refine xe_puti dX1_init_51 fX1_31 (fun q hq => Or.inl (by cases hq; rfl)) ⟨rfl, rfl⟩ (fun _ _ => rfl) ?_
  refine xe_aload_n dX1_init_54 rfl q_rvO ?_
  refine xe_iconst 0 dX1_init_55 (by decide) ?_
  refine xe_puti dX1_init_56 fX1_34 (fun q hq => Or.inl (by cases hq; rfl)) ⟨rfl, rfl⟩ (fun _ _ => rfl) ?_
  refine xe_aload_n dX1_init_59 rfl q_rvO ?_
  refine xe_iconst 0 dX1_init_60 (by decide) ?_
  refine xe_puti dX1_init_61 fX1_37 (fun q hq => Or.inl (by cases hq; rfl)) ⟨rfl, rfl⟩ (fun _ _ => rfl) ?_
  exact xe_vret dX1_init_64 rfl ⟨rfl, rfl⟩
def qi_X2 (h : q_H) (i : Nat) : q_H := (q_set (q_sr (q_nu (q_sr (q_nu (q_sr (q_nu h 22) 2 i 0 (some (22, h.2.2 22))) 23) 2 i 1 (some (23, h.2.2 23))) 24) 2 i 2 (some (24, h.2.2 24))) 2 i 3 0)
set_option maxHeartbeats 8000000 in
set_option maxRecDepth 10000 in
theorem cm_X2_init {g : q_G} {h : q_H} {i : Nat} : q_Ct g mX2_init (q_Rm 1 3 1536) [q_O 2 i] h (fun v h' => v = [] ∧ h' = qi_X2 h i) := by
  refine q_mk rfl rfl (Nat.le_of_ble_eq_true rfl) (q_cs rfl q_nil) (fun hv => ?_)
  refine xe_aload_n dX2_init_0 rfl q_rvO ?_
  refine xe_obj dX2_init_1 ⟨lX2_3, q_wObj⟩ (Nat.le_of_ble_eq_true rfl) ⟨Nat.le_of_ble_eq_true rfl, Nat.le_of_ble_eq_true rfl⟩ ?_
  refine xe_aload_n dX2_init_4 rfl q_rvO ?_
  refine xe_sipush 512 dX2_init_5 (by decide) ?_
  refine xe_newa (c := 22) dX2_init_8 rfl rfl q_ac_int (fun _ _ h => h) (by decide) (by decide) (by decide) (Nat.le_of_ble_eq_true rfl) (Nat.le_of_ble_eq_true rfl) ?_
  refine xe_putr (r := some (_, _)) dX2_init_10 fX2_9 (fun q hq => Or.inr (by cases hq; exact ⟨rfl, rfl, rfl, q_in (by decide +kernel) (by decide +kernel)⟩)) rfl (fun _ _ => rfl) ?_
  refine xe_aload_n dX2_init_13 rfl q_rvO ?_
  refine xe_sipush 512 dX2_init_14 (by decide) ?_
  refine xe_newa (c := 23) dX2_init_17 rfl rfl q_ac_int (fun _ _ h => h) (by decide) (by decide) (by decide) (Nat.le_of_ble_eq_true rfl) (Nat.le_of_ble_eq_true rfl) ?_
  refine xe_putr (r := some (_, _)) dX2_init_19 fX2_15 (fun q hq => Or.inr (by cases hq; exact ⟨rfl, rfl, rfl, q_in (by decide +kernel) (by decide +kernel)⟩)) rfl (fun _ _ => rfl) ?_
  refine xe_aload_n dX2_init_22 rfl q_rvO ?_
  refine xe_sipush 512 dX2_init_23 (by decide) ?_
  refine xe_newa (c := 24) dX2_init_26 rfl rfl q_ac_int (fun _ _ h => h) (by decide) (by decide) (by decide) (Nat.le_of_ble_eq_true rfl) (Nat.le_of_ble_eq_true rfl) ?_
  refine xe_putr (r := some (_, _)) dX2_init_28 fX2_18 (fun q hq => Or.inr (by cases hq; exact ⟨rfl, rfl, rfl, q_in (by decide +kernel) (by decide +kernel)⟩)) rfl (fun _ _ => rfl) ?_
  refine xe_aload_n dX2_init_31 rfl q_rvO ?_
  refine xe_iconst 0 dX2_init_32 (by decide) ?_
  refine xe_puti dX2_init_33 fX2_21 (fun q hq => Or.inl (by cases hq; rfl)) ⟨rfl, rfl⟩ (fun _ _ => rfl) ?_
  exact xe_vret dX2_init_36 rfl ⟨rfl, rfl⟩
def qi_X6 (h : q_H) (i : Nat) : q_H := (q_set (q_set (q_sr (q_nu (q_sr (q_nu (q_sr (q_nu (q_sr (q_nu (q_sr (q_nu (q_sr (q_nu (q_sr (q_nu h 25) 6 i 0 (some (25, h.2.2 25))) 26) 6 i 1 (some (26, h.2.2 26))) 27) 6 i 2 (some (27, h.2.2 27))) 28) 6 i 3 (some (28, h.2.2 28))) 29) 6 i 4 (some (29, h.2.2 29))) 30) 6 i 5 (some (30, h.2.2 30))) 31) 6 i 6 (some (31, h.2.2 31))) 6 i 7 0) 6 i 8 0)
set_option maxHeartbeats 8000000 in
set_option maxRecDepth 10000 in
theorem cm_X6_init {g : q_G} {h : q_H} {i : Nat} : q_Ct g mX6_init (q_Rm 1 7 258) [q_O 6 i] h (fun v h' => v = [] ∧ h' = qi_X6 h i) := by
  refine q_mk rfl rfl (Nat.le_of_ble_eq_true rfl) (q_cs rfl q_nil) (fun hv => ?_)
  refine xe_aload_n dX6_init_0 rfl q_rvO ?_
  refine xe_obj dX6_init_1 ⟨lX6_3, q_wObj⟩ (Nat.le_of_ble_eq_true rfl) ⟨Nat.le_of_ble_eq_true rfl, Nat.le_of_ble_eq_true rfl⟩ ?_
  refine xe_aload_n dX6_init_4 rfl q_rvO ?_
  refine xe_bipush 6 dX6_init_5 (by decide) ?_
  refine xe_newa (c := 25) dX6_init_7 rfl rfl q_ac_int (fun _ _ h => h) (by decide) (by decide) (by decide) (Nat.le_of_ble_eq_true rfl) (Nat.le_of_ble_eq_true rfl) ?_
  refine xe_putr (r := some (_, _)) dX6_init_9 fX6_9 (fun q hq => Or.inr (by cases hq; exact ⟨rfl, rfl, rfl, q_in (by decide +kernel) (by decide +kernel)⟩)) rfl (fun _ _ => rfl) ?_
  refine xe_aload_n dX6_init_12 rfl q_rvO ?_
  refine xe_bipush 6 dX6_init_13 (by decide) ?_
  refine xe_newa (c := 26) dX6_init_15 rfl rfl q_ac_int (fun _ _ h => h) (by decide) (by decide) (by decide) (Nat.le_of_ble_eq_true rfl) (Nat.le_of_ble_eq_true rfl) ?_
  refine xe_putr (r := some (_, _)) dX6_init_17 fX6_15 (fun q hq => Or.inr (by cases hq; exact ⟨rfl, rfl, rfl, q_in (by decide +kernel) (by decide +kernel)⟩)) rfl (fun _ _ => rfl) ?_
  refine xe_aload_n dX6_init_20 rfl q_rvO ?_
  refine xe_bipush 6 dX6_init_21 (by decide) ?_
  refine xe_newa (c := 27) dX6_init_23 rfl rfl q_ac_boolean (fun _ _ h => h) (by decide) (by decide) (by decide) (Nat.le_of_ble_eq_true rfl) (Nat.le_of_ble_eq_true rfl) ?_
  refine xe_putr (r := some (_, _)) dX6_init_25 fX6_18 (fun q hq => Or.inr (by cases hq; exact ⟨rfl, rfl, rfl, q_in (by decide +kernel) (by decide +kernel)⟩)) rfl (fun _ _ => rfl) ?_
  refine xe_aload_n dX6_init_28 rfl q_rvO ?_
  refine xe_bipush 60 dX6_init_29 (by decide) ?_
  refine xe_newa (c := 28) dX6_init_31 rfl rfl q_ac_int (fun _ _ h => h) (by decide) (by decide) (by decide) (Nat.le_of_ble_eq_true rfl) (Nat.le_of_ble_eq_true rfl) ?_
  refine xe_putr (r := some (_, _)) dX6_init_33 fX6_22 (fun q hq => Or.inr (by cases hq; exact ⟨rfl, rfl, rfl, q_in (by decide +kernel) (by decide +kernel)⟩)) rfl (fun _ _ => rfl) ?_
  refine xe_aload_n dX6_init_36 rfl q_rvO ?_
  refine xe_bipush 60 dX6_init_37 (by decide) ?_
  refine xe_newa (c := 29) dX6_init_39 rfl rfl q_ac_int (fun _ _ h => h) (by decide) (by decide) (by decide) (Nat.le_of_ble_eq_true rfl) (Nat.le_of_ble_eq_true rfl) ?_
  refine xe_putr (r := some (_, _)) dX6_init_41 fX6_25 (fun q hq => Or.inr (by cases hq; exact ⟨rfl, rfl, rfl, q_in (by decide +kernel) (by decide +kernel)⟩)) rfl (fun _ _ => rfl) ?_
  refine xe_aload_n dX6_init_44 rfl q_rvO ?_
  refine xe_bipush 60 dX6_init_45 (by decide) ?_
  refine xe_newa (c := 30) dX6_init_47 rfl rfl q_ac_int (fun _ _ h => h) (by decide) (by decide) (by decide) (Nat.le_of_ble_eq_true rfl) (Nat.le_of_ble_eq_true rfl) ?_
  refine xe_putr (r := some (_, _)) dX6_init_49 fX6_28 (fun q hq => Or.inr (by cases hq; exact ⟨rfl, rfl, rfl, q_in (by decide +kernel) (by decide +kernel)⟩)) rfl (fun _ _ => rfl) ?_
  refine xe_aload_n dX6_init_52 rfl q_rvO ?_
  refine xe_bipush 60 dX6_init_53 (by decide) ?_
  refine xe_newa (c := 31) dX6_init_55 rfl rfl q_ac_int (fun _ _ h => h) (by decide) (by decide) (by decide) (Nat.le_of_ble_eq_true rfl) (Nat.le_of_ble_eq_true rfl) ?_
  refine xe_putr (r := some (_, _)) dX6_init_57 fX6_31 (fun q hq => Or.inr (by cases hq; exact ⟨rfl, rfl, rfl, q_in (by decide +kernel) (by decide +kernel)⟩)) rfl (fun _ _ => rfl) ?_
  refine xe_aload_n dX6_init_60 rfl q_rvO ?_
  refine xe_iconst 0 dX6_init_61 (by decide) ?_
  refine xe_puti dX6_init_62 fX6_34 (fun q hq => Or.inl (by cases hq; rfl)) ⟨rfl, rfl⟩ (fun _ _ => rfl) ?_
  refine xe_aload_n dX6_init_65 rfl q_rvO ?_
  refine xe_iconst 0 dX6_init_66 (by decide) ?_
  refine xe_puti dX6_init_67 fX6_38 (fun q hq => Or.inl (by cases hq; rfl)) ⟨rfl, rfl⟩ (fun _ _ => rfl) ?_
  exact xe_vret dX6_init_70 rfl ⟨rfl, rfl⟩
def qi_X7 (h : q_H) (i : Nat) : q_H := (q_set (q_sr (q_nu h 32) 7 i 0 (some (32, h.2.2 32))) 7 i 1 0)
set_option maxHeartbeats 8000000 in
set_option maxRecDepth 10000 in
theorem cm_X7_init {g : q_G} {h : q_H} {i : Nat} : q_Ct g mX7_init (q_Rm 1 1 400) [q_O 7 i] h (fun v h' => v = [] ∧ h' = qi_X7 h i) := by
  refine q_mk rfl rfl (Nat.le_of_ble_eq_true rfl) (q_cs rfl q_nil) (fun hv => ?_)
  refine xe_aload_n dX7_init_0 rfl q_rvO ?_
  refine xe_obj dX7_init_1 ⟨lX7_3, q_wObj⟩ (Nat.le_of_ble_eq_true rfl) ⟨Nat.le_of_ble_eq_true rfl, Nat.le_of_ble_eq_true rfl⟩ ?_
  refine xe_aload_n dX7_init_4 rfl q_rvO ?_
  refine xe_sipush 400 dX7_init_5 (by decide) ?_
  refine xe_newa (c := 32) dX7_init_8 rfl rfl q_ac_int (fun _ _ h => h) (by decide) (by decide) (by decide) (Nat.le_of_ble_eq_true rfl) (Nat.le_of_ble_eq_true rfl) ?_
  refine xe_putr (r := some (_, _)) dX7_init_10 fX7_9 (fun q hq => Or.inr (by cases hq; exact ⟨rfl, rfl, rfl, q_in (by decide +kernel) (by decide +kernel)⟩)) rfl (fun _ _ => rfl) ?_
  refine xe_aload_n dX7_init_13 rfl q_rvO ?_
  refine xe_iconst 0 dX7_init_14 (by decide) ?_
  refine xe_puti dX7_init_15 fX7_15 (fun q hq => Or.inl (by cases hq; rfl)) ⟨rfl, rfl⟩ (fun _ _ => rfl) ?_
  exact xe_vret dX7_init_18 rfl ⟨rfl, rfl⟩
def qi_X8 (h : q_H) (i : Nat) (j : Nat) : q_H := (q_sr (q_set (q_set (q_set (q_sr (q_nu (q_sr (q_nu (q_sr (q_nu h 33) 8 i 1 (some (33, h.2.2 33))) 34) 8 i 2 (some (34, h.2.2 34))) 35) 8 i 3 (some (35, h.2.2 35))) 8 i 4 0) 8 i 5 0) 8 i 6 0) 8 i 0 (some (7, j)))
set_option maxHeartbeats 8000000 in
set_option maxRecDepth 10000 in
theorem cm_X8_init {g : q_G} {h : q_H} {i : Nat} {j : Nat} : q_Ct g mX8_init (q_Rm 1 3 1203) [q_O 8 i, q_O 7 j] h (fun v h' => v = [] ∧ h' = qi_X8 h i j) := by
  refine q_mk rfl rfl (Nat.le_of_ble_eq_true rfl) (q_cs rfl (q_cs rfl q_nil)) (fun hv => ?_)
  refine xe_aload_n dX8_init_0 rfl q_rvO ?_
  refine xe_obj dX8_init_1 ⟨lX8_3, q_wObj⟩ (Nat.le_of_ble_eq_true rfl) ⟨Nat.le_of_ble_eq_true rfl, Nat.le_of_ble_eq_true rfl⟩ ?_
  refine xe_aload_n dX8_init_4 rfl q_rvO ?_
  refine xe_sipush 401 dX8_init_5 (by decide) ?_
  refine xe_newa (c := 33) dX8_init_8 rfl rfl q_ac_int (fun _ _ h => h) (by decide) (by decide) (by decide) (Nat.le_of_ble_eq_true rfl) (Nat.le_of_ble_eq_true rfl) ?_
  refine xe_putr (r := some (_, _)) dX8_init_10 fX8_9 (fun q hq => Or.inr (by cases hq; exact ⟨rfl, rfl, rfl, q_in (by decide +kernel) (by decide +kernel)⟩)) rfl (fun _ _ => rfl) ?_
  refine xe_aload_n dX8_init_13 rfl q_rvO ?_
  refine xe_sipush 401 dX8_init_14 (by decide) ?_
  refine xe_newa (c := 34) dX8_init_17 rfl rfl q_ac_int (fun _ _ h => h) (by decide) (by decide) (by decide) (Nat.le_of_ble_eq_true rfl) (Nat.le_of_ble_eq_true rfl) ?_
  refine xe_putr (r := some (_, _)) dX8_init_19 fX8_15 (fun q hq => Or.inr (by cases hq; exact ⟨rfl, rfl, rfl, q_in (by decide +kernel) (by decide +kernel)⟩)) rfl (fun _ _ => rfl) ?_
  refine xe_aload_n dX8_init_22 rfl q_rvO ?_
  refine xe_sipush 401 dX8_init_23 (by decide) ?_
  refine xe_newa (c := 35) dX8_init_26 rfl rfl q_ac_int (fun _ _ h => h) (by decide) (by decide) (by decide) (Nat.le_of_ble_eq_true rfl) (Nat.le_of_ble_eq_true rfl) ?_
  refine xe_putr (r := some (_, _)) dX8_init_28 fX8_18 (fun q hq => Or.inr (by cases hq; exact ⟨rfl, rfl, rfl, q_in (by decide +kernel) (by decide +kernel)⟩)) rfl (fun _ _ => rfl) ?_
  refine xe_aload_n dX8_init_31 rfl q_rvO ?_
  refine xe_iconst 0 dX8_init_32 (by decide) ?_
  refine xe_puti dX8_init_33 fX8_21 (fun q hq => Or.inl (by cases hq; rfl)) ⟨rfl, rfl⟩ (fun _ _ => rfl) ?_
  refine xe_aload_n dX8_init_36 rfl q_rvO ?_
  refine xe_iconst 0 dX8_init_37 (by decide) ?_
  refine xe_puti dX8_init_38 fX8_25 (fun q hq => Or.inl (by cases hq; rfl)) ⟨rfl, rfl⟩ (fun _ _ => rfl) ?_
  refine xe_aload_n dX8_init_41 rfl q_rvO ?_
  refine xe_iconst 0 dX8_init_42 (by decide) ?_
  refine xe_puti dX8_init_43 fX8_28 (fun q hq => Or.inl (by cases hq; rfl)) ⟨rfl, rfl⟩ (fun _ _ => rfl) ?_
  refine xe_aload_n dX8_init_46 rfl q_rvO ?_
  refine xe_aload_n dX8_init_47 rfl q_rvO ?_
  refine xe_putr (r := some (_, _)) dX8_init_48 fX8_31 (fun q hq => Or.inr (by cases hq; exact ⟨rfl, rfl, rfl, q_in (by decide +kernel) (by decide +kernel)⟩)) rfl (fun _ _ => rfl) ?_
  exact xe_vret dX8_init_51 rfl ⟨rfl, rfl⟩
def qi_X5 (h : q_H) (i : Nat) (j : Nat) : q_H := (q_sr (qi_X8 (q_nu (q_set (q_set (q_set (q_set (q_set h 5 i 1 0) 5 i 2 0) 5 i 3 0) 5 i 4 0) 5 i 5 (-1)) 8) (h.2.2 8) (j)) 5 i 0 (some (8, h.2.2 8)))
set_option maxHeartbeats 8000000 in
set_option maxRecDepth 10000 in
theorem cm_X5_init {g : q_G} {h : q_H} {i : Nat} {j : Nat} : q_Ct g mX5_init (q_Rm 2 4 1210) [q_O 5 i, q_O 7 j] h (fun v h' => v = [] ∧ h' = qi_X5 h i j) := by
  refine q_mk rfl rfl (Nat.le_of_ble_eq_true rfl) (q_cs rfl (q_cs rfl q_nil)) (fun hv => ?_)
  refine xe_aload_n dX5_init_0 rfl q_rvO ?_
  refine xe_obj dX5_init_1 ⟨lX5_3, q_wObj⟩ (Nat.le_of_ble_eq_true rfl) ⟨Nat.le_of_ble_eq_true rfl, Nat.le_of_ble_eq_true rfl⟩ ?_
  refine xe_aload_n dX5_init_4 rfl q_rvO ?_
  refine xe_iconst 0 dX5_init_5 (by decide) ?_
  refine xe_puti dX5_init_6 fX5_9 (fun q hq => Or.inl (by cases hq; rfl)) ⟨rfl, rfl⟩ (fun _ _ => rfl) ?_
  refine xe_aload_n dX5_init_9 rfl q_rvO ?_
  refine xe_iconst 0 dX5_init_10 (by decide) ?_
  refine xe_puti dX5_init_11 fX5_15 (fun q hq => Or.inl (by cases hq; rfl)) ⟨rfl, rfl⟩ (fun _ _ => rfl) ?_
  refine xe_aload_n dX5_init_14 rfl q_rvO ?_
  refine xe_iconst 0 dX5_init_15 (by decide) ?_
  refine xe_puti dX5_init_16 fX5_18 (fun q hq => Or.inl (by cases hq; rfl)) ⟨rfl, rfl⟩ (fun _ _ => rfl) ?_
  refine xe_aload_n dX5_init_19 rfl q_rvO ?_
  refine xe_iconst 0 dX5_init_20 (by decide) ?_
  refine xe_puti dX5_init_21 fX5_21 (fun q hq => Or.inl (by cases hq; rfl)) ⟨rfl, rfl⟩ (fun _ _ => rfl) ?_
  refine xe_aload_n dX5_init_24 rfl q_rvO ?_
  refine xe_iconst (-1) dX5_init_25 (by decide) ?_
  refine xe_puti dX5_init_26 fX5_24 (fun q hq => Or.inl (by cases hq; rfl)) ⟨rfl, rfl⟩ (fun _ _ => rfl) ?_
  refine xe_aload_n dX5_init_29 rfl q_rvO ?_
  refine xe_new (c := 8) dX5_init_30 rfl kX5_27 q_ins8.1 q_ins8.2 (Nat.le_of_ble_eq_true rfl) (Nat.le_of_ble_eq_true rfl) ?_
  refine xe_dup dX5_init_33 rfl ?_
  refine xe_aload_n dX5_init_34 rfl q_rvO ?_
  refine xe_ci (y' := mX8_init) dX5_init_35 (Or.inl lX5_29) tX8_init (cm_X8_init) rfl rfl (Nat.le_of_ble_eq_true rfl) ⟨Nat.le_of_ble_eq_true rfl, Nat.le_of_ble_eq_true rfl⟩ ⟨Nat.le_of_ble_eq_true rfl, Nat.le_of_ble_eq_true rfl⟩ (fun v1 h1 hl1 hk1 hm1 => ?_)
  obtain ⟨rfl, rfl⟩ := hk1
  refine xe_putr (r := some (_, _)) dX5_init_38 fX5_32 (fun q hq => Or.inr (by cases hq; exact ⟨rfl, rfl, rfl, q_in (by decide +kernel) (by decide +kernel)⟩)) rfl (fun _ _ => rfl) ?_
  exact xe_vret dX5_init_41 rfl ⟨rfl, rfl⟩
def qi_X11 (h : q_H) : q_H := (q_sr (q_nu (q_sr (q_nu (q_sr (q_nu (q_sr (q_nu (q_sr (q_nu (q_sr (q_nu (q_sr (q_nu (q_set (q_sr (q_nu (q_sr (q_nu (q_sr (q_nu (q_sr (q_nu (q_sr (q_nu (q_sr (q_nu (q_sr (q_nu (q_sr (q_nu (q_sr (q_nu (q_sr (q_nu (q_sr (q_nu (q_sr (q_nu (q_sr (q_nu (q_sr (q_nu (q_sr (q_nu (q_sr (q_nu (q_sr (q_nu (q_sr (q_nu (q_sr (q_nu (q_sr (q_nu (q_sr (q_nu (q_sr (q_nu (q_sr (q_nu (q_sr (q_nu (q_sr (q_nu (q_sr (q_nu (q_sr (q_nu (q_sr (q_nu (q_sr (q_nu (q_sr (q_nu (q_sr (q_nu (q_sr (q_nu h 40) 11 0 3 (some (40, h.2.2 40))) 41) 11 0 4 (some (41, h.2.2 41))) 42) 11 0 5 (some (42, h.2.2 42))) 43) 11 0 7 (some (43, h.2.2 43))) 44) 11 0 8 (some (44, h.2.2 44))) 45) 11 0 9 (some (45, h.2.2 45))) 46) 11 0 10 (some (46, h.2.2 46))) 47) 11 0 12 (some (47, h.2.2 47))) 48) 11 0 13 (some (48, h.2.2 48))) 49) 11 0 14 (some (49, h.2.2 49))) 50) 11 0 15 (some (50, h.2.2 50))) 51) 11 0 16 (some (51, h.2.2 51))) 52) 11 0 17 (some (52, h.2.2 52))) 53) 11 0 18 (some (53, h.2.2 53))) 54) 11 0 19 (some (54, h.2.2 54))) 55) 11 0 21 (some (55, h.2.2 55))) 56) 11 0 22 (some (56, h.2.2 56))) 57) 11 0 23 (some (57, h.2.2 57))) 58) 11 0 24 (some (58, h.2.2 58))) 59) 11 0 25 (some (59, h.2.2 59))) 60) 11 0 26 (some (60, h.2.2 60))) 61) 11 0 27 (some (61, h.2.2 61))) 62) 11 0 28 (some (62, h.2.2 62))) 63) 11 0 29 (some (63, h.2.2 63))) 64) 11 0 30 (some (64, h.2.2 64))) 65) 11 0 32 (some (65, h.2.2 65))) 66) 11 0 33 (some (66, h.2.2 66))) 67) 11 0 34 (some (67, h.2.2 67))) 68) 11 0 35 (some (68, h.2.2 68))) 69) 11 0 37 (some (69, h.2.2 69))) 70) 11 0 38 (some (70, h.2.2 70))) 71) 11 0 41 (some (71, h.2.2 71))) 11 0 49 (-1)) 72) 11 0 51 (some (72, h.2.2 72))) 73) 11 0 52 (some (73, h.2.2 73))) 74) 11 0 53 (some (74, h.2.2 74))) 75) 11 0 54 (some (75, h.2.2 75))) 76) 11 0 55 (some (76, h.2.2 76))) 77) 11 0 56 (some (77, h.2.2 77))) 78) 11 0 57 (some (78, h.2.2 78)))
set_option maxHeartbeats 8000000 in
set_option maxRecDepth 10000 in
theorem cm_X11_init {g : q_G} {h : q_H} : q_Ct g mX11_init (q_Rm 1 39 6954) [q_O 11 0] h (fun v h' => v = [] ∧ h' = qi_X11 h) := by
  refine q_mk rfl rfl (Nat.le_of_ble_eq_true rfl) (q_cs rfl q_nil) (fun hv => ?_)
  refine xe_aload_n dX11_init_0 rfl q_rvO ?_
  refine xe_obj dX11_init_1 ⟨lX11_7, q_wObj⟩ (Nat.le_of_ble_eq_true rfl) ⟨Nat.le_of_ble_eq_true rfl, Nat.le_of_ble_eq_true rfl⟩ ?_
  refine xe_aload_n dX11_init_4 rfl q_rvO ?_
  refine xe_bipush 6 dX11_init_5 (by decide) ?_
  refine xe_newa (c := 40) dX11_init_7 rfl rfl q_ac_int (fun _ _ h => h) (by decide) (by decide) (by decide) (Nat.le_of_ble_eq_true rfl) (Nat.le_of_ble_eq_true rfl) ?_
  refine xe_putr (r := some (_, _)) dX11_init_9 fX11_13 (fun q hq => Or.inr (by cases hq; exact ⟨rfl, rfl, rfl, q_in (by decide +kernel) (by decide +kernel)⟩)) rfl (fun _ _ => rfl) ?_
  refine xe_aload_n dX11_init_12 rfl q_rvO ?_
  refine xe_bipush 6 dX11_init_13 (by decide) ?_
  refine xe_newa (c := 41) dX11_init_15 rfl rfl q_ac_int (fun _ _ h => h) (by decide) (by decide) (by decide) (Nat.le_of_ble_eq_true rfl) (Nat.le_of_ble_eq_true rfl) ?_
  refine xe_putr (r := some (_, _)) dX11_init_17 fX11_17 (fun q hq => Or.inr (by cases hq; exact ⟨rfl, rfl, rfl, q_in (by decide +kernel) (by decide +kernel)⟩)) rfl (fun _ _ => rfl) ?_
  refine xe_aload_n dX11_init_20 rfl q_rvO ?_
  refine xe_bipush 6 dX11_init_21 (by decide) ?_
  refine xe_newa (c := 42) dX11_init_23 rfl rfl q_ac_boolean (fun _ _ h => h) (by decide) (by decide) (by decide) (Nat.le_of_ble_eq_true rfl) (Nat.le_of_ble_eq_true rfl) ?_
  refine xe_putr (r := some (_, _)) dX11_init_25 fX11_20 (fun q hq => Or.inr (by cases hq; exact ⟨rfl, rfl, rfl, q_in (by decide +kernel) (by decide +kernel)⟩)) rfl (fun _ _ => rfl) ?_
  refine xe_aload_n dX11_init_28 rfl q_rvO ?_
  refine xe_bipush 60 dX11_init_29 (by decide) ?_
  refine xe_newa (c := 43) dX11_init_31 rfl rfl q_ac_int (fun _ _ h => h) (by decide) (by decide) (by decide) (Nat.le_of_ble_eq_true rfl) (Nat.le_of_ble_eq_true rfl) ?_
  refine xe_putr (r := some (_, _)) dX11_init_33 fX11_24 (fun q hq => Or.inr (by cases hq; exact ⟨rfl, rfl, rfl, q_in (by decide +kernel) (by decide +kernel)⟩)) rfl (fun _ _ => rfl) ?_
  refine xe_aload_n dX11_init_36 rfl q_rvO ?_
  refine xe_bipush 60 dX11_init_37 (by decide) ?_
  refine xe_newa (c := 44) dX11_init_39 rfl rfl q_ac_int (fun _ _ h => h) (by decide) (by decide) (by decide) (Nat.le_of_ble_eq_true rfl) (Nat.le_of_ble_eq_true rfl) ?_
  refine xe_putr (r := some (_, _)) dX11_init_41 fX11_27 (fun q hq => Or.inr (by cases hq; exact ⟨rfl, rfl, rfl, q_in (by decide +kernel) (by decide +kernel)⟩)) rfl (fun _ _ => rfl) ?_
  refine xe_aload_n dX11_init_44 rfl q_rvO ?_
  refine xe_bipush 60 dX11_init_45 (by decide) ?_
  refine xe_newa (c := 45) dX11_init_47 rfl rfl q_ac_int (fun _ _ h => h) (by decide) (by decide) (by decide) (Nat.le_of_ble_eq_true rfl) (Nat.le_of_ble_eq_true rfl) ?_
  refine xe_putr (r := some (_, _)) dX11_init_49 fX11_30 (fun q hq => Or.inr (by cases hq; exact ⟨rfl, rfl, rfl, q_in (by decide +kernel) (by decide +kernel)⟩)) rfl (fun _ _ => rfl) ?_
  refine xe_aload_n dX11_init_52 rfl q_rvO ?_
  refine xe_bipush 60 dX11_init_53 (by decide) ?_
  refine xe_newa (c := 46) dX11_init_55 rfl rfl q_ac_int (fun _ _ h => h) (by decide) (by decide) (by decide) (Nat.le_of_ble_eq_true rfl) (Nat.le_of_ble_eq_true rfl) ?_
  refine xe_putr (r := some (_, _)) dX11_init_57 fX11_33 (fun q hq => Or.inr (by cases hq; exact ⟨rfl, rfl, rfl, q_in (by decide +kernel) (by decide +kernel)⟩)) rfl (fun _ _ => rfl) ?_
  refine xe_aload_n dX11_init_60 rfl q_rvO ?_
  refine xe_iconst 4 dX11_init_61 (by decide) ?_
  refine xe_newa (c := 47) dX11_init_62 rfl rfl q_ac_int (fun _ _ h => h) (by decide) (by decide) (by decide) (Nat.le_of_ble_eq_true rfl) (Nat.le_of_ble_eq_true rfl) ?_
  refine xe_putr (r := some (_, _)) dX11_init_64 fX11_36 (fun q hq => Or.inr (by cases hq; exact ⟨rfl, rfl, rfl, q_in (by decide +kernel) (by decide +kernel)⟩)) rfl (fun _ _ => rfl) ?_
  refine xe_aload_n dX11_init_67 rfl q_rvO ?_
  refine xe_iconst 4 dX11_init_68 (by decide) ?_
  refine xe_newa (c := 48) dX11_init_69 rfl rfl q_ac_int (fun _ _ h => h) (by decide) (by decide) (by decide) (Nat.le_of_ble_eq_true rfl) (Nat.le_of_ble_eq_true rfl) ?_
  refine xe_putr (r := some (_, _)) dX11_init_71 fX11_39 (fun q hq => Or.inr (by cases hq; exact ⟨rfl, rfl, rfl, q_in (by decide +kernel) (by decide +kernel)⟩)) rfl (fun _ _ => rfl) ?_
  refine xe_aload_n dX11_init_74 rfl q_rvO ?_
  refine xe_iconst 4 dX11_init_75 (by decide) ?_
  refine xe_newa (c := 49) dX11_init_76 rfl rfl q_ac_boolean (fun _ _ h => h) (by decide) (by decide) (by decide) (Nat.le_of_ble_eq_true rfl) (Nat.le_of_ble_eq_true rfl) ?_
  refine xe_putr (r := some (_, _)) dX11_init_78 fX11_42 (fun q hq => Or.inr (by cases hq; exact ⟨rfl, rfl, rfl, q_in (by decide +kernel) (by decide +kernel)⟩)) rfl (fun _ _ => rfl) ?_
  refine xe_aload_n dX11_init_81 rfl q_rvO ?_
  refine xe_iconst 4 dX11_init_82 (by decide) ?_
  refine xe_newa (c := 50) dX11_init_83 rfl rfl q_ac_int (fun _ _ h => h) (by decide) (by decide) (by decide) (Nat.le_of_ble_eq_true rfl) (Nat.le_of_ble_eq_true rfl) ?_
  refine xe_putr (r := some (_, _)) dX11_init_85 fX11_45 (fun q hq => Or.inr (by cases hq; exact ⟨rfl, rfl, rfl, q_in (by decide +kernel) (by decide +kernel)⟩)) rfl (fun _ _ => rfl) ?_
  refine xe_aload_n dX11_init_88 rfl q_rvO ?_
  refine xe_bipush 12 dX11_init_89 (by decide) ?_
  refine xe_newa (c := 51) dX11_init_91 rfl rfl q_ac_int (fun _ _ h => h) (by decide) (by decide) (by decide) (Nat.le_of_ble_eq_true rfl) (Nat.le_of_ble_eq_true rfl) ?_
  refine xe_putr (r := some (_, _)) dX11_init_93 fX11_48 (fun q hq => Or.inr (by cases hq; exact ⟨rfl, rfl, rfl, q_in (by decide +kernel) (by decide +kernel)⟩)) rfl (fun _ _ => rfl) ?_
  refine xe_aload_n dX11_init_96 rfl q_rvO ?_
  refine xe_bipush 12 dX11_init_97 (by decide) ?_
  refine xe_newa (c := 52) dX11_init_99 rfl rfl q_ac_int (fun _ _ h => h) (by decide) (by decide) (by decide) (Nat.le_of_ble_eq_true rfl) (Nat.le_of_ble_eq_true rfl) ?_
  refine xe_putr (r := some (_, _)) dX11_init_101 fX11_51 (fun q hq => Or.inr (by cases hq; exact ⟨rfl, rfl, rfl, q_in (by decide +kernel) (by decide +kernel)⟩)) rfl (fun _ _ => rfl) ?_
  refine xe_aload_n dX11_init_104 rfl q_rvO ?_
  refine xe_bipush 12 dX11_init_105 (by decide) ?_
  refine xe_newa (c := 53) dX11_init_107 rfl rfl q_ac_boolean (fun _ _ h => h) (by decide) (by decide) (by decide) (Nat.le_of_ble_eq_true rfl) (Nat.le_of_ble_eq_true rfl) ?_
  refine xe_putr (r := some (_, _)) dX11_init_109 fX11_54 (fun q hq => Or.inr (by cases hq; exact ⟨rfl, rfl, rfl, q_in (by decide +kernel) (by decide +kernel)⟩)) rfl (fun _ _ => rfl) ?_
  refine xe_aload_n dX11_init_112 rfl q_rvO ?_
  refine xe_bipush 12 dX11_init_113 (by decide) ?_
  refine xe_newa (c := 54) dX11_init_115 rfl rfl q_ac_int (fun _ _ h => h) (by decide) (by decide) (by decide) (Nat.le_of_ble_eq_true rfl) (Nat.le_of_ble_eq_true rfl) ?_
  refine xe_putr (r := some (_, _)) dX11_init_117 fX11_57 (fun q hq => Or.inr (by cases hq; exact ⟨rfl, rfl, rfl, q_in (by decide +kernel) (by decide +kernel)⟩)) rfl (fun _ _ => rfl) ?_
  refine xe_aload_n dX11_init_120 rfl q_rvO ?_
  refine xe_bipush 100 dX11_init_121 (by decide) ?_
  refine xe_newa (c := 55) dX11_init_123 rfl rfl q_ac_int (fun _ _ h => h) (by decide) (by decide) (by decide) (Nat.le_of_ble_eq_true rfl) (Nat.le_of_ble_eq_true rfl) ?_
  refine xe_putr (r := some (_, _)) dX11_init_125 fX11_60 (fun q hq => Or.inr (by cases hq; exact ⟨rfl, rfl, rfl, q_in (by decide +kernel) (by decide +kernel)⟩)) rfl (fun _ _ => rfl) ?_
  refine xe_aload_n dX11_init_128 rfl q_rvO ?_
  refine xe_bipush 100 dX11_init_129 (by decide) ?_
  refine xe_newa (c := 56) dX11_init_131 rfl rfl q_ac_int (fun _ _ h => h) (by decide) (by decide) (by decide) (Nat.le_of_ble_eq_true rfl) (Nat.le_of_ble_eq_true rfl) ?_
  refine xe_putr (r := some (_, _)) dX11_init_133 fX11_63 (fun q hq => Or.inr (by cases hq; exact ⟨rfl, rfl, rfl, q_in (by decide +kernel) (by decide +kernel)⟩)) rfl (fun _ _ => rfl) ?_
  refine xe_aload_n dX11_init_136 rfl q_rvO ?_
  refine xe_bipush 100 dX11_init_137 (by decide) ?_
  refine xe_newa (c := 57) dX11_init_139 rfl rfl q_ac_int (fun _ _ h => h) (by decide) (by decide) (by decide) (Nat.le_of_ble_eq_true rfl) (Nat.le_of_ble_eq_true rfl) ?_
  refine xe_putr (r := some (_, _)) dX11_init_141 fX11_66 (fun q hq => Or.inr (by cases hq; exact ⟨rfl, rfl, rfl, q_in (by decide +kernel) (by decide +kernel)⟩)) rfl (fun _ _ => rfl) ?_
  refine xe_aload_n dX11_init_144 rfl q_rvO ?_
  refine xe_bipush 100 dX11_init_145 (by decide) ?_
  refine xe_newa (c := 58) dX11_init_147 rfl rfl q_ac_int (fun _ _ h => h) (by decide) (by decide) (by decide) (Nat.le_of_ble_eq_true rfl) (Nat.le_of_ble_eq_true rfl) ?_
  refine xe_putr (r := some (_, _)) dX11_init_149 fX11_69 (fun q hq => Or.inr (by cases hq; exact ⟨rfl, rfl, rfl, q_in (by decide +kernel) (by decide +kernel)⟩)) rfl (fun _ _ => rfl) ?_
  refine xe_aload_n dX11_init_152 rfl q_rvO ?_
  refine xe_bipush 100 dX11_init_153 (by decide) ?_
  refine xe_newa (c := 59) dX11_init_155 rfl rfl q_ac_int (fun _ _ h => h) (by decide) (by decide) (by decide) (Nat.le_of_ble_eq_true rfl) (Nat.le_of_ble_eq_true rfl) ?_
  refine xe_putr (r := some (_, _)) dX11_init_157 fX11_72 (fun q hq => Or.inr (by cases hq; exact ⟨rfl, rfl, rfl, q_in (by decide +kernel) (by decide +kernel)⟩)) rfl (fun _ _ => rfl) ?_
  refine xe_aload_n dX11_init_160 rfl q_rvO ?_
  refine xe_bipush 100 dX11_init_161 (by decide) ?_
  refine xe_newa (c := 60) dX11_init_163 rfl rfl q_ac_int (fun _ _ h => h) (by decide) (by decide) (by decide) (Nat.le_of_ble_eq_true rfl) (Nat.le_of_ble_eq_true rfl) ?_
  refine xe_putr (r := some (_, _)) dX11_init_165 fX11_75 (fun q hq => Or.inr (by cases hq; exact ⟨rfl, rfl, rfl, q_in (by decide +kernel) (by decide +kernel)⟩)) rfl (fun _ _ => rfl) ?_
  refine xe_aload_n dX11_init_168 rfl q_rvO ?_
  refine xe_bipush 100 dX11_init_169 (by decide) ?_
  refine xe_newa (c := 61) dX11_init_171 rfl rfl q_ac_int (fun _ _ h => h) (by decide) (by decide) (by decide) (Nat.le_of_ble_eq_true rfl) (Nat.le_of_ble_eq_true rfl) ?_
  refine xe_putr (r := some (_, _)) dX11_init_173 fX11_78 (fun q hq => Or.inr (by cases hq; exact ⟨rfl, rfl, rfl, q_in (by decide +kernel) (by decide +kernel)⟩)) rfl (fun _ _ => rfl) ?_
  refine xe_aload_n dX11_init_176 rfl q_rvO ?_
  refine xe_bipush 100 dX11_init_177 (by decide) ?_
  refine xe_newa (c := 62) dX11_init_179 rfl rfl q_ac_int (fun _ _ h => h) (by decide) (by decide) (by decide) (Nat.le_of_ble_eq_true rfl) (Nat.le_of_ble_eq_true rfl) ?_
  refine xe_putr (r := some (_, _)) dX11_init_181 fX11_81 (fun q hq => Or.inr (by cases hq; exact ⟨rfl, rfl, rfl, q_in (by decide +kernel) (by decide +kernel)⟩)) rfl (fun _ _ => rfl) ?_
  refine xe_aload_n dX11_init_184 rfl q_rvO ?_
  refine xe_bipush 100 dX11_init_185 (by decide) ?_
  refine xe_newa (c := 63) dX11_init_187 rfl rfl q_ac_int (fun _ _ h => h) (by decide) (by decide) (by decide) (Nat.le_of_ble_eq_true rfl) (Nat.le_of_ble_eq_true rfl) ?_
  refine xe_putr (r := some (_, _)) dX11_init_189 fX11_84 (fun q hq => Or.inr (by cases hq; exact ⟨rfl, rfl, rfl, q_in (by decide +kernel) (by decide +kernel)⟩)) rfl (fun _ _ => rfl) ?_
  refine xe_aload_n dX11_init_192 rfl q_rvO ?_
  refine xe_bipush 100 dX11_init_193 (by decide) ?_
  refine xe_newa (c := 64) dX11_init_195 rfl rfl q_ac_int (fun _ _ h => h) (by decide) (by decide) (by decide) (Nat.le_of_ble_eq_true rfl) (Nat.le_of_ble_eq_true rfl) ?_
  refine xe_putr (r := some (_, _)) dX11_init_197 fX11_87 (fun q hq => Or.inr (by cases hq; exact ⟨rfl, rfl, rfl, q_in (by decide +kernel) (by decide +kernel)⟩)) rfl (fun _ _ => rfl) ?_
  refine xe_aload_n dX11_init_200 rfl q_rvO ?_
  refine xe_sipush 700 dX11_init_201 (by decide) ?_
  refine xe_newa (c := 65) dX11_init_204 rfl rfl q_ac_int (fun _ _ h => h) (by decide) (by decide) (by decide) (Nat.le_of_ble_eq_true rfl) (Nat.le_of_ble_eq_true rfl) ?_
  refine xe_putr (r := some (_, _)) dX11_init_206 fX11_90 (fun q hq => Or.inr (by cases hq; exact ⟨rfl, rfl, rfl, q_in (by decide +kernel) (by decide +kernel)⟩)) rfl (fun _ _ => rfl) ?_
  refine xe_aload_n dX11_init_209 rfl q_rvO ?_
  refine xe_sipush 700 dX11_init_210 (by decide) ?_
  refine xe_newa (c := 66) dX11_init_213 rfl rfl q_ac_int (fun _ _ h => h) (by decide) (by decide) (by decide) (Nat.le_of_ble_eq_true rfl) (Nat.le_of_ble_eq_true rfl) ?_
  refine xe_putr (r := some (_, _)) dX11_init_215 fX11_93 (fun q hq => Or.inr (by cases hq; exact ⟨rfl, rfl, rfl, q_in (by decide +kernel) (by decide +kernel)⟩)) rfl (fun _ _ => rfl) ?_
  refine xe_aload_n dX11_init_218 rfl q_rvO ?_
  refine xe_sipush 700 dX11_init_219 (by decide) ?_
  refine xe_newa (c := 67) dX11_init_222 rfl rfl q_ac_int (fun _ _ h => h) (by decide) (by decide) (by decide) (Nat.le_of_ble_eq_true rfl) (Nat.le_of_ble_eq_true rfl) ?_
  refine xe_putr (r := some (_, _)) dX11_init_224 fX11_96 (fun q hq => Or.inr (by cases hq; exact ⟨rfl, rfl, rfl, q_in (by decide +kernel) (by decide +kernel)⟩)) rfl (fun _ _ => rfl) ?_
  refine xe_aload_n dX11_init_227 rfl q_rvO ?_
  refine xe_bipush 10 dX11_init_228 (by decide) ?_
  refine xe_newa (c := 68) dX11_init_230 rfl rfl q_ac_int (fun _ _ h => h) (by decide) (by decide) (by decide) (Nat.le_of_ble_eq_true rfl) (Nat.le_of_ble_eq_true rfl) ?_
  refine xe_putr (r := some (_, _)) dX11_init_232 fX11_99 (fun q hq => Or.inr (by cases hq; exact ⟨rfl, rfl, rfl, q_in (by decide +kernel) (by decide +kernel)⟩)) rfl (fun _ _ => rfl) ?_
  refine xe_aload_n dX11_init_235 rfl q_rvO ?_
  refine xe_bipush 10 dX11_init_236 (by decide) ?_
  refine xe_newa (c := 69) dX11_init_238 rfl rfl q_ac_int (fun _ _ h => h) (by decide) (by decide) (by decide) (Nat.le_of_ble_eq_true rfl) (Nat.le_of_ble_eq_true rfl) ?_
  refine xe_putr (r := some (_, _)) dX11_init_240 fX11_102 (fun q hq => Or.inr (by cases hq; exact ⟨rfl, rfl, rfl, q_in (by decide +kernel) (by decide +kernel)⟩)) rfl (fun _ _ => rfl) ?_
  refine xe_aload_n dX11_init_243 rfl q_rvO ?_
  refine xe_bipush 10 dX11_init_244 (by decide) ?_
  refine xe_newa (c := 70) dX11_init_246 rfl rfl q_ac_int (fun _ _ h => h) (by decide) (by decide) (by decide) (Nat.le_of_ble_eq_true rfl) (Nat.le_of_ble_eq_true rfl) ?_
  refine xe_putr (r := some (_, _)) dX11_init_248 fX11_105 (fun q hq => Or.inr (by cases hq; exact ⟨rfl, rfl, rfl, q_in (by decide +kernel) (by decide +kernel)⟩)) rfl (fun _ _ => rfl) ?_
  refine xe_aload_n dX11_init_251 rfl q_rvO ?_
  refine xe_sipush 400 dX11_init_252 (by decide) ?_
  refine xe_newa (c := 71) dX11_init_255 rfl rfl q_ac_byte (fun _ _ h => h) (by decide) (by decide) (by decide) (Nat.le_of_ble_eq_true rfl) (Nat.le_of_ble_eq_true rfl) ?_
  refine xe_putr (r := some (_, _)) dX11_init_257 fX11_108 (fun q hq => Or.inr (by cases hq; exact ⟨rfl, rfl, rfl, q_in (by decide +kernel) (by decide +kernel)⟩)) rfl (fun _ _ => rfl) ?_
  refine xe_aload_n dX11_init_260 rfl q_rvO ?_
  refine xe_iconst (-1) dX11_init_261 (by decide) ?_
  refine xe_puti dX11_init_262 fX11_112 (fun q hq => Or.inl (by cases hq; rfl)) ⟨rfl, rfl⟩ (fun _ _ => rfl) ?_
  refine xe_aload_n dX11_init_265 rfl q_rvO ?_
  refine xe_bipush 11 dX11_init_266 (by decide) ?_
  refine xe_newa (c := 72) dX11_init_268 rfl rfl q_ac_int (fun _ _ h => h) (by decide) (by decide) (by decide) (Nat.le_of_ble_eq_true rfl) (Nat.le_of_ble_eq_true rfl) ?_
  refine xe_putr (r := some (_, _)) dX11_init_270 fX11_115 (fun q hq => Or.inr (by cases hq; exact ⟨rfl, rfl, rfl, q_in (by decide +kernel) (by decide +kernel)⟩)) rfl (fun _ _ => rfl) ?_
  refine xe_aload_n dX11_init_273 rfl q_rvO ?_
  refine xe_bipush 11 dX11_init_274 (by decide) ?_
  refine xe_newa (c := 73) dX11_init_276 rfl rfl q_ac_int (fun _ _ h => h) (by decide) (by decide) (by decide) (Nat.le_of_ble_eq_true rfl) (Nat.le_of_ble_eq_true rfl) ?_
  refine xe_putr (r := some (_, _)) dX11_init_278 fX11_118 (fun q hq => Or.inr (by cases hq; exact ⟨rfl, rfl, rfl, q_in (by decide +kernel) (by decide +kernel)⟩)) rfl (fun _ _ => rfl) ?_
  refine xe_aload_n dX11_init_281 rfl q_rvO ?_
  refine xe_sipush 220 dX11_init_282 (by decide) ?_
  refine xe_newa (c := 74) dX11_init_285 rfl rfl q_ac_int (fun _ _ h => h) (by decide) (by decide) (by decide) (Nat.le_of_ble_eq_true rfl) (Nat.le_of_ble_eq_true rfl) ?_
  refine xe_putr (r := some (_, _)) dX11_init_287 fX11_121 (fun q hq => Or.inr (by cases hq; exact ⟨rfl, rfl, rfl, q_in (by decide +kernel) (by decide +kernel)⟩)) rfl (fun _ _ => rfl) ?_
  refine xe_aload_n dX11_init_290 rfl q_rvO ?_
  refine xe_sipush 220 dX11_init_291 (by decide) ?_
  refine xe_newa (c := 75) dX11_init_294 rfl rfl q_ac_int (fun _ _ h => h) (by decide) (by decide) (by decide) (Nat.le_of_ble_eq_true rfl) (Nat.le_of_ble_eq_true rfl) ?_
  refine xe_putr (r := some (_, _)) dX11_init_296 fX11_124 (fun q hq => Or.inr (by cases hq; exact ⟨rfl, rfl, rfl, q_in (by decide +kernel) (by decide +kernel)⟩)) rfl (fun _ _ => rfl) ?_
  refine xe_aload_n dX11_init_299 rfl q_rvO ?_
  refine xe_sipush 880 dX11_init_300 (by decide) ?_
  refine xe_newa (c := 76) dX11_init_303 rfl rfl q_ac_int (fun _ _ h => h) (by decide) (by decide) (by decide) (Nat.le_of_ble_eq_true rfl) (Nat.le_of_ble_eq_true rfl) ?_
  refine xe_putr (r := some (_, _)) dX11_init_305 fX11_127 (fun q hq => Or.inr (by cases hq; exact ⟨rfl, rfl, rfl, q_in (by decide +kernel) (by decide +kernel)⟩)) rfl (fun _ _ => rfl) ?_
  refine xe_aload_n dX11_init_308 rfl q_rvO ?_
  refine xe_sipush 880 dX11_init_309 (by decide) ?_
  refine xe_newa (c := 77) dX11_init_312 rfl rfl q_ac_int (fun _ _ h => h) (by decide) (by decide) (by decide) (Nat.le_of_ble_eq_true rfl) (Nat.le_of_ble_eq_true rfl) ?_
  refine xe_putr (r := some (_, _)) dX11_init_314 fX11_130 (fun q hq => Or.inr (by cases hq; exact ⟨rfl, rfl, rfl, q_in (by decide +kernel) (by decide +kernel)⟩)) rfl (fun _ _ => rfl) ?_
  refine xe_aload_n dX11_init_317 rfl q_rvO ?_
  refine xe_sipush 880 dX11_init_318 (by decide) ?_
  refine xe_newa (c := 78) dX11_init_321 rfl rfl q_ac_int (fun _ _ h => h) (by decide) (by decide) (by decide) (Nat.le_of_ble_eq_true rfl) (Nat.le_of_ble_eq_true rfl) ?_
  refine xe_putr (r := some (_, _)) dX11_init_323 fX11_133 (fun q hq => Or.inr (by cases hq; exact ⟨rfl, rfl, rfl, q_in (by decide +kernel) (by decide +kernel)⟩)) rfl (fun _ _ => rfl) ?_
  exact xe_vret dX11_init_326 rfl ⟨rfl, rfl⟩
def qi_X10a (h : q_H) : q_H := (q_set (q_set (q_set (q_set (q_set (q_sr (qi_X1 (q_nu (q_sr (qi_X5 (q_nu (q_sr (qi_X7 (q_nu (q_sr (qi_X2 (q_nu (q_sr (q_nu (q_sr (q_nu (q_sr (q_nu (q_sr (qi_X6 (q_nu h 6) (h.2.2 6)) 10 0 0 (some (6, h.2.2 6))) 37) 10 0 1 (some (37, h.2.2 37))) 38) 10 0 2 (some (38, h.2.2 38))) 39) 10 0 3 (some (39, h.2.2 39))) 2) (h.2.2 2)) 10 0 4 (some (2, h.2.2 2))) 7) (h.2.2 7)) 10 0 5 (some (7, h.2.2 7))) 5) (h.2.2 5) (h.2.2 7)) 10 0 6 (some (5, h.2.2 5))) 1) (h.2.2 1)) 10 0 7 (some (1, h.2.2 1))) 10 0 8 0) 10 0 9 0) 10 0 10 0) 10 0 11 (-1)) 10 0 12 0)
def qi_X10s (h : q_H) (n k : Nat) : q_H := q_sr (qi_X0 (q_nu h 0) (h.2.2 0)) 39 n k (some (0, h.2.2 0))
def qi_X10b (h : q_H) (n : Nat) : Nat → q_H
  | 0 => h
  | k + 1 => qi_X10s (qi_X10b h n k) n k
theorem qi_X10b_at (h : q_H) (n k : Nat) : (qi_X10b h n k).2.1 10 0 3 = h.2.1 10 0 3 := by
  induction k with
  | zero => rfl
  | succ k ih =>
    refine Eq.trans ?_ ih
    show (qi_X10s (qi_X10b h n k) n k).2.1 10 0 3 = _
    generalize qi_X10b h n k = h1
    rfl
def qi_X10 (h : q_H) : q_H := qi_X10b (qi_X10a h) (h.2.2 39) 10
set_option maxHeartbeats 8000000 in
set_option maxRecDepth 10000 in
theorem el_X10_init {g : q_G} {h : q_H} {n : Nat} (hr : h.2.1 10 0 3 = some (39, n)) {K : List q_V → q_H → Prop} (hK : K [] (qi_X10b h n 10)) : ∀ (r k : Nat), k + r = 10 → q_E g mX10_init (q_Rm 4 88 6479) K (28 + 6 * k, 3599 + 288 * k) 116 [some (q_O 10 0), some (q_I (nI k))] [] (qi_X10b h n k) := by
  intro r
  induction r with
  | zero =>
    intro k hk
    have e : k = 10 := by omega
    subst e
    refine xe_iload_n dX10_init_116 rfl ?_
    refine xe_bipush 10 dX10_init_117 (by decide) ?_
    refine xe_ic_ge 141 dX10_init_119 (by decide) (fun c => ?_) (fun c => absurd (show (10 : Int32) ≤ nI 10 by decide) c)
    exact xe_vret dX10_init_141 rfl hK
  | succ r ih =>
    intro k hk
    have hk2 : k < 10 := by omega
    refine xe_iload_n dX10_init_116 rfl ?_
    refine xe_bipush 10 dX10_init_117 (by decide) ?_
    refine xe_ic_ge 141 dX10_init_119 (by decide) (fun c => absurd c (nI_ge (a := k) (b := 10) hk2 (by decide))) (fun c => ?_)
    refine xe_aload_n dX10_init_122 rfl q_rvO ?_
    refine xe_getr dX10_init_123 fX10_30 (fun _ _ => rfl) ((qi_X10b_at h n k).trans hr) ?_
    refine xe_iload_n dX10_init_126 rfl ?_
    refine xe_new (c := 0) dX10_init_127 rfl kX10_28 q_ins0.1 q_ins0.2 (by show 28 + 6 * k + 1 ≤ 88; omega) (by show 3599 + 288 * k + 8 ≤ 6479; omega) ?_
    refine xe_dup dX10_init_130 rfl ?_
    refine xe_ci (y' := mX0_init) dX10_init_131 (Or.inr ⟨_, lX10_80⟩) tX0_init (cm_X0_init) rfl rfl (Nat.le_of_ble_eq_true rfl) ⟨Nat.le_of_ble_eq_true rfl, Nat.le_of_ble_eq_true rfl⟩ ⟨by show 28 + 6 * k + 1 + 5 ≤ 88; omega, by show 3599 + 288 * k + 8 + 280 ≤ 6479; omega⟩ (fun v1 h1 hl1 hk1 hm1 => ?_)
    obtain ⟨rfl, rfl⟩ := hk1
    have e9 : (nI k).toNatClampNeg = k := nI_clamp (by omega)
    refine xe_aast (q := (RX0, TX0, 8)) dX10_init_134 rfl rfl (vp_in_nI hk2 (by decide)) ?_
    rw [e9]
    refine xe_iinc (_ + 1) dX10_init_135 (by decide) rfl rfl ?_
    refine xe_goto 116 dX10_init_138 (by decide) ?_
    rw [nI_1]
    have := ih (k + 1) (by omega)
    exact this
set_option maxHeartbeats 8000000 in
set_option maxRecDepth 10000 in
theorem cm_X10_init {g : q_G} {h : q_H} : q_Ct g mX10_init (q_Rm 4 88 6479) [q_O 10 0] h (fun v h' => v = [] ∧ h' = qi_X10 h) := by
  refine q_mk rfl rfl (Nat.le_of_ble_eq_true rfl) (q_cs rfl q_nil) (fun hv => ?_)
  refine xe_aload_n dX10_init_0 rfl q_rvO ?_
  refine xe_obj dX10_init_1 ⟨lX10_1, q_wObj⟩ (Nat.le_of_ble_eq_true rfl) ⟨Nat.le_of_ble_eq_true rfl, Nat.le_of_ble_eq_true rfl⟩ ?_
  refine xe_aload_n dX10_init_4 rfl q_rvO ?_
  refine xe_new (c := 6) dX10_init_5 rfl kX10_7 q_ins6.1 q_ins6.2 (Nat.le_of_ble_eq_true rfl) (Nat.le_of_ble_eq_true rfl) ?_
  refine xe_dup dX10_init_8 rfl ?_
  refine xe_ci (y' := mX6_init) dX10_init_9 (Or.inr ⟨_, lX10_9⟩) tX6_init (cm_X6_init) rfl rfl (Nat.le_of_ble_eq_true rfl) ⟨Nat.le_of_ble_eq_true rfl, Nat.le_of_ble_eq_true rfl⟩ ⟨Nat.le_of_ble_eq_true rfl, Nat.le_of_ble_eq_true rfl⟩ (fun v1 h1 hl1 hk1 hm1 => ?_)
  obtain ⟨rfl, rfl⟩ := hk1
  refine xe_putr (r := some (_, _)) dX10_init_12 fX10_10 (fun q hq => Or.inr (by cases hq; exact ⟨rfl, rfl, rfl, q_in (by decide +kernel) (by decide +kernel)⟩)) rfl (fun _ _ => rfl) ?_
  refine xe_aload_n dX10_init_15 rfl q_rvO ?_
  refine xe_iconst 4 dX10_init_16 (by decide) ?_
  refine xe_newq (c := 37) dX10_init_17 rfl kX10_16 (by decide) (by decide) (by decide) (by decide) (Nat.le_of_ble_eq_true rfl) (Nat.le_of_ble_eq_true rfl) ?_
  refine xe_putr (r := some (_, _)) dX10_init_20 fX10_18 (fun q hq => Or.inr (by cases hq; exact ⟨rfl, rfl, rfl, q_in (by decide +kernel) (by decide +kernel)⟩)) rfl (fun _ _ => rfl) ?_
  refine xe_aload_n dX10_init_23 rfl q_rvO ?_
  refine xe_bipush 100 dX10_init_24 (by decide) ?_
  refine xe_newq (c := 38) dX10_init_26 rfl kX10_22 (by decide) (by decide) (by decide) (by decide) (Nat.le_of_ble_eq_true rfl) (Nat.le_of_ble_eq_true rfl) ?_
  refine xe_putr (r := some (_, _)) dX10_init_29 fX10_24 (fun q hq => Or.inr (by cases hq; exact ⟨rfl, rfl, rfl, q_in (by decide +kernel) (by decide +kernel)⟩)) rfl (fun _ _ => rfl) ?_
  refine xe_aload_n dX10_init_32 rfl q_rvO ?_
  refine xe_bipush 10 dX10_init_33 (by decide) ?_
  refine xe_newq (c := 39) dX10_init_35 rfl kX10_28 (by decide) (by decide) (by decide) (by decide) (Nat.le_of_ble_eq_true rfl) (Nat.le_of_ble_eq_true rfl) ?_
  refine xe_putr (r := some (_, _)) dX10_init_38 fX10_30 (fun q hq => Or.inr (by cases hq; exact ⟨rfl, rfl, rfl, q_in (by decide +kernel) (by decide +kernel)⟩)) rfl (fun _ _ => rfl) ?_
  refine xe_aload_n dX10_init_41 rfl q_rvO ?_
  refine xe_new (c := 2) dX10_init_42 rfl kX10_34 q_ins2.1 q_ins2.2 (Nat.le_of_ble_eq_true rfl) (Nat.le_of_ble_eq_true rfl) ?_
  refine xe_dup dX10_init_45 rfl ?_
  refine xe_ci (y' := mX2_init) dX10_init_46 (Or.inr ⟨_, lX10_36⟩) tX2_init (cm_X2_init) rfl rfl (Nat.le_of_ble_eq_true rfl) ⟨Nat.le_of_ble_eq_true rfl, Nat.le_of_ble_eq_true rfl⟩ ⟨Nat.le_of_ble_eq_true rfl, Nat.le_of_ble_eq_true rfl⟩ (fun v1 h1 hl1 hk1 hm1 => ?_)
  obtain ⟨rfl, rfl⟩ := hk1
  refine xe_putr (r := some (_, _)) dX10_init_49 fX10_37 (fun q hq => Or.inr (by cases hq; exact ⟨rfl, rfl, rfl, q_in (by decide +kernel) (by decide +kernel)⟩)) rfl (fun _ _ => rfl) ?_
  refine xe_aload_n dX10_init_52 rfl q_rvO ?_
  refine xe_new (c := 7) dX10_init_53 rfl kX10_41 q_ins7.1 q_ins7.2 (Nat.le_of_ble_eq_true rfl) (Nat.le_of_ble_eq_true rfl) ?_
  refine xe_dup dX10_init_56 rfl ?_
  refine xe_ci (y' := mX7_init) dX10_init_57 (Or.inr ⟨_, lX10_43⟩) tX7_init (cm_X7_init) rfl rfl (Nat.le_of_ble_eq_true rfl) ⟨Nat.le_of_ble_eq_true rfl, Nat.le_of_ble_eq_true rfl⟩ ⟨Nat.le_of_ble_eq_true rfl, Nat.le_of_ble_eq_true rfl⟩ (fun v1 h1 hl1 hk1 hm1 => ?_)
  obtain ⟨rfl, rfl⟩ := hk1
  refine xe_putr (r := some (_, _)) dX10_init_60 fX10_44 (fun q hq => Or.inr (by cases hq; exact ⟨rfl, rfl, rfl, q_in (by decide +kernel) (by decide +kernel)⟩)) rfl (fun _ _ => rfl) ?_
  refine xe_aload_n dX10_init_63 rfl q_rvO ?_
  refine xe_new (c := 5) dX10_init_64 rfl kX10_48 q_ins5.1 q_ins5.2 (Nat.le_of_ble_eq_true rfl) (Nat.le_of_ble_eq_true rfl) ?_
  refine xe_dup dX10_init_67 rfl ?_
  refine xe_aload_n dX10_init_68 rfl q_rvO ?_
  refine xe_getr (r := some (7, h.2.2 7)) dX10_init_69 fX10_44 (fun _ _ => rfl) rfl ?_
  refine xe_ci (y' := mX5_init) dX10_init_72 (Or.inl lX10_50) tX5_init (cm_X5_init) rfl rfl (Nat.le_of_ble_eq_true rfl) ⟨Nat.le_of_ble_eq_true rfl, Nat.le_of_ble_eq_true rfl⟩ ⟨Nat.le_of_ble_eq_true rfl, Nat.le_of_ble_eq_true rfl⟩ (fun v1 h1 hl1 hk1 hm1 => ?_)
  obtain ⟨rfl, rfl⟩ := hk1
  refine xe_putr (r := some (_, _)) dX10_init_75 fX10_53 (fun q hq => Or.inr (by cases hq; exact ⟨rfl, rfl, rfl, q_in (by decide +kernel) (by decide +kernel)⟩)) rfl (fun _ _ => rfl) ?_
  refine xe_aload_n dX10_init_78 rfl q_rvO ?_
  refine xe_new (c := 1) dX10_init_79 rfl kX10_57 q_ins1.1 q_ins1.2 (Nat.le_of_ble_eq_true rfl) (Nat.le_of_ble_eq_true rfl) ?_
  refine xe_dup dX10_init_82 rfl ?_
  refine xe_ci (y' := mX1_init) dX10_init_83 (Or.inr ⟨_, lX10_59⟩) tX1_init (cm_X1_init) rfl rfl (Nat.le_of_ble_eq_true rfl) ⟨Nat.le_of_ble_eq_true rfl, Nat.le_of_ble_eq_true rfl⟩ ⟨Nat.le_of_ble_eq_true rfl, Nat.le_of_ble_eq_true rfl⟩ (fun v1 h1 hl1 hk1 hm1 => ?_)
  obtain ⟨rfl, rfl⟩ := hk1
  refine xe_putr (r := some (_, _)) dX10_init_86 fX10_60 (fun q hq => Or.inr (by cases hq; exact ⟨rfl, rfl, rfl, q_in (by decide +kernel) (by decide +kernel)⟩)) rfl (fun _ _ => rfl) ?_
  refine xe_aload_n dX10_init_89 rfl q_rvO ?_
  refine xe_iconst 0 dX10_init_90 (by decide) ?_
  refine xe_puti dX10_init_91 fX10_64 (fun q hq => Or.inl (by cases hq; rfl)) ⟨rfl, rfl⟩ (fun _ _ => rfl) ?_
  refine xe_aload_n dX10_init_94 rfl q_rvO ?_
  refine xe_iconst 0 dX10_init_95 (by decide) ?_
  refine xe_puti dX10_init_96 fX10_68 (fun q hq => Or.inl (by cases hq; rfl)) ⟨rfl, rfl⟩ (fun _ _ => rfl) ?_
  refine xe_aload_n dX10_init_99 rfl q_rvO ?_
  refine xe_iconst 0 dX10_init_100 (by decide) ?_
  refine xe_puti dX10_init_101 fX10_71 (fun q hq => Or.inl (by cases hq; rfl)) ⟨rfl, rfl⟩ (fun _ _ => rfl) ?_
  refine xe_aload_n dX10_init_104 rfl q_rvO ?_
  refine xe_iconst (-1) dX10_init_105 (by decide) ?_
  refine xe_puti dX10_init_106 fX10_74 (fun q hq => Or.inl (by cases hq; rfl)) ⟨rfl, rfl⟩ (fun _ _ => rfl) ?_
  refine xe_aload_n dX10_init_109 rfl q_rvO ?_
  refine xe_iconst 0 dX10_init_110 (by decide) ?_
  refine xe_puti dX10_init_111 fX10_77 (fun q hq => Or.inl (by cases hq; rfl)) ⟨rfl, rfl⟩ (fun _ _ => rfl) ?_
  refine xe_iconst 0 dX10_init_114 (by decide) ?_
  refine xe_istore_n dX10_init_115 (by decide) ?_
  exact el_X10_init (g := g) (h := qi_X10a h) (n := h.2.2 39) rfl ⟨rfl, rfl⟩ 10 0 rfl
