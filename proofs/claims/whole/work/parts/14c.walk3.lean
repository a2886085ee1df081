def wl_X9_arrive_21 (t p : Nat) (post : qa → Prop) : Nat → Nat → Int32 → qa → Prop := fun o0 z0 y1 a => post (qs (qs (qs a 9 z0 1 y1) 9 o0 2 (-1)) 9 o0 4 (-1))
def wp_X9_arrive (t p : Nat) (i0 : Nat) (a : qa) (post : qa → Prop) : Prop := (((a 9 i0 3) = 0 → wl_X9_arrive_21 t p post i0 i0 (a 9 i0 2) a) ∧ (¬ (a 9 i0 3) = 0 → wl_X9_arrive_21 t p post i0 i0 ((a 9 i0 2) + 1) a))
set_option maxHeartbeats 4000000 in
theorem el_X9_arrive_21 {g : q_G} {s : q_S} {t p : Nat} (hS : q_Sh t p s) {post : qa → Prop} : ∀ (o0 : Nat) (z0 : Nat) (y1 : Int32) (a : qa), o0 < t → wl_X9_arrive_21 t p post o0 z0 y1 a → q_E g mX9_arrive (q_Rm 1 0 0) (q_kV s post) (0, 0) 21 [some (q_O 9 o0)] [(q_I y1), (q_O 9 z0)] (a, s) := by
  intro o0 z0 y1 a hi0 Wq
  unfold wl_X9_arrive_21 at Wq
  refine xf_puti dX9_arrive_21 fX9_31 (fun q hq => Or.inl (by cases hq; rfl)) ⟨rfl, rfl⟩ (fun _ _ => rfl) ?_
  refine xe_aload_n dX9_arrive_24 rfl q_rvO ?_
  refine xe_iconst (-1) dX9_arrive_25 (by decide) ?_
  refine xf_puti dX9_arrive_26 fX9_17 (fun q hq => Or.inl (by cases hq; rfl)) ⟨rfl, rfl⟩ (fun _ _ => rfl) ?_
  refine xe_aload_n dX9_arrive_29 rfl q_rvO ?_
  refine xe_iconst (-1) dX9_arrive_30 (by decide) ?_
  refine xf_puti dX9_arrive_31 fX9_25 (fun q hq => Or.inl (by cases hq; rfl)) ⟨rfl, rfl⟩ (fun _ _ => rfl) ?_
  exact xe_vret dX9_arrive_34 rfl ⟨_, rfl, rfl, Wq⟩
set_option maxHeartbeats 4000000 in
theorem ct_X9_arrive {g : q_G} {s : q_S} {t p : Nat} (hS : q_Sh t p s) {i0 : Nat} {a : qa} {post : qa → Prop} (Wq : wp_X9_arrive t p i0 a post) : q_Ct g mX9_arrive (q_Rm 1 0 0) [q_O 9 i0] (a, s) (q_kV s post) := by
  refine q_mk rfl rfl (Nat.le_of_ble_eq_true rfl) (q_cs rfl q_nil) (fun hv => ?_)
  have hi0 : i0 < t := q_lt9 hS (q_hd hv)
  unfold wp_X9_arrive at Wq
  refine xe_aload_n dX9_arrive_0 rfl q_rvO ?_
  refine xe_aload_n dX9_arrive_1 rfl q_rvO ?_
  refine xe_geti dX9_arrive_2 fX9_21 (fun _ _ => rfl) ?_
  refine xe_if_eq 17 dX9_arrive_5 (by decide) (fun c_5 => ?_) (fun c_5 => ?_)
  · replace Wq := Wq.1 c_5
    refine xe_aload_n dX9_arrive_17 rfl q_rvO ?_
    refine xe_geti dX9_arrive_18 fX9_17 (fun _ _ => rfl) ?_
    refine q_wk (ls := [some (q_O 9 i0)]) ⟨rfl, trivial⟩ ?_
    exact el_X9_arrive_21 hS _ _ _ _ hi0 Wq
  · replace Wq := Wq.2 c_5
    refine xe_aload_n dX9_arrive_8 rfl q_rvO ?_
    refine xe_geti dX9_arrive_9 fX9_17 (fun _ _ => rfl) ?_
    refine xe_iconst 1 dX9_arrive_12 (by decide) ?_
    refine xe_iadd dX9_arrive_13 ?_
    refine xe_goto 21 dX9_arrive_14 (by decide) ?_
    refine q_wk (ls := [some (q_O 9 i0)]) ⟨rfl, trivial⟩ ?_
    exact el_X9_arrive_21 hS _ _ _ _ hi0 Wq
def wp_X9_leave (t p : Nat) (i0 : Nat) (x1 : Int32) (x2 : Int32) (x3 : Int32) (a : qa) (post : qa → Prop) : Prop := q_isb x2 ∧ post (qs (qs (qs (qs a 9 i0 1 (-1)) 9 i0 2 x1) 9 i0 3 x2) 9 i0 4 x3)
set_option maxHeartbeats 4000000 in
theorem ct_X9_leave {g : q_G} {s : q_S} {t p : Nat} (hS : q_Sh t p s) {i0 : Nat} {x1 : Int32} {x2 : Int32} {x3 : Int32} {a : qa} {post : qa → Prop} (Wq : wp_X9_leave t p i0 x1 x2 x3 a post) : q_Ct g mX9_leave (q_Rm 1 0 0) [q_O 9 i0, q_I x1, q_I x2, q_I x3] (a, s) (q_kV s post) := by
  refine q_mk rfl rfl (Nat.le_of_ble_eq_true rfl) (q_cs rfl (q_cs rfl (q_cs rfl (q_cs rfl q_nil)))) (fun hv => ?_)
  have hi0 : i0 < t := q_lt9 hS (q_hd hv)
  unfold wp_X9_leave at Wq
  refine xe_aload_n dX9_leave_0 rfl q_rvO ?_
  refine xe_iconst (-1) dX9_leave_1 (by decide) ?_
  refine xf_puti dX9_leave_2 fX9_31 (fun q hq => Or.inl (by cases hq; rfl)) ⟨rfl, rfl⟩ (fun _ _ => rfl) ?_
  refine xe_aload_n dX9_leave_5 rfl q_rvO ?_
  refine xe_iload_n dX9_leave_6 rfl ?_
  refine xf_puti dX9_leave_7 fX9_17 (fun q hq => Or.inl (by cases hq; rfl)) ⟨rfl, rfl⟩ (fun _ _ => rfl) ?_
  refine xe_aload_n dX9_leave_10 rfl q_rvO ?_
  refine xe_iload_n dX9_leave_11 rfl ?_
  obtain ⟨hj_12, Wq⟩ := Wq
  refine xf_puti dX9_leave_12 fX9_21 (fun q hq => Or.inl (by cases hq; rfl)) (q_bn2 hj_12) (fun _ _ => rfl) ?_
  refine xe_aload_n dX9_leave_15 rfl q_rvO ?_
  refine xe_iload_n dX9_leave_16 rfl ?_
  refine xf_puti dX9_leave_17 fX9_25 (fun q hq => Or.inl (by cases hq; rfl)) ⟨rfl, rfl⟩ (fun _ _ => rfl) ?_
  exact xe_vret dX9_leave_20 rfl ⟨_, rfl, rfl, Wq⟩
def wp_X9_muleAt (t p : Nat) (i0 : Nat) (x1 : Int32) (a : qa) (post : Option Nat → qa → Prop) : Prop := ((x1 < 0 → post none a) ∧ (¬ x1 < 0 → ((x1 < 3 → vp_in x1 3 ∧ post (some (3 * i0 + x1.toNatClampNeg)) a) ∧ (¬ x1 < 3 → post none a))))
set_option maxHeartbeats 4000000 in
theorem ct_X9_muleAt {g : q_G} {s : q_S} {t p : Nat} (hS : q_Sh t p s) {i0 : Nat} {x1 : Int32} {a : qa} {post : Option Nat → qa → Prop} (Wq : wp_X9_muleAt t p i0 x1 a post) : q_Ct g mX9_muleAt (q_Rm 1 0 0) [q_O 9 i0, q_I x1] (a, s) (q_kR 3 s post) := by
  refine q_mk rfl rfl (Nat.le_of_ble_eq_true rfl) (q_cs rfl (q_cs rfl q_nil)) (fun hv => ?_)
  have hi0 : i0 < t := q_lt9 hS (q_hd hv)
  unfold wp_X9_muleAt at Wq
  refine xe_iload_n dX9_muleAt_0 rfl ?_
  refine xe_if_lt 9 dX9_muleAt_1 (by decide) (fun c_1 => ?_) (fun c_1 => ?_)
  · replace Wq := Wq.1 c_1
    refine xe_null dX9_muleAt_9 ?_
    refine xe_goto 19 dX9_muleAt_10 (by decide) ?_
    exact xe_aretN dX9_muleAt_19 rfl ⟨none, _, rfl, rfl, Wq⟩
  · replace Wq := Wq.2 c_1
    refine xe_iload_n dX9_muleAt_4 rfl ?_
    refine xe_iconst 3 dX9_muleAt_5 (by decide) ?_
    refine xe_ic_lt 13 dX9_muleAt_6 (by decide) (fun c_6 => ?_) (fun c_6 => ?_)
    · replace Wq := Wq.1 c_6
      refine xe_aload_n dX9_muleAt_13 rfl q_rvO ?_
      refine xe_getr dX9_muleAt_14 fX9_11 (fun _ _ => rfl) (q_sT9 hS hi0) ?_
      refine xe_iload_n dX9_muleAt_17 rfl ?_
      obtain ⟨hj_18, Wq⟩ := Wq
      refine xe_aald dX9_muleAt_18 rfl hj_18 (q_sM hS hi0 (q_ltI hj_18)) ?_
      exact xe_aretO dX9_muleAt_19 rfl ⟨some _, _, rfl, rfl, Wq⟩
    · replace Wq := Wq.2 c_6
      refine xe_null dX9_muleAt_9 ?_
      refine xe_goto 19 dX9_muleAt_10 (by decide) ?_
      exact xe_aretN dX9_muleAt_19 rfl ⟨none, _, rfl, rfl, Wq⟩
def wl_X9_goThrough_17 (t p : Nat) (post : qa → Prop) : Nat → Nat → Int32 → Int32 → Int32 → Int32 → qa → Prop
  | 0 => fun _ _ _ _ _ _ => False
  | n + 1 => fun o0 x1 x2 x3 x4 a => ((3 ≤ x4 → ((¬ x3 = 0 → post a) ∧ (x3 = 0 → ((¬ (a 9 o0 4) = (x1 + 1) → post a) ∧ ((a 9 o0 4) = (x1 + 1) → wp_X9_arrive t p o0 a (fun a73 => post a73)))))) ∧ (¬ 3 ≤ x4 → ((x3 = 0 → vp_in x4 3 ∧ wp_X3_walk t p (3 * o0 + x4.toNatClampNeg) x2 x1 a (fun a49 => (wl_X9_goThrough_17 t p post n) o0 x1 x2 x3 (x4 + 1) a49)) ∧ (¬ x3 = 0 → vp_in x4 3 ∧ wp_X3_rest t p (3 * o0 + x4.toNatClampNeg) a (fun a34 => (wl_X9_goThrough_17 t p post n) o0 x1 x2 x3 (x4 + 1) a34)))))
def wp_X9_goThrough (t p : Nat) (i0 : Nat) (x1 : Int32) (x2 : Int32) (a : qa) (post : qa → Prop) : Prop := ((¬ (a 9 i0 2) = (-1) → ∃ n_17, wl_X9_goThrough_17 t p post n_17 i0 x1 x2 0 0 a) ∧ ((a 9 i0 2) = (-1) → ∃ n_17, wl_X9_goThrough_17 t p post n_17 i0 x1 x2 1 0 a))
set_option maxHeartbeats 4000000 in
theorem el_X9_goThrough_17 {g : q_G} {s : q_S} {t p : Nat} (hS : q_Sh t p s) {post : qa → Prop} : ∀ (n : Nat) (o0 : Nat) (x1 : Int32) (x2 : Int32) (x3 : Int32) (x4 : Int32) (a : qa), o0 < t → wl_X9_goThrough_17 t p post n o0 x1 x2 x3 x4 a → q_E g mX9_goThrough (q_Rm 3 0 0) (q_kV s post) (0, 0) 17 [some (q_O 9 o0), some (q_I x1), some (q_I x2), some (q_I x3), some (q_I x4)] [] (a, s) := by
  intro n
  induction n with
  | zero =>
    intro o0 x1 x2 x3 x4 a hi0 Wq
    exact absurd Wq id
  | succ n ih =>
    intro o0 x1 x2 x3 x4 a hi0 Wq
    unfold wl_X9_goThrough_17 at Wq
    refine xe_iload dX9_goThrough_17 rfl ?_
    refine xe_iconst 3 dX9_goThrough_19 (by decide) ?_
    refine xe_ic_ge 58 dX9_goThrough_20 (by decide) (fun c_20 => ?_) (fun c_20 => ?_)
    · replace Wq := Wq.1 c_20
      refine xe_iload_n dX9_goThrough_58 rfl ?_
      refine xe_if_ne 76 dX9_goThrough_59 (by decide) (fun c_59 => ?_) (fun c_59 => ?_)
      · replace Wq := Wq.1 c_59
        exact xe_vret dX9_goThrough_76 rfl ⟨_, rfl, rfl, Wq⟩
      · replace Wq := Wq.2 c_59
        refine xe_aload_n dX9_goThrough_62 rfl q_rvO ?_
        refine xe_geti dX9_goThrough_63 fX9_25 (fun _ _ => rfl) ?_
        refine xe_iload_n dX9_goThrough_66 rfl ?_
        refine xe_iconst 1 dX9_goThrough_67 (by decide) ?_
        refine xe_iadd dX9_goThrough_68 ?_
        refine xe_ic_ne 76 dX9_goThrough_69 (by decide) (fun c_69 => ?_) (fun c_69 => ?_)
        · replace Wq := Wq.1 c_69
          exact xe_vret dX9_goThrough_76 rfl ⟨_, rfl, rfl, Wq⟩
        · replace Wq := Wq.2 c_69
          refine xe_aload_n dX9_goThrough_72 rfl q_rvO ?_
          refine xe_cv (y' := mX9_arrive) dX9_goThrough_73 (Or.inl lX9_48) tX9_arrive rfl rfl (ct_X9_arrive hS Wq) rfl rfl (Nat.le_of_ble_eq_true rfl) ⟨Nat.le_of_ble_eq_true rfl, Nat.le_of_ble_eq_true rfl⟩ ⟨Nat.le_of_ble_eq_true rfl, Nat.le_of_ble_eq_true rfl⟩ (fun v1 h1 hl1 hk1 hm1 => ?_)
          obtain ⟨a73, rfl, rfl, Wq⟩ := hk1
          exact xe_vret dX9_goThrough_76 rfl ⟨_, rfl, rfl, Wq⟩
    · replace Wq := Wq.2 c_20
      refine xe_iload_n dX9_goThrough_23 rfl ?_
      refine xe_if_eq 40 dX9_goThrough_24 (by decide) (fun c_24 => ?_) (fun c_24 => ?_)
      · replace Wq := Wq.1 c_24
        refine xe_aload_n dX9_goThrough_40 rfl q_rvO ?_
        refine xe_getr dX9_goThrough_41 fX9_11 (fun _ _ => rfl) (q_sT9 hS hi0) ?_
        refine xe_iload dX9_goThrough_44 rfl ?_
        obtain ⟨hj_46, Wq⟩ := Wq
        refine xe_aald dX9_goThrough_46 rfl hj_46 (q_sM hS hi0 (q_ltI hj_46)) ?_
        refine xe_iload_n dX9_goThrough_47 rfl ?_
        refine xe_iload_n dX9_goThrough_48 rfl ?_
        refine xe_cv (y' := mX3_walk) dX9_goThrough_49 (Or.inl lX9_44) tX3_walk rfl rfl (ct_X3_walk hS Wq) rfl rfl (Nat.le_of_ble_eq_true rfl) ⟨Nat.le_of_ble_eq_true rfl, Nat.le_of_ble_eq_true rfl⟩ ⟨Nat.le_of_ble_eq_true rfl, Nat.le_of_ble_eq_true rfl⟩ (fun v1 h1 hl1 hk1 hm1 => ?_)
        obtain ⟨a49, rfl, rfl, Wq⟩ := hk1
        refine xe_iinc (_ + 1) dX9_goThrough_52 (by decide) rfl rfl ?_
        refine xe_goto 17 dX9_goThrough_55 (by decide) ?_
        refine q_wk (ls := [some (q_O 9 o0), some (q_I x1), some (q_I x2), some (q_I x3), some (q_I (x4 + 1))]) ⟨rfl, ⟨rfl, ⟨rfl, ⟨rfl, ⟨rfl, trivial⟩⟩⟩⟩⟩ ?_
        exact ih _ _ _ _ _ _ hi0 Wq
      · replace Wq := Wq.2 c_24
        refine xe_aload_n dX9_goThrough_27 rfl q_rvO ?_
        refine xe_getr dX9_goThrough_28 fX9_11 (fun _ _ => rfl) (q_sT9 hS hi0) ?_
        refine xe_iload dX9_goThrough_31 rfl ?_
        obtain ⟨hj_33, Wq⟩ := Wq
        refine xe_aald dX9_goThrough_33 rfl hj_33 (q_sM hS hi0 (q_ltI hj_33)) ?_
        refine xe_cv (y' := mX3_rest) dX9_goThrough_34 (Or.inl lX9_41) tX3_rest rfl rfl (ct_X3_rest hS Wq) rfl rfl (Nat.le_of_ble_eq_true rfl) ⟨Nat.le_of_ble_eq_true rfl, Nat.le_of_ble_eq_true rfl⟩ ⟨Nat.le_of_ble_eq_true rfl, Nat.le_of_ble_eq_true rfl⟩ (fun v1 h1 hl1 hk1 hm1 => ?_)
        obtain ⟨a34, rfl, rfl, Wq⟩ := hk1
        refine xe_goto 52 dX9_goThrough_37 (by decide) ?_
        refine xe_iinc (_ + 1) dX9_goThrough_52 (by decide) rfl rfl ?_
        refine xe_goto 17 dX9_goThrough_55 (by decide) ?_
        refine q_wk (ls := [some (q_O 9 o0), some (q_I x1), some (q_I x2), some (q_I x3), some (q_I (x4 + 1))]) ⟨rfl, ⟨rfl, ⟨rfl, ⟨rfl, ⟨rfl, trivial⟩⟩⟩⟩⟩ ?_
        exact ih _ _ _ _ _ _ hi0 Wq
set_option maxHeartbeats 4000000 in
theorem ct_X9_goThrough {g : q_G} {s : q_S} {t p : Nat} (hS : q_Sh t p s) {i0 : Nat} {x1 : Int32} {x2 : Int32} {a : qa} {post : qa → Prop} (Wq : wp_X9_goThrough t p i0 x1 x2 a post) : q_Ct g mX9_goThrough (q_Rm 3 0 0) [q_O 9 i0, q_I x1, q_I x2] (a, s) (q_kV s post) := by
  refine q_mk rfl rfl (Nat.le_of_ble_eq_true rfl) (q_cs rfl (q_cs rfl (q_cs rfl q_nil))) (fun hv => ?_)
  have hi0 : i0 < t := q_lt9 hS (q_hd hv)
  unfold wp_X9_goThrough at Wq
  refine xe_aload_n dX9_goThrough_0 rfl q_rvO ?_
  refine xe_geti dX9_goThrough_1 fX9_17 (fun _ _ => rfl) ?_
  refine xe_iconst (-1) dX9_goThrough_4 (by decide) ?_
  refine xe_ic_ne 12 dX9_goThrough_5 (by decide) (fun c_5 => ?_) (fun c_5 => ?_)
  · replace Wq := Wq.1 c_5
    refine xe_iconst 0 dX9_goThrough_12 (by decide) ?_
    refine xe_istore_n dX9_goThrough_13 (by decide) ?_
    refine xe_iconst 0 dX9_goThrough_14 (by decide) ?_
    refine xe_istore dX9_goThrough_15 (by decide) ?_
    obtain ⟨n_17, Wq⟩ := Wq
    refine q_wk (ls := [some (q_O 9 i0), some (q_I x1), some (q_I x2), some (q_I 0), some (q_I 0)]) ⟨rfl, ⟨rfl, ⟨rfl, ⟨rfl, ⟨rfl, trivial⟩⟩⟩⟩⟩ ?_
    exact el_X9_goThrough_17 hS n_17 _ _ _ _ _ _ hi0 Wq
  · replace Wq := Wq.2 c_5
    refine xe_iconst 1 dX9_goThrough_8 (by decide) ?_
    refine xe_goto 13 dX9_goThrough_9 (by decide) ?_
    refine xe_istore_n dX9_goThrough_13 (by decide) ?_
    refine xe_iconst 0 dX9_goThrough_14 (by decide) ?_
    refine xe_istore dX9_goThrough_15 (by decide) ?_
    obtain ⟨n_17, Wq⟩ := Wq
    refine q_wk (ls := [some (q_O 9 i0), some (q_I x1), some (q_I x2), some (q_I 1), some (q_I 0)]) ⟨rfl, ⟨rfl, ⟨rfl, ⟨rfl, ⟨rfl, trivial⟩⟩⟩⟩⟩ ?_
    exact el_X9_goThrough_17 hS n_17 _ _ _ _ _ _ hi0 Wq
def wl_X9_isFit_2 (t p : Nat) (post : Int32 → qa → Prop) : Nat → Nat → Int32 → qa → Prop
  | 0 => fun _ _ _ => False
  | n + 1 => fun o0 x1 a => ((3 ≤ x1 → post 1 a) ∧ (¬ 3 ≤ x1 → vp_in x1 3 ∧ wp_X3_isFit t p (3 * o0 + x1.toNatClampNeg) a (fun r13 a13 => ((¬ r13 = 0 → (wl_X9_isFit_2 t p post n) o0 (x1 + 1) a13) ∧ (r13 = 0 → post 0 a13)))))
def wp_X9_isFit (t p : Nat) (i0 : Nat) (a : qa) (post : Int32 → qa → Prop) : Prop := ∃ n_2, wl_X9_isFit_2 t p post n_2 i0 0 a
set_option maxHeartbeats 4000000 in
theorem el_X9_isFit_2 {g : q_G} {s : q_S} {t p : Nat} (hS : q_Sh t p s) {post : Int32 → qa → Prop} : ∀ (n : Nat) (o0 : Nat) (x1 : Int32) (a : qa), o0 < t → wl_X9_isFit_2 t p post n o0 x1 a → q_E g mX9_isFit (q_Rm 3 0 0) (q_kI s post) (0, 0) 2 [some (q_O 9 o0), some (q_I x1)] [] (a, s) := by
  intro n
  induction n with
  | zero =>
    intro o0 x1 a hi0 Wq
    exact absurd Wq id
  | succ n ih =>
    intro o0 x1 a hi0 Wq
    unfold wl_X9_isFit_2 at Wq
    refine xe_iload_n dX9_isFit_2 rfl ?_
    refine xe_iconst 3 dX9_isFit_3 (by decide) ?_
    refine xe_ic_ge 27 dX9_isFit_4 (by decide) (fun c_4 => ?_) (fun c_4 => ?_)
    · replace Wq := Wq.1 c_4
      refine xe_iconst 1 dX9_isFit_27 (by decide) ?_
      exact xe_iret .boolean dX9_isFit_28 rfl (by decide) ⟨_, _, rfl, rfl, Wq⟩
    · replace Wq := Wq.2 c_4
      refine xe_aload_n dX9_isFit_7 rfl q_rvO ?_
      refine xe_getr dX9_isFit_8 fX9_11 (fun _ _ => rfl) (q_sT9 hS hi0) ?_
      refine xe_iload_n dX9_isFit_11 rfl ?_
      obtain ⟨hj_12, Wq⟩ := Wq
      refine xe_aald dX9_isFit_12 rfl hj_12 (q_sM hS hi0 (q_ltI hj_12)) ?_
      refine xe_cv (y' := mX3_isFit) dX9_isFit_13 (Or.inl lX9_37) tX3_isFit rfl rfl (ct_X3_isFit hS Wq) rfl rfl (Nat.le_of_ble_eq_true rfl) ⟨Nat.le_of_ble_eq_true rfl, Nat.le_of_ble_eq_true rfl⟩ ⟨Nat.le_of_ble_eq_true rfl, Nat.le_of_ble_eq_true rfl⟩ (fun v1 h1 hl1 hk1 hm1 => ?_)
      obtain ⟨r13, a13, rfl, rfl, Wq⟩ := hk1
      refine xe_if_ne 21 dX9_isFit_16 (by decide) (fun c_16 => ?_) (fun c_16 => ?_)
      · replace Wq := Wq.1 c_16
        refine xe_iinc (_ + 1) dX9_isFit_21 (by decide) rfl rfl ?_
        refine xe_goto 2 dX9_isFit_24 (by decide) ?_
        refine q_wk (ls := [some (q_O 9 o0), some (q_I (x1 + 1))]) ⟨rfl, ⟨rfl, trivial⟩⟩ ?_
        exact ih _ _ _ hi0 Wq
      · replace Wq := Wq.2 c_16
        refine xe_iconst 0 dX9_isFit_19 (by decide) ?_
        exact xe_iret .boolean dX9_isFit_20 rfl (by decide) ⟨_, _, rfl, rfl, Wq⟩
set_option maxHeartbeats 4000000 in
theorem ct_X9_isFit {g : q_G} {s : q_S} {t p : Nat} (hS : q_Sh t p s) {i0 : Nat} {a : qa} {post : Int32 → qa → Prop} (Wq : wp_X9_isFit t p i0 a post) : q_Ct g mX9_isFit (q_Rm 3 0 0) [q_O 9 i0] (a, s) (q_kI s post) := by
  refine q_mk rfl rfl (Nat.le_of_ble_eq_true rfl) (q_cs rfl q_nil) (fun hv => ?_)
  have hi0 : i0 < t := q_lt9 hS (q_hd hv)
  unfold wp_X9_isFit at Wq
  refine xe_iconst 0 dX9_isFit_0 (by decide) ?_
  refine xe_istore_n dX9_isFit_1 (by decide) ?_
  obtain ⟨n_2, Wq⟩ := Wq
  refine q_wk (ls := [some (q_O 9 i0), some (q_I 0)]) ⟨rfl, ⟨rfl, trivial⟩⟩ ?_
  exact el_X9_isFit_2 hS n_2 _ _ _ hi0 Wq
