def wl_X10_bargainIn_7 (t p : Nat) (post : Int32 → qa → Prop) : Nat → Int32 → Int32 → qa → Prop
  | 0 => fun _ _ _ => False
  | n + 1 => fun x1 x2 a => ((x2 < 0 → post (-1) a) ∧ (¬ x2 < 0 → ((10 ≤ x2 → (wl_X10_bargainIn_7 t p post n) x1 (x2 + (-1)) a) ∧ (¬ 10 ≤ x2 → vp_in x2 10 ∧ ((x1 < (a 0 x2.toNatClampNeg 7) → (wl_X10_bargainIn_7 t p post n) x1 (x2 + (-1)) a) ∧ (¬ x1 < (a 0 x2.toNatClampNeg 7) → post x2 a))))))
def wp_X10_bargainIn (t p : Nat) (x1 : Int32) (a : qa) (post : Int32 → qa → Prop) : Prop := ∃ n_7, wl_X10_bargainIn_7 t p post n_7 x1 ((a 10 0 10) - 1) a
set_option maxHeartbeats 4000000 in
theorem el_X10_bargainIn_7 {g : q_G} {s : q_S} {t p : Nat} (hS : q_Sh t p s) {post : Int32 → qa → Prop} : ∀ (n : Nat) (x1 : Int32) (x2 : Int32) (a : qa), wl_X10_bargainIn_7 t p post n x1 x2 a → q_E g mX10_bargainIn (q_Rm 1 0 0) (q_kI s post) (0, 0) 7 [some (q_O 10 0), some (q_I x1), some (q_I x2)] [] (a, s) := by
  intro n
  induction n with
  | zero =>
    intro x1 x2 a Wq
    exact absurd Wq id
  | succ n ih =>
    intro x1 x2 a Wq
    unfold wl_X10_bargainIn_7 at Wq
    refine xe_iload_n dX10_bargainIn_7 rfl ?_
    refine xe_if_lt 38 dX10_bargainIn_8 (by decide) (fun c_8 => ?_) (fun c_8 => ?_)
    · replace Wq := Wq.1 c_8
      refine xe_iconst (-1) dX10_bargainIn_38 (by decide) ?_
      exact xe_iret .int dX10_bargainIn_39 rfl rfl ⟨_, _, rfl, rfl, Wq⟩
    · replace Wq := Wq.2 c_8
      refine xe_iload_n dX10_bargainIn_11 rfl ?_
      refine xe_bipush 10 dX10_bargainIn_12 (by decide) ?_
      refine xe_ic_ge 32 dX10_bargainIn_14 (by decide) (fun c_14 => ?_) (fun c_14 => ?_)
      · replace Wq := Wq.1 c_14
        refine xe_iinc (_ + (-1)) dX10_bargainIn_32 (by decide) rfl rfl ?_
        refine xe_goto 7 dX10_bargainIn_35 (by decide) ?_
        refine q_wk (ls := [some (q_O 10 0), some (q_I x1), some (q_I (x2 + (-1)))]) ⟨rfl, ⟨rfl, ⟨rfl, trivial⟩⟩⟩ ?_
        exact ih _ _ _ Wq
      · replace Wq := Wq.2 c_14
        refine xe_aload_n dX10_bargainIn_17 rfl q_rvO ?_
        refine xe_getr dX10_bargainIn_18 fX10_30 (fun _ _ => rfl) (q_sg hS rfl) ?_
        refine xe_iload_n dX10_bargainIn_21 rfl ?_
        obtain ⟨hj_22, Wq⟩ := Wq
        refine xe_aald dX10_bargainIn_22 rfl hj_22 (q_sA hS (q_ltI hj_22)) ?_
        refine xe_geti dX10_bargainIn_23 fX10_235 (fun _ _ => rfl) ?_
        refine xe_iload_n dX10_bargainIn_26 rfl ?_
        refine xe_ic_gt 32 dX10_bargainIn_27 (by decide) (fun c_27 => ?_) (fun c_27 => ?_)
        · replace Wq := Wq.1 c_27
          refine xe_iinc (_ + (-1)) dX10_bargainIn_32 (by decide) rfl rfl ?_
          refine xe_goto 7 dX10_bargainIn_35 (by decide) ?_
          refine q_wk (ls := [some (q_O 10 0), some (q_I x1), some (q_I (x2 + (-1)))]) ⟨rfl, ⟨rfl, ⟨rfl, trivial⟩⟩⟩ ?_
          exact ih _ _ _ Wq
        · replace Wq := Wq.2 c_27
          refine xe_iload_n dX10_bargainIn_30 rfl ?_
          exact xe_iret .int dX10_bargainIn_31 rfl rfl ⟨_, _, rfl, rfl, Wq⟩
set_option maxHeartbeats 4000000 in
theorem ct_X10_bargainIn {g : q_G} {s : q_S} {t p : Nat} (hS : q_Sh t p s) {x1 : Int32} {a : qa} {post : Int32 → qa → Prop} (Wq : wp_X10_bargainIn t p x1 a post) : q_Ct g mX10_bargainIn (q_Rm 1 0 0) [q_O 10 0, q_I x1] (a, s) (q_kI s post) := by
  refine q_mk rfl rfl (Nat.le_of_ble_eq_true rfl) (q_cs rfl (q_cs rfl q_nil)) (fun hv => ?_)
  unfold wp_X10_bargainIn at Wq
  refine xe_aload_n dX10_bargainIn_0 rfl q_rvO ?_
  refine xe_geti dX10_bargainIn_1 fX10_71 (fun _ _ => rfl) ?_
  refine xe_iconst 1 dX10_bargainIn_4 (by decide) ?_
  refine xe_isub dX10_bargainIn_5 ?_
  refine xe_istore_n dX10_bargainIn_6 (by decide) ?_
  obtain ⟨n_7, Wq⟩ := Wq
  refine q_wk (ls := [some (q_O 10 0), some (q_I x1), some (q_I ((a 10 0 10) - 1))]) ⟨rfl, ⟨rfl, ⟨rfl, trivial⟩⟩⟩ ?_
  exact el_X10_bargainIn_7 hS n_7 _ _ _ Wq
def wp_X10_end (t p : Nat) (x1 : Int32) (a : qa) (post : Int32 → qa → Prop) : Prop := ((x1 < 0 → post (-1) a) ∧ (¬ x1 < 0 → ((x1 ≤ (a 7 0 1) → post x1 (qs a 7 0 1 x1)) ∧ (¬ x1 ≤ (a 7 0 1) → post (-1) a))))
set_option maxHeartbeats 4000000 in
theorem ct_X10_end {g : q_G} {s : q_S} {t p : Nat} (hS : q_Sh t p s) {x1 : Int32} {a : qa} {post : Int32 → qa → Prop} (Wq : wp_X10_end t p x1 a post) : q_Ct g mX10_end (q_Rm 1 0 0) [q_O 10 0, q_I x1] (a, s) (q_kI s post) := by
  refine q_mk rfl rfl (Nat.le_of_ble_eq_true rfl) (q_cs rfl (q_cs rfl q_nil)) (fun hv => ?_)
  unfold wp_X10_end at Wq
  refine xe_iload_n dX10_end_0 rfl ?_
  refine xe_if_lt 15 dX10_end_1 (by decide) (fun c_1 => ?_) (fun c_1 => ?_)
  · replace Wq := Wq.1 c_1
    refine xe_iconst (-1) dX10_end_15 (by decide) ?_
    exact xe_iret .int dX10_end_16 rfl rfl ⟨_, _, rfl, rfl, Wq⟩
  · replace Wq := Wq.2 c_1
    refine xe_iload_n dX10_end_4 rfl ?_
    refine xe_aload_n dX10_end_5 rfl q_rvO ?_
    refine xe_getr dX10_end_6 fX10_44 (fun _ _ => rfl) (q_sg hS rfl) ?_
    refine xe_geti dX10_end_9 fX10_224 (fun _ _ => rfl) ?_
    refine xe_ic_le 17 dX10_end_12 (by decide) (fun c_12 => ?_) (fun c_12 => ?_)
    · replace Wq := Wq.1 c_12
      refine xe_aload_n dX10_end_17 rfl q_rvO ?_
      refine xe_getr dX10_end_18 fX10_44 (fun _ _ => rfl) (q_sg hS rfl) ?_
      refine xe_iload_n dX10_end_21 rfl ?_
      refine xf_puti dX10_end_22 fX10_224 (fun q hq => Or.inl (by cases hq; rfl)) ⟨rfl, rfl⟩ (fun _ _ => rfl) ?_
      refine xe_iload_n dX10_end_25 rfl ?_
      exact xe_iret .int dX10_end_26 rfl rfl ⟨_, _, rfl, rfl, Wq⟩
    · replace Wq := Wq.2 c_12
      refine xe_iconst (-1) dX10_end_15 (by decide) ?_
      exact xe_iret .int dX10_end_16 rfl rfl ⟨_, _, rfl, rfl, Wq⟩
def wl_X10_isTaken_2 (t p : Nat) (post : Int32 → qa → Prop) : Nat → Int32 → Int32 → qa → Prop
  | 0 => fun _ _ _ => False
  | n + 1 => fun x1 x2 a => ((4 ≤ x2 → post 0 a) ∧ (¬ 4 ≤ x2 → vp_in x2 4 ∧ (((if x2.toNatClampNeg < t then some x2.toNatClampNeg else none) = none → (wl_X10_isTaken_2 t p post n) x1 (x2 + 1) a) ∧ (∀ i_13, (if x2.toNatClampNeg < t then some x2.toNatClampNeg else none) = some i_13 → vp_in x2 4 ∧ ((¬ (a 9 i_13 2) = x1 → (wl_X10_isTaken_2 t p post n) x1 (x2 + 1) a) ∧ ((a 9 i_13 2) = x1 → post 1 a))))))
def wp_X10_isTaken (t p : Nat) (x1 : Int32) (a : qa) (post : Int32 → qa → Prop) : Prop := ∃ n_2, wl_X10_isTaken_2 t p post n_2 x1 0 a
set_option maxHeartbeats 4000000 in
theorem el_X10_isTaken_2 {g : q_G} {s : q_S} {t p : Nat} (hS : q_Sh t p s) {post : Int32 → qa → Prop} : ∀ (n : Nat) (x1 : Int32) (x2 : Int32) (a : qa), wl_X10_isTaken_2 t p post n x1 x2 a → q_E g mX10_isTaken (q_Rm 1 0 0) (q_kI s post) (0, 0) 2 [some (q_O 10 0), some (q_I x1), some (q_I x2)] [] (a, s) := by
  intro n
  induction n with
  | zero =>
    intro x1 x2 a Wq
    exact absurd Wq id
  | succ n ih =>
    intro x1 x2 a Wq
    unfold wl_X10_isTaken_2 at Wq
    refine xe_iload_n dX10_isTaken_2 rfl ?_
    refine xe_iconst 4 dX10_isTaken_3 (by decide) ?_
    refine xe_ic_ge 37 dX10_isTaken_4 (by decide) (fun c_4 => ?_) (fun c_4 => ?_)
    · replace Wq := Wq.1 c_4
      refine xe_iconst 0 dX10_isTaken_37 (by decide) ?_
      exact xe_iret .boolean dX10_isTaken_38 rfl (by decide) ⟨_, _, rfl, rfl, Wq⟩
    · replace Wq := Wq.2 c_4
      refine xe_aload_n dX10_isTaken_7 rfl q_rvO ?_
      refine xe_getr dX10_isTaken_8 fX10_18 (fun _ _ => rfl) (q_sg hS rfl) ?_
      refine xe_iload_n dX10_isTaken_11 rfl ?_
      obtain ⟨hj_12, Wq⟩ := Wq
      refine xe_aald dX10_isTaken_12 rfl hj_12 (q_sQ37 hS _) ?_
      cases e_13 : if x2.toNatClampNeg < t then some x2.toNatClampNeg else none with
      | none =>
        replace Wq := Wq.1 e_13
        try rw [e_13]
        refine xe_ifnullN 31 dX10_isTaken_13 (by decide) ?_
        refine xe_iinc (_ + 1) dX10_isTaken_31 (by decide) rfl rfl ?_
        refine xe_goto 2 dX10_isTaken_34 (by decide) ?_
        refine q_wk (ls := [some (q_O 10 0), some (q_I x1), some (q_I (x2 + 1))]) ⟨rfl, ⟨rfl, ⟨rfl, trivial⟩⟩⟩ ?_
        exact ih _ _ _ Wq
      | some i_13 =>
        replace Wq := Wq.2 i_13 e_13
        try rw [e_13]
        refine xe_ifnullO dX10_isTaken_13 ?_
        refine xe_aload_n dX10_isTaken_16 rfl q_rvO ?_
        refine xe_getr dX10_isTaken_17 fX10_18 (fun _ _ => rfl) (q_sg hS rfl) ?_
        refine xe_iload_n dX10_isTaken_20 rfl ?_
        obtain ⟨hj_21, Wq⟩ := Wq
        refine xe_aald dX10_isTaken_21 rfl hj_21 (q_sQ37 hS _) ?_
        rw [e_13]
        refine xe_geti dX10_isTaken_22 fX10_238 (fun _ _ => rfl) ?_
        refine xe_iload_n dX10_isTaken_25 rfl ?_
        refine xe_ic_ne 31 dX10_isTaken_26 (by decide) (fun c_26 => ?_) (fun c_26 => ?_)
        · replace Wq := Wq.1 c_26
          refine xe_iinc (_ + 1) dX10_isTaken_31 (by decide) rfl rfl ?_
          refine xe_goto 2 dX10_isTaken_34 (by decide) ?_
          refine q_wk (ls := [some (q_O 10 0), some (q_I x1), some (q_I (x2 + 1))]) ⟨rfl, ⟨rfl, ⟨rfl, trivial⟩⟩⟩ ?_
          exact ih _ _ _ Wq
        · replace Wq := Wq.2 c_26
          refine xe_iconst 1 dX10_isTaken_29 (by decide) ?_
          exact xe_iret .boolean dX10_isTaken_30 rfl (by decide) ⟨_, _, rfl, rfl, Wq⟩
set_option maxHeartbeats 4000000 in
theorem ct_X10_isTaken {g : q_G} {s : q_S} {t p : Nat} (hS : q_Sh t p s) {x1 : Int32} {a : qa} {post : Int32 → qa → Prop} (Wq : wp_X10_isTaken t p x1 a post) : q_Ct g mX10_isTaken (q_Rm 1 0 0) [q_O 10 0, q_I x1] (a, s) (q_kI s post) := by
  refine q_mk rfl rfl (Nat.le_of_ble_eq_true rfl) (q_cs rfl (q_cs rfl q_nil)) (fun hv => ?_)
  unfold wp_X10_isTaken at Wq
  refine xe_iconst 0 dX10_isTaken_0 (by decide) ?_
  refine xe_istore_n dX10_isTaken_1 (by decide) ?_
  obtain ⟨n_2, Wq⟩ := Wq
  refine q_wk (ls := [some (q_O 10 0), some (q_I x1), some (q_I 0)]) ⟨rfl, ⟨rfl, ⟨rfl, trivial⟩⟩⟩ ?_
  exact el_X10_isTaken_2 hS n_2 _ _ _ Wq
def wp_X10_packAt (t p : Nat) (x1 : Int32) (a : qa) (post : Option Nat → qa → Prop) : Prop := ((x1 < 0 → post none a) ∧ (¬ x1 < 0 → (((a 10 0 9) ≤ x1 → post none a) ∧ (¬ (a 10 0 9) ≤ x1 → ((x1 < 100 → vp_in x1 100 ∧ post (if x1.toNatClampNeg < p then some x1.toNatClampNeg else none) a) ∧ (¬ x1 < 100 → post none a))))))
set_option maxHeartbeats 4000000 in
theorem ct_X10_packAt {g : q_G} {s : q_S} {t p : Nat} (hS : q_Sh t p s) {x1 : Int32} {a : qa} {post : Option Nat → qa → Prop} (Wq : wp_X10_packAt t p x1 a post) : q_Ct g mX10_packAt (q_Rm 1 0 0) [q_O 10 0, q_I x1] (a, s) (q_kR 4 s post) := by
  refine q_mk rfl rfl (Nat.le_of_ble_eq_true rfl) (q_cs rfl (q_cs rfl q_nil)) (fun hv => ?_)
  unfold wp_X10_packAt at Wq
  refine xe_iload_n dX10_packAt_0 rfl ?_
  refine xe_if_lt 18 dX10_packAt_1 (by decide) (fun c_1 => ?_) (fun c_1 => ?_)
  · replace Wq := Wq.1 c_1
    refine xe_null dX10_packAt_18 ?_
    refine xe_goto 28 dX10_packAt_19 (by decide) ?_
    exact xe_aretN dX10_packAt_28 rfl ⟨none, _, rfl, rfl, Wq⟩
  · replace Wq := Wq.2 c_1
    refine xe_iload_n dX10_packAt_4 rfl ?_
    refine xe_aload_n dX10_packAt_5 rfl q_rvO ?_
    refine xe_geti dX10_packAt_6 fX10_68 (fun _ _ => rfl) ?_
    refine xe_ic_ge 18 dX10_packAt_9 (by decide) (fun c_9 => ?_) (fun c_9 => ?_)
    · replace Wq := Wq.1 c_9
      refine xe_null dX10_packAt_18 ?_
      refine xe_goto 28 dX10_packAt_19 (by decide) ?_
      exact xe_aretN dX10_packAt_28 rfl ⟨none, _, rfl, rfl, Wq⟩
    · replace Wq := Wq.2 c_9
      refine xe_iload_n dX10_packAt_12 rfl ?_
      refine xe_bipush 100 dX10_packAt_13 (by decide) ?_
      refine xe_ic_lt 22 dX10_packAt_15 (by decide) (fun c_15 => ?_) (fun c_15 => ?_)
      · replace Wq := Wq.1 c_15
        refine xe_aload_n dX10_packAt_22 rfl q_rvO ?_
        refine xe_getr dX10_packAt_23 fX10_24 (fun _ _ => rfl) (q_sg hS rfl) ?_
        refine xe_iload_n dX10_packAt_26 rfl ?_
        obtain ⟨hj_27, Wq⟩ := Wq
        refine xe_aald dX10_packAt_27 rfl hj_27 (q_sQ38 hS _) ?_
        exact xe_aretR dX10_packAt_28 rfl ⟨_, _, rfl, rfl, Wq⟩
      · replace Wq := Wq.2 c_15
        refine xe_null dX10_packAt_18 ?_
        refine xe_goto 28 dX10_packAt_19 (by decide) ?_
        exact xe_aretN dX10_packAt_28 rfl ⟨none, _, rfl, rfl, Wq⟩
def wl_X10_packsThatAre_4 (t p : Nat) (post : Int32 → qa → Prop) : Nat → Int32 → Int32 → Int32 → qa → Prop
  | 0 => fun _ _ _ _ => False
  | n + 1 => fun x1 x2 x3 a => ((100 ≤ x3 → post x2 a) ∧ (¬ 100 ≤ x3 → vp_in x3 100 ∧ (((if x3.toNatClampNeg < p then some x3.toNatClampNeg else none) = none → (wl_X10_packsThatAre_4 t p post n) x1 x2 (x3 + 1) a) ∧ (∀ i_16, (if x3.toNatClampNeg < p then some x3.toNatClampNeg else none) = some i_16 → vp_in x3 100 ∧ ((¬ (a 4 i_16 4) = x1 → (wl_X10_packsThatAre_4 t p post n) x1 x2 (x3 + 1) a) ∧ ((a 4 i_16 4) = x1 → (wl_X10_packsThatAre_4 t p post n) x1 (x2 + 1) (x3 + 1) a))))))
def wp_X10_packsThatAre (t p : Nat) (x1 : Int32) (a : qa) (post : Int32 → qa → Prop) : Prop := ∃ n_4, wl_X10_packsThatAre_4 t p post n_4 x1 0 0 a
set_option maxHeartbeats 4000000 in
theorem el_X10_packsThatAre_4 {g : q_G} {s : q_S} {t p : Nat} (hS : q_Sh t p s) {post : Int32 → qa → Prop} : ∀ (n : Nat) (x1 : Int32) (x2 : Int32) (x3 : Int32) (a : qa), wl_X10_packsThatAre_4 t p post n x1 x2 x3 a → q_E g mX10_packsThatAre (q_Rm 1 0 0) (q_kI s post) (0, 0) 4 [some (q_O 10 0), some (q_I x1), some (q_I x2), some (q_I x3)] [] (a, s) := by
  intro n
  induction n with
  | zero =>
    intro x1 x2 x3 a Wq
    exact absurd Wq id
  | succ n ih =>
    intro x1 x2 x3 a Wq
    unfold wl_X10_packsThatAre_4 at Wq
    refine xe_iload_n dX10_packsThatAre_4 rfl ?_
    refine xe_bipush 100 dX10_packsThatAre_5 (by decide) ?_
    refine xe_ic_ge 41 dX10_packsThatAre_7 (by decide) (fun c_7 => ?_) (fun c_7 => ?_)
    · replace Wq := Wq.1 c_7
      refine xe_iload_n dX10_packsThatAre_41 rfl ?_
      exact xe_iret .int dX10_packsThatAre_42 rfl rfl ⟨_, _, rfl, rfl, Wq⟩
    · replace Wq := Wq.2 c_7
      refine xe_aload_n dX10_packsThatAre_10 rfl q_rvO ?_
      refine xe_getr dX10_packsThatAre_11 fX10_24 (fun _ _ => rfl) (q_sg hS rfl) ?_
      refine xe_iload_n dX10_packsThatAre_14 rfl ?_
      obtain ⟨hj_15, Wq⟩ := Wq
      refine xe_aald dX10_packsThatAre_15 rfl hj_15 (q_sQ38 hS _) ?_
      cases e_16 : if x3.toNatClampNeg < p then some x3.toNatClampNeg else none with
      | none =>
        replace Wq := Wq.1 e_16
        try rw [e_16]
        refine xe_ifnullN 35 dX10_packsThatAre_16 (by decide) ?_
        refine xe_iinc (_ + 1) dX10_packsThatAre_35 (by decide) rfl rfl ?_
        refine xe_goto 4 dX10_packsThatAre_38 (by decide) ?_
        refine q_wk (ls := [some (q_O 10 0), some (q_I x1), some (q_I x2), some (q_I (x3 + 1))]) ⟨rfl, ⟨rfl, ⟨rfl, ⟨rfl, trivial⟩⟩⟩⟩ ?_
        exact ih _ _ _ _ Wq
      | some i_16 =>
        replace Wq := Wq.2 i_16 e_16
        try rw [e_16]
        refine xe_ifnullO dX10_packsThatAre_16 ?_
        refine xe_aload_n dX10_packsThatAre_19 rfl q_rvO ?_
        refine xe_getr dX10_packsThatAre_20 fX10_24 (fun _ _ => rfl) (q_sg hS rfl) ?_
        refine xe_iload_n dX10_packsThatAre_23 rfl ?_
        obtain ⟨hj_24, Wq⟩ := Wq
        refine xe_aald dX10_packsThatAre_24 rfl hj_24 (q_sQ38 hS _) ?_
        rw [e_16]
        refine xe_geti dX10_packsThatAre_25 fX10_128 (fun _ _ => rfl) ?_
        refine xe_iload_n dX10_packsThatAre_28 rfl ?_
        refine xe_ic_ne 35 dX10_packsThatAre_29 (by decide) (fun c_29 => ?_) (fun c_29 => ?_)
        · replace Wq := Wq.1 c_29
          refine xe_iinc (_ + 1) dX10_packsThatAre_35 (by decide) rfl rfl ?_
          refine xe_goto 4 dX10_packsThatAre_38 (by decide) ?_
          refine q_wk (ls := [some (q_O 10 0), some (q_I x1), some (q_I x2), some (q_I (x3 + 1))]) ⟨rfl, ⟨rfl, ⟨rfl, ⟨rfl, trivial⟩⟩⟩⟩ ?_
          exact ih _ _ _ _ Wq
        · replace Wq := Wq.2 c_29
          refine xe_iinc (_ + 1) dX10_packsThatAre_32 (by decide) rfl rfl ?_
          refine xe_iinc (_ + 1) dX10_packsThatAre_35 (by decide) rfl rfl ?_
          refine xe_goto 4 dX10_packsThatAre_38 (by decide) ?_
          refine q_wk (ls := [some (q_O 10 0), some (q_I x1), some (q_I (x2 + 1)), some (q_I (x3 + 1))]) ⟨rfl, ⟨rfl, ⟨rfl, ⟨rfl, trivial⟩⟩⟩⟩ ?_
          exact ih _ _ _ _ Wq
set_option maxHeartbeats 4000000 in
theorem ct_X10_packsThatAre {g : q_G} {s : q_S} {t p : Nat} (hS : q_Sh t p s) {x1 : Int32} {a : qa} {post : Int32 → qa → Prop} (Wq : wp_X10_packsThatAre t p x1 a post) : q_Ct g mX10_packsThatAre (q_Rm 1 0 0) [q_O 10 0, q_I x1] (a, s) (q_kI s post) := by
  refine q_mk rfl rfl (Nat.le_of_ble_eq_true rfl) (q_cs rfl (q_cs rfl q_nil)) (fun hv => ?_)
  unfold wp_X10_packsThatAre at Wq
  refine xe_iconst 0 dX10_packsThatAre_0 (by decide) ?_
  refine xe_istore_n dX10_packsThatAre_1 (by decide) ?_
  refine xe_iconst 0 dX10_packsThatAre_2 (by decide) ?_
  refine xe_istore_n dX10_packsThatAre_3 (by decide) ?_
  obtain ⟨n_4, Wq⟩ := Wq
  refine q_wk (ls := [some (q_O 10 0), some (q_I x1), some (q_I 0), some (q_I 0)]) ⟨rfl, ⟨rfl, ⟨rfl, ⟨rfl, trivial⟩⟩⟩⟩ ?_
  exact el_X10_packsThatAre_4 hS n_4 _ _ _ _ Wq
def wl_X10_payOfAll_4 (t p : Nat) (post : Int32 → qa → Prop) : Nat → Int32 → Int32 → qa → Prop
  | 0 => fun _ _ _ => False
  | n + 1 => fun x1 x2 a => ((100 ≤ x2 → post x1 a) ∧ (¬ 100 ≤ x2 → vp_in x2 100 ∧ (((if x2.toNatClampNeg < p then some x2.toNatClampNeg else none) = none → (wl_X10_payOfAll_4 t p post n) x1 (x2 + 1) a) ∧ (∀ i_16, (if x2.toNatClampNeg < p then some x2.toNatClampNeg else none) = some i_16 → vp_in x2 100 ∧ ((wl_X10_payOfAll_4 t p post n) (x1 + (a 4 i_16 9)) (x2 + 1) a)))))
def wp_X10_payOfAll (t p : Nat) (a : qa) (post : Int32 → qa → Prop) : Prop := ∃ n_4, wl_X10_payOfAll_4 t p post n_4 0 0 a
set_option maxHeartbeats 4000000 in
theorem el_X10_payOfAll_4 {g : q_G} {s : q_S} {t p : Nat} (hS : q_Sh t p s) {post : Int32 → qa → Prop} : ∀ (n : Nat) (x1 : Int32) (x2 : Int32) (a : qa), wl_X10_payOfAll_4 t p post n x1 x2 a → q_E g mX10_payOfAll (q_Rm 1 0 0) (q_kI s post) (0, 0) 4 [some (q_O 10 0), some (q_I x1), some (q_I x2)] [] (a, s) := by
  intro n
  induction n with
  | zero =>
    intro x1 x2 a Wq
    exact absurd Wq id
  | succ n ih =>
    intro x1 x2 a Wq
    unfold wl_X10_payOfAll_4 at Wq
    refine xe_iload_n dX10_payOfAll_4 rfl ?_
    refine xe_bipush 100 dX10_payOfAll_5 (by decide) ?_
    refine xe_ic_ge 37 dX10_payOfAll_7 (by decide) (fun c_7 => ?_) (fun c_7 => ?_)
    · replace Wq := Wq.1 c_7
      refine xe_iload_n dX10_payOfAll_37 rfl ?_
      exact xe_iret .int dX10_payOfAll_38 rfl rfl ⟨_, _, rfl, rfl, Wq⟩
    · replace Wq := Wq.2 c_7
      refine xe_aload_n dX10_payOfAll_10 rfl q_rvO ?_
      refine xe_getr dX10_payOfAll_11 fX10_24 (fun _ _ => rfl) (q_sg hS rfl) ?_
      refine xe_iload_n dX10_payOfAll_14 rfl ?_
      obtain ⟨hj_15, Wq⟩ := Wq
      refine xe_aald dX10_payOfAll_15 rfl hj_15 (q_sQ38 hS _) ?_
      cases e_16 : if x2.toNatClampNeg < p then some x2.toNatClampNeg else none with
      | none =>
        replace Wq := Wq.1 e_16
        try rw [e_16]
        refine xe_ifnullN 31 dX10_payOfAll_16 (by decide) ?_
        refine xe_iinc (_ + 1) dX10_payOfAll_31 (by decide) rfl rfl ?_
        refine xe_goto 4 dX10_payOfAll_34 (by decide) ?_
        refine q_wk (ls := [some (q_O 10 0), some (q_I x1), some (q_I (x2 + 1))]) ⟨rfl, ⟨rfl, ⟨rfl, trivial⟩⟩⟩ ?_
        exact ih _ _ _ Wq
      | some i_16 =>
        replace Wq := Wq.2 i_16 e_16
        try rw [e_16]
        refine xe_ifnullO dX10_payOfAll_16 ?_
        refine xe_iload_n dX10_payOfAll_19 rfl ?_
        refine xe_aload_n dX10_payOfAll_20 rfl q_rvO ?_
        refine xe_getr dX10_payOfAll_21 fX10_24 (fun _ _ => rfl) (q_sg hS rfl) ?_
        refine xe_iload_n dX10_payOfAll_24 rfl ?_
        obtain ⟨hj_25, Wq⟩ := Wq
        refine xe_aald dX10_payOfAll_25 rfl hj_25 (q_sQ38 hS _) ?_
        rw [e_16]
        refine xe_geti dX10_payOfAll_26 fX10_272 (fun _ _ => rfl) ?_
        refine xe_iadd dX10_payOfAll_29 ?_
        refine xe_istore_n dX10_payOfAll_30 (by decide) ?_
        refine xe_iinc (_ + 1) dX10_payOfAll_31 (by decide) rfl rfl ?_
        refine xe_goto 4 dX10_payOfAll_34 (by decide) ?_
        refine q_wk (ls := [some (q_O 10 0), some (q_I (x1 + (a 4 i_16 9))), some (q_I (x2 + 1))]) ⟨rfl, ⟨rfl, ⟨rfl, trivial⟩⟩⟩ ?_
        exact ih _ _ _ Wq
set_option maxHeartbeats 4000000 in
theorem ct_X10_payOfAll {g : q_G} {s : q_S} {t p : Nat} (hS : q_Sh t p s) {a : qa} {post : Int32 → qa → Prop} (Wq : wp_X10_payOfAll t p  a post) : q_Ct g mX10_payOfAll (q_Rm 1 0 0) [q_O 10 0] (a, s) (q_kI s post) := by
  refine q_mk rfl rfl (Nat.le_of_ble_eq_true rfl) (q_cs rfl q_nil) (fun hv => ?_)
  unfold wp_X10_payOfAll at Wq
  refine xe_iconst 0 dX10_payOfAll_0 (by decide) ?_
  refine xe_istore_n dX10_payOfAll_1 (by decide) ?_
  refine xe_iconst 0 dX10_payOfAll_2 (by decide) ?_
  refine xe_istore_n dX10_payOfAll_3 (by decide) ?_
  obtain ⟨n_4, Wq⟩ := Wq
  refine q_wk (ls := [some (q_O 10 0), some (q_I 0), some (q_I 0)]) ⟨rfl, ⟨rfl, ⟨rfl, trivial⟩⟩⟩ ?_
  exact el_X10_payOfAll_4 hS n_4 _ _ _ Wq
def wp_X10_place (t p : Nat) (a : qa) (post : Int32 → qa → Prop) : Prop := post (a 10 0 11) a
set_option maxHeartbeats 4000000 in
theorem ct_X10_place {g : q_G} {s : q_S} {t p : Nat} (hS : q_Sh t p s) {a : qa} {post : Int32 → qa → Prop} (Wq : wp_X10_place t p  a post) : q_Ct g mX10_place (q_Rm 1 0 0) [q_O 10 0] (a, s) (q_kI s post) := by
  refine q_mk rfl rfl (Nat.le_of_ble_eq_true rfl) (q_cs rfl q_nil) (fun hv => ?_)
  unfold wp_X10_place at Wq
  refine xe_aload_n dX10_place_0 rfl q_rvO ?_
  refine xe_geti dX10_place_1 fX10_74 (fun _ _ => rfl) ?_
  exact xe_iret .int dX10_place_4 rfl rfl ⟨_, _, rfl, rfl, Wq⟩
def wp_X10_trainAt (t p : Nat) (x1 : Int32) (a : qa) (post : Option Nat → qa → Prop) : Prop := ((x1 < 0 → post none a) ∧ (¬ x1 < 0 → (((a 10 0 8) ≤ x1 → post none a) ∧ (¬ (a 10 0 8) ≤ x1 → ((x1 < 4 → vp_in x1 4 ∧ post (if x1.toNatClampNeg < t then some x1.toNatClampNeg else none) a) ∧ (¬ x1 < 4 → post none a))))))
set_option maxHeartbeats 4000000 in
theorem ct_X10_trainAt {g : q_G} {s : q_S} {t p : Nat} (hS : q_Sh t p s) {x1 : Int32} {a : qa} {post : Option Nat → qa → Prop} (Wq : wp_X10_trainAt t p x1 a post) : q_Ct g mX10_trainAt (q_Rm 1 0 0) [q_O 10 0, q_I x1] (a, s) (q_kR 9 s post) := by
  refine q_mk rfl rfl (Nat.le_of_ble_eq_true rfl) (q_cs rfl (q_cs rfl q_nil)) (fun hv => ?_)
  unfold wp_X10_trainAt at Wq
  refine xe_iload_n dX10_trainAt_0 rfl ?_
  refine xe_if_lt 17 dX10_trainAt_1 (by decide) (fun c_1 => ?_) (fun c_1 => ?_)
  · replace Wq := Wq.1 c_1
    refine xe_null dX10_trainAt_17 ?_
    refine xe_goto 27 dX10_trainAt_18 (by decide) ?_
    exact xe_aretN dX10_trainAt_27 rfl ⟨none, _, rfl, rfl, Wq⟩
  · replace Wq := Wq.2 c_1
    refine xe_iload_n dX10_trainAt_4 rfl ?_
    refine xe_aload_n dX10_trainAt_5 rfl q_rvO ?_
    refine xe_geti dX10_trainAt_6 fX10_64 (fun _ _ => rfl) ?_
    refine xe_ic_ge 17 dX10_trainAt_9 (by decide) (fun c_9 => ?_) (fun c_9 => ?_)
    · replace Wq := Wq.1 c_9
      refine xe_null dX10_trainAt_17 ?_
      refine xe_goto 27 dX10_trainAt_18 (by decide) ?_
      exact xe_aretN dX10_trainAt_27 rfl ⟨none, _, rfl, rfl, Wq⟩
    · replace Wq := Wq.2 c_9
      refine xe_iload_n dX10_trainAt_12 rfl ?_
      refine xe_iconst 4 dX10_trainAt_13 (by decide) ?_
      refine xe_ic_lt 21 dX10_trainAt_14 (by decide) (fun c_14 => ?_) (fun c_14 => ?_)
      · replace Wq := Wq.1 c_14
        refine xe_aload_n dX10_trainAt_21 rfl q_rvO ?_
        refine xe_getr dX10_trainAt_22 fX10_18 (fun _ _ => rfl) (q_sg hS rfl) ?_
        refine xe_iload_n dX10_trainAt_25 rfl ?_
        obtain ⟨hj_26, Wq⟩ := Wq
        refine xe_aald dX10_trainAt_26 rfl hj_26 (q_sQ37 hS _) ?_
        exact xe_aretR dX10_trainAt_27 rfl ⟨_, _, rfl, rfl, Wq⟩
      · replace Wq := Wq.2 c_14
        refine xe_null dX10_trainAt_17 ?_
        refine xe_goto 27 dX10_trainAt_18 (by decide) ?_
        exact xe_aretN dX10_trainAt_27 rfl ⟨none, _, rfl, rfl, Wq⟩
def wp_X10_count (t p : Nat) (x1 : Int32) (a : qa) (post : Int32 → qa → Prop) : Prop := ((x1 = 0 → post (a 10 0 12) a) ∧ (x1 = 1 → post (a 6 0 7) a) ∧ (x1 = 2 → post (a 10 0 8) a) ∧ (x1 = 3 → post (a 10 0 9) a) ∧ (x1 = 4 → post (a 6 0 8) a) ∧ (x1 = 5 → post (a 10 0 10) a) ∧ (x1 = 6 → post (a 7 0 1) a) ∧ (x1 = 7 → wp_X10_packsThatAre t p 0 a (fun r102 a102 => post r102 a102)) ∧ (x1 = 8 → wp_X10_packsThatAre t p 2 a (fun r108 a108 => post r108 a108)) ∧ (x1 = 9 → wp_X10_payOfAll t p  a (fun r113 a113 => post r113 a113)) ∧ (¬ x1 = 0 → ¬ x1 = 1 → ¬ x1 = 2 → ¬ x1 = 3 → ¬ x1 = 4 → ¬ x1 = 5 → ¬ x1 = 6 → ¬ x1 = 7 → ¬ x1 = 8 → ¬ x1 = 9 → post (-1) a))
set_option maxHeartbeats 4000000 in
theorem ct_X10_count {g : q_G} {s : q_S} {t p : Nat} (hS : q_Sh t p s) {x1 : Int32} {a : qa} {post : Int32 → qa → Prop} (Wq : wp_X10_count t p x1 a post) : q_Ct g mX10_count (q_Rm 2 0 0) [q_O 10 0, q_I x1] (a, s) (q_kI s post) := by
  refine q_mk rfl rfl (Nat.le_of_ble_eq_true rfl) (q_cs rfl (q_cs rfl q_nil)) (fun hv => ?_)
  unfold wp_X10_count at Wq
  refine xe_iload_n dX10_count_0 rfl ?_
  by_cases e_1_0 : x1 = 0
  · replace Wq := Wq.1 e_1_0
    have e9 := q_toI e_1_0 (show (0 : Int32).toInt = 0 by decide)
    refine xe_swIn 56 dX10_count_1 (by omega) (by omega) (by rw [e9]; rfl) (by decide) ?_
    refine xe_aload_n dX10_count_56 rfl q_rvO ?_
    refine xe_geti dX10_count_57 fX10_77 (fun _ _ => rfl) ?_
    exact xe_iret .int dX10_count_60 rfl rfl ⟨_, _, rfl, rfl, Wq⟩
  by_cases e_1_1 : x1 = 1
  · replace Wq := Wq.2.1 e_1_1
    have e9 := q_toI e_1_1 (show (1 : Int32).toInt = 1 by decide)
    refine xe_swIn 61 dX10_count_1 (by omega) (by omega) (by rw [e9]; rfl) (by decide) ?_
    refine xe_aload_n dX10_count_61 rfl q_rvO ?_
    refine xe_getr dX10_count_62 fX10_10 (fun _ _ => rfl) (q_sg hS rfl) ?_
    refine xe_geti dX10_count_65 fX10_279 (fun _ _ => rfl) ?_
    exact xe_iret .int dX10_count_68 rfl rfl ⟨_, _, rfl, rfl, Wq⟩
  by_cases e_1_2 : x1 = 2
  · replace Wq := Wq.2.2.1 e_1_2
    have e9 := q_toI e_1_2 (show (2 : Int32).toInt = 2 by decide)
    refine xe_swIn 69 dX10_count_1 (by omega) (by omega) (by rw [e9]; rfl) (by decide) ?_
    refine xe_aload_n dX10_count_69 rfl q_rvO ?_
    refine xe_geti dX10_count_70 fX10_64 (fun _ _ => rfl) ?_
    exact xe_iret .int dX10_count_73 rfl rfl ⟨_, _, rfl, rfl, Wq⟩
  by_cases e_1_3 : x1 = 3
  · replace Wq := Wq.2.2.2.1 e_1_3
    have e9 := q_toI e_1_3 (show (3 : Int32).toInt = 3 by decide)
    refine xe_swIn 74 dX10_count_1 (by omega) (by omega) (by rw [e9]; rfl) (by decide) ?_
    refine xe_aload_n dX10_count_74 rfl q_rvO ?_
    refine xe_geti dX10_count_75 fX10_68 (fun _ _ => rfl) ?_
    exact xe_iret .int dX10_count_78 rfl rfl ⟨_, _, rfl, rfl, Wq⟩
  by_cases e_1_4 : x1 = 4
  · replace Wq := Wq.2.2.2.2.1 e_1_4
    have e9 := q_toI e_1_4 (show (4 : Int32).toInt = 4 by decide)
    refine xe_swIn 79 dX10_count_1 (by omega) (by omega) (by rw [e9]; rfl) (by decide) ?_
    refine xe_aload_n dX10_count_79 rfl q_rvO ?_
    refine xe_getr dX10_count_80 fX10_10 (fun _ _ => rfl) (q_sg hS rfl) ?_
    refine xe_geti dX10_count_83 fX10_282 (fun _ _ => rfl) ?_
    exact xe_iret .int dX10_count_86 rfl rfl ⟨_, _, rfl, rfl, Wq⟩
  by_cases e_1_5 : x1 = 5
  · replace Wq := Wq.2.2.2.2.2.1 e_1_5
    have e9 := q_toI e_1_5 (show (5 : Int32).toInt = 5 by decide)
    refine xe_swIn 87 dX10_count_1 (by omega) (by omega) (by rw [e9]; rfl) (by decide) ?_
    refine xe_aload_n dX10_count_87 rfl q_rvO ?_
    refine xe_geti dX10_count_88 fX10_71 (fun _ _ => rfl) ?_
    exact xe_iret .int dX10_count_91 rfl rfl ⟨_, _, rfl, rfl, Wq⟩
  by_cases e_1_6 : x1 = 6
  · replace Wq := Wq.2.2.2.2.2.2.1 e_1_6
    have e9 := q_toI e_1_6 (show (6 : Int32).toInt = 6 by decide)
    refine xe_swIn 92 dX10_count_1 (by omega) (by omega) (by rw [e9]; rfl) (by decide) ?_
    refine xe_aload_n dX10_count_92 rfl q_rvO ?_
    refine xe_getr dX10_count_93 fX10_44 (fun _ _ => rfl) (q_sg hS rfl) ?_
    refine xe_geti dX10_count_96 fX10_224 (fun _ _ => rfl) ?_
    exact xe_iret .int dX10_count_99 rfl rfl ⟨_, _, rfl, rfl, Wq⟩
  by_cases e_1_7 : x1 = 7
  · replace Wq := Wq.2.2.2.2.2.2.2.1 e_1_7
    have e9 := q_toI e_1_7 (show (7 : Int32).toInt = 7 by decide)
    refine xe_swIn 100 dX10_count_1 (by omega) (by omega) (by rw [e9]; rfl) (by decide) ?_
    refine xe_aload_n dX10_count_100 rfl q_rvO ?_
    refine xe_iconst 0 dX10_count_101 (by decide) ?_
    refine xe_cv (y' := mX10_packsThatAre) dX10_count_102 (Or.inl lX10_285) tX10_packsThatAre rfl rfl (ct_X10_packsThatAre hS Wq) rfl rfl (Nat.le_of_ble_eq_true rfl) ⟨Nat.le_of_ble_eq_true rfl, Nat.le_of_ble_eq_true rfl⟩ ⟨Nat.le_of_ble_eq_true rfl, Nat.le_of_ble_eq_true rfl⟩ (fun v1 h1 hl1 hk1 hm1 => ?_)
    obtain ⟨r102, a102, rfl, rfl, Wq⟩ := hk1
    exact xe_iret .int dX10_count_105 rfl rfl ⟨_, _, rfl, rfl, Wq⟩
  by_cases e_1_8 : x1 = 8
  · replace Wq := Wq.2.2.2.2.2.2.2.2.1 e_1_8
    have e9 := q_toI e_1_8 (show (8 : Int32).toInt = 8 by decide)
    refine xe_swIn 106 dX10_count_1 (by omega) (by omega) (by rw [e9]; rfl) (by decide) ?_
    refine xe_aload_n dX10_count_106 rfl q_rvO ?_
    refine xe_iconst 2 dX10_count_107 (by decide) ?_
    refine xe_cv (y' := mX10_packsThatAre) dX10_count_108 (Or.inl lX10_285) tX10_packsThatAre rfl rfl (ct_X10_packsThatAre hS Wq) rfl rfl (Nat.le_of_ble_eq_true rfl) ⟨Nat.le_of_ble_eq_true rfl, Nat.le_of_ble_eq_true rfl⟩ ⟨Nat.le_of_ble_eq_true rfl, Nat.le_of_ble_eq_true rfl⟩ (fun v1 h1 hl1 hk1 hm1 => ?_)
    obtain ⟨r108, a108, rfl, rfl, Wq⟩ := hk1
    exact xe_iret .int dX10_count_111 rfl rfl ⟨_, _, rfl, rfl, Wq⟩
  by_cases e_1_9 : x1 = 9
  · replace Wq := Wq.2.2.2.2.2.2.2.2.2.1 e_1_9
    have e9 := q_toI e_1_9 (show (9 : Int32).toInt = 9 by decide)
    refine xe_swIn 112 dX10_count_1 (by omega) (by omega) (by rw [e9]; rfl) (by decide) ?_
    refine xe_aload_n dX10_count_112 rfl q_rvO ?_
    refine xe_cv (y' := mX10_payOfAll) dX10_count_113 (Or.inl lX10_288) tX10_payOfAll rfl rfl (ct_X10_payOfAll hS Wq) rfl rfl (Nat.le_of_ble_eq_true rfl) ⟨Nat.le_of_ble_eq_true rfl, Nat.le_of_ble_eq_true rfl⟩ ⟨Nat.le_of_ble_eq_true rfl, Nat.le_of_ble_eq_true rfl⟩ (fun v1 h1 hl1 hk1 hm1 => ?_)
    obtain ⟨r113, a113, rfl, rfl, Wq⟩ := hk1
    exact xe_iret .int dX10_count_116 rfl rfl ⟨_, _, rfl, rfl, Wq⟩
  replace Wq := Wq.2.2.2.2.2.2.2.2.2.2 e_1_0 e_1_1 e_1_2 e_1_3 e_1_4 e_1_5 e_1_6 e_1_7 e_1_8 e_1_9
  have z_0 := lv_neT e_1_0 (show (0 : Int32).toInt = 0 by decide)
  have z_1 := lv_neT e_1_1 (show (1 : Int32).toInt = 1 by decide)
  have z_2 := lv_neT e_1_2 (show (2 : Int32).toInt = 2 by decide)
  have z_3 := lv_neT e_1_3 (show (3 : Int32).toInt = 3 by decide)
  have z_4 := lv_neT e_1_4 (show (4 : Int32).toInt = 4 by decide)
  have z_5 := lv_neT e_1_5 (show (5 : Int32).toInt = 5 by decide)
  have z_6 := lv_neT e_1_6 (show (6 : Int32).toInt = 6 by decide)
  have z_7 := lv_neT e_1_7 (show (7 : Int32).toInt = 7 by decide)
  have z_8 := lv_neT e_1_8 (show (8 : Int32).toInt = 8 by decide)
  have z_9 := lv_neT e_1_9 (show (9 : Int32).toInt = 9 by decide)
  refine xe_swOut 117 dX10_count_1 (by omega) (by decide) ?_
  refine xe_iconst (-1) dX10_count_117 (by decide) ?_
  exact xe_iret .int dX10_count_118 rfl rfl ⟨_, _, rfl, rfl, Wq⟩
def wp_X10_inn (t p : Nat) (x1 : Int32) (x2 : Int32) (x3 : Int32) (a : qa) (post : Int32 → qa → Prop) : Prop := wp_X6_addInn t p x1 x2 x3 a (fun r7 a7 => post r7 a7)
set_option maxHeartbeats 4000000 in
theorem ct_X10_inn {g : q_G} {s : q_S} {t p : Nat} (hS : q_Sh t p s) {x1 : Int32} {x2 : Int32} {x3 : Int32} {a : qa} {post : Int32 → qa → Prop} (Wq : wp_X10_inn t p x1 x2 x3 a post) : q_Ct g mX10_inn (q_Rm 2 0 0) [q_O 10 0, q_I x1, q_I x2, q_I x3] (a, s) (q_kI s post) := by
  refine q_mk rfl rfl (Nat.le_of_ble_eq_true rfl) (q_cs rfl (q_cs rfl (q_cs rfl (q_cs rfl q_nil)))) (fun hv => ?_)
  unfold wp_X10_inn at Wq
  refine xe_aload_n dX10_inn_0 rfl q_rvO ?_
  refine xe_getr dX10_inn_1 fX10_10 (fun _ _ => rfl) (q_sg hS rfl) ?_
  refine xe_iload_n dX10_inn_4 rfl ?_
  refine xe_iload_n dX10_inn_5 rfl ?_
  refine xe_iload_n dX10_inn_6 rfl ?_
  refine xe_cv (y' := mX6_addInn) dX10_inn_7 (Or.inl lX10_81) tX6_addInn rfl rfl (ct_X6_addInn hS Wq) rfl rfl (Nat.le_of_ble_eq_true rfl) ⟨Nat.le_of_ble_eq_true rfl, Nat.le_of_ble_eq_true rfl⟩ ⟨Nat.le_of_ble_eq_true rfl, Nat.le_of_ble_eq_true rfl⟩ (fun v1 h1 hl1 hk1 hm1 => ?_)
  obtain ⟨r7, a7, rfl, rfl, Wq⟩ := hk1
  exact xe_iret .int dX10_inn_10 rfl rfl ⟨_, _, rfl, rfl, Wq⟩
def wp_X10_innOf (t p : Nat) (o1 : Nat) (a : qa) (post : Int32 → qa → Prop) : Prop := ((¬ (a 4 o1 4) = 0 → ((¬ (a 4 o1 4) = 1 → post (-1) a) ∧ ((a 4 o1 4) = 1 → wp_X10_trainAt t p (a 4 o1 5) a (fun r25 a25 => ((r25 = none → post (-1) a25) ∧ (∀ i_34, r25 = some i_34 → post (a25 9 i_34 1) a25)))))) ∧ ((a 4 o1 4) = 0 → post (a 4 o1 5) a))
set_option maxHeartbeats 4000000 in
theorem ct_X10_innOf {g : q_G} {s : q_S} {t p : Nat} (hS : q_Sh t p s) {o1 : Nat} {a : qa} {post : Int32 → qa → Prop} (Wq : wp_X10_innOf t p o1 a post) : q_Ct g mX10_innOf (q_Rm 2 0 0) [q_O 10 0, q_O 4 o1] (a, s) (q_kI s post) := by
  refine q_mk rfl rfl (Nat.le_of_ble_eq_true rfl) (q_cs rfl (q_cs rfl q_nil)) (fun hv => ?_)
  unfold wp_X10_innOf at Wq
  refine xe_aload_n dX10_innOf_0 rfl q_rvO ?_
  refine xe_geti dX10_innOf_1 fX10_128 (fun _ _ => rfl) ?_
  refine xe_if_ne 12 dX10_innOf_4 (by decide) (fun c_4 => ?_) (fun c_4 => ?_)
  · replace Wq := Wq.1 c_4
    refine xe_aload_n dX10_innOf_12 rfl q_rvO ?_
    refine xe_geti dX10_innOf_13 fX10_128 (fun _ _ => rfl) ?_
    refine xe_iconst 1 dX10_innOf_16 (by decide) ?_
    refine xe_ic_ne 31 dX10_innOf_17 (by decide) (fun c_17 => ?_) (fun c_17 => ?_)
    · replace Wq := Wq.1 c_17
      refine xe_null dX10_innOf_31 ?_
      refine xe_astore_n dX10_innOf_32 (by decide) q_rvN ?_
      refine xe_aload_n dX10_innOf_33 rfl q_rvN ?_
      refine xe_ifnonnullN dX10_innOf_34 ?_
      refine xe_iconst (-1) dX10_innOf_37 (by decide) ?_
      refine xe_goto 45 dX10_innOf_38 (by decide) ?_
      exact xe_iret .int dX10_innOf_45 rfl rfl ⟨_, _, rfl, rfl, Wq⟩
    · replace Wq := Wq.2 c_17
      refine xe_aload_n dX10_innOf_20 rfl q_rvO ?_
      refine xe_aload_n dX10_innOf_21 rfl q_rvO ?_
      refine xe_geti dX10_innOf_22 fX10_134 (fun _ _ => rfl) ?_
      refine xe_cv (y' := mX10_trainAt) dX10_innOf_25 (Or.inl lX10_116) tX10_trainAt rfl rfl (ct_X10_trainAt hS Wq) rfl rfl (Nat.le_of_ble_eq_true rfl) ⟨Nat.le_of_ble_eq_true rfl, Nat.le_of_ble_eq_true rfl⟩ ⟨Nat.le_of_ble_eq_true rfl, Nat.le_of_ble_eq_true rfl⟩ (fun v1 h1 hl1 hk1 hm1 => ?_)
      obtain ⟨r25, a25, rfl, rfl, Wq⟩ := hk1
      refine xe_goto 32 dX10_innOf_28 (by decide) ?_
      refine xe_astore_n dX10_innOf_32 (by decide) q_rvR ?_
      refine xe_aload_n dX10_innOf_33 rfl q_rvR ?_
      cases e_34 : r25 with
      | none =>
        replace Wq := Wq.1 e_34
        try rw [e_34]
        refine xe_ifnonnullN dX10_innOf_34 ?_
        refine xe_iconst (-1) dX10_innOf_37 (by decide) ?_
        refine xe_goto 45 dX10_innOf_38 (by decide) ?_
        exact xe_iret .int dX10_innOf_45 rfl rfl ⟨_, _, rfl, rfl, Wq⟩
      | some i_34 =>
        replace Wq := Wq.2 i_34 e_34
        try rw [e_34]
        refine xe_ifnonnullO 41 dX10_innOf_34 (by decide) ?_
        refine xe_aload_n dX10_innOf_41 rfl q_rvO ?_
        refine xe_geti dX10_innOf_42 fX10_131 (fun _ _ => rfl) ?_
        exact xe_iret .int dX10_innOf_45 rfl rfl ⟨_, _, rfl, rfl, Wq⟩
  · replace Wq := Wq.2 c_4
    refine xe_aload_n dX10_innOf_7 rfl q_rvO ?_
    refine xe_geti dX10_innOf_8 fX10_134 (fun _ _ => rfl) ?_
    exact xe_iret .int dX10_innOf_11 rfl rfl ⟨_, _, rfl, rfl, Wq⟩
def wl_X10_lay_152 (t p : Nat) (post : Int32 → qa → Prop) : Int32 → Int32 → Int32 → Int32 → Nat → Nat → Nat → qa → Prop := fun x1 x2 x3 x4 o5 o6 o7 a => wp_X3_bear t p o7 x3 x4 (a 4 o6 1) a (fun a162 => wp_X4_liftOnto t p o6 x1 x2 x3 (qs a162 9 o5 5 ((a162 9 o5 5) + 1)) (fun a181 => wp_X2_add t p x4 (a181 10 0 12) (10 + x1) a181 (fun a198 => wp_X3_load t p o7 a198 (fun r203 a203 => post r203 a203))))
def wl_X10_lay_132 (t p : Nat) (post : Int32 → qa → Prop) : Int32 → Int32 → Int32 → Int32 → Nat → Nat → Nat → Int32 → Int32 → qa → Prop := fun x1 x2 x3 x4 o5 o6 o7 y0 y1 a => ((¬ y0 = y1 → post (-5) a) ∧ (y0 = y1 → ((¬ x3 = 2 → wl_X10_lay_152 t p post x1 x2 x3 x4 o5 o6 o7 a) ∧ (x3 = 2 → (((a 3 o7 6) = (-1) → wl_X10_lay_152 t p post x1 x2 x3 x4 o5 o6 o7 a) ∧ (¬ (a 3 o7 6) = (-1) → post (-5) a))))))
def wl_X10_lay_122 (t p : Nat) (post : Int32 → qa → Prop) : Int32 → Int32 → Int32 → Int32 → Nat → Nat → Nat → Int32 → qa → Prop := fun x1 x2 x3 x4 o5 o6 o7 y0 a => ((¬ x3 = 2 → wl_X10_lay_132 t p post x1 x2 x3 x4 o5 o6 o7 y0 0 a) ∧ (x3 = 2 → wl_X10_lay_132 t p post x1 x2 x3 x4 o5 o6 o7 y0 1 a))
def wp_X10_lay (t p : Nat) (x1 : Int32) (x2 : Int32) (x3 : Int32) (x4 : Int32) (a : qa) (post : Int32 → qa → Prop) : Prop := wp_X10_trainAt t p x1 a (fun r2 a2 => wp_X10_packAt t p x4 a2 (fun r10 a10 => ((r2 = none → post (-1) a10) ∧ (∀ i_17, r2 = some i_17 → ((r10 = none → post (-1) a10) ∧ (∀ i_22, r10 = some i_22 → ((x3 < 0 → post (-1) a10) ∧ (¬ x3 < 0 → ((x3 ≤ 2 → wp_X9_muleAt t p i_17 x2 a10 (fun r39 a39 => ((r39 = none → post (-1) a39) ∧ (∀ i_46, r39 = some i_46 → ((¬ (a39 4 i_22 4) = 0 → post (-2) a39) ∧ ((a39 4 i_22 4) = 0 → (((a39 9 i_17 1) = (a39 4 i_22 5) → (((a39 3 i_46 2) = 0 → wp_X3_load t p i_46 a39 (fun r88 a88 => (((r88 + (a88 4 i_22 1)) ≤ (a88 3 i_46 0) → ((¬ (a88 4 i_22 0) = 3 → wl_X10_lay_122 t p post x1 x2 x3 x4 i_17 i_22 i_46 0 a88) ∧ ((a88 4 i_22 0) = 3 → wl_X10_lay_122 t p post x1 x2 x3 x4 i_17 i_22 i_46 1 a88))) ∧ (¬ (r88 + (a88 4 i_22 1)) ≤ (a88 3 i_46 0) → post (-4) a88)))) ∧ (¬ (a39 3 i_46 2) = 0 → post (-3) a39))) ∧ (¬ (a39 9 i_17 1) = (a39 4 i_22 5) → post (-2) a39)))))))) ∧ (¬ x3 ≤ 2 → post (-1) a10))))))))))
set_option maxHeartbeats 4000000 in
theorem el_X10_lay_152 {g : q_G} {s : q_S} {t p : Nat} (hS : q_Sh t p s) {post : Int32 → qa → Prop} : ∀ (x1 : Int32) (x2 : Int32) (x3 : Int32) (x4 : Int32) (o5 : Nat) (o6 : Nat) (o7 : Nat) (a : qa), wl_X10_lay_152 t p post x1 x2 x3 x4 o5 o6 o7 a → q_E g mX10_lay (q_Rm 2 0 0) (q_kI s post) (0, 0) 152 [some (q_O 10 0), some (q_I x1), some (q_I x2), some (q_I x3), some (q_I x4), some (q_O 9 o5), some (q_O 4 o6), some (q_O 3 o7)] [] (a, s) := by
  intro x1 x2 x3 x4 o5 o6 o7 a Wq
  unfold wl_X10_lay_152 at Wq
  refine xe_aload dX10_lay_152 rfl q_rvO ?_
  refine xe_iload_n dX10_lay_154 rfl ?_
  refine xe_iload dX10_lay_155 rfl ?_
  refine xe_aload dX10_lay_157 rfl q_rvO ?_
  refine xe_geti dX10_lay_159 fX10_147 (fun _ _ => rfl) ?_
  refine xe_cv (y' := mX3_bear) dX10_lay_162 (Or.inl lX10_159) tX3_bear rfl rfl (ct_X3_bear hS Wq) rfl rfl (Nat.le_of_ble_eq_true rfl) ⟨Nat.le_of_ble_eq_true rfl, Nat.le_of_ble_eq_true rfl⟩ ⟨Nat.le_of_ble_eq_true rfl, Nat.le_of_ble_eq_true rfl⟩ (fun v1 h1 hl1 hk1 hm1 => ?_)
  obtain ⟨a162, rfl, rfl, Wq⟩ := hk1
  refine xe_aload dX10_lay_165 rfl q_rvO ?_
  refine xe_dup dX10_lay_167 rfl ?_
  refine xe_geti dX10_lay_168 fX10_162 (fun _ _ => rfl) ?_
  refine xe_iconst 1 dX10_lay_171 (by decide) ?_
  refine xe_iadd dX10_lay_172 ?_
  refine xf_puti dX10_lay_173 fX10_162 (fun q hq => Or.inl (by cases hq; rfl)) ⟨rfl, rfl⟩ (fun _ _ => rfl) ?_
  refine xe_aload dX10_lay_176 rfl q_rvO ?_
  refine xe_iload_n dX10_lay_178 rfl ?_
  refine xe_iload_n dX10_lay_179 rfl ?_
  refine xe_iload_n dX10_lay_180 rfl ?_
  refine xe_cv (y' := mX4_liftOnto) dX10_lay_181 (Or.inl lX10_164) tX4_liftOnto rfl rfl (ct_X4_liftOnto hS Wq) rfl rfl (Nat.le_of_ble_eq_true rfl) ⟨Nat.le_of_ble_eq_true rfl, Nat.le_of_ble_eq_true rfl⟩ ⟨Nat.le_of_ble_eq_true rfl, Nat.le_of_ble_eq_true rfl⟩ (fun v1 h1 hl1 hk1 hm1 => ?_)
  obtain ⟨a181, rfl, rfl, Wq⟩ := hk1
  refine xe_aload_n dX10_lay_184 rfl q_rvO ?_
  refine xe_getr dX10_lay_185 fX10_37 (fun _ _ => rfl) (q_sg hS rfl) ?_
  refine xe_iload dX10_lay_188 rfl ?_
  refine xe_aload_n dX10_lay_190 rfl q_rvO ?_
  refine xe_geti dX10_lay_191 fX10_77 (fun _ _ => rfl) ?_
  refine xe_bipush 10 dX10_lay_194 (by decide) ?_
  refine xe_iload_n dX10_lay_196 rfl ?_
  refine xe_iadd dX10_lay_197 ?_
  refine xe_cv (y' := mX2_add) dX10_lay_198 (Or.inl lX10_112) tX2_add rfl rfl (ct_X2_add hS Wq) rfl rfl (Nat.le_of_ble_eq_true rfl) ⟨Nat.le_of_ble_eq_true rfl, Nat.le_of_ble_eq_true rfl⟩ ⟨Nat.le_of_ble_eq_true rfl, Nat.le_of_ble_eq_true rfl⟩ (fun v1 h1 hl1 hk1 hm1 => ?_)
  obtain ⟨a198, rfl, rfl, Wq⟩ := hk1
  refine xe_aload dX10_lay_201 rfl q_rvO ?_
  refine xe_cv (y' := mX3_load) dX10_lay_203 (Or.inl lX10_143) tX3_load rfl rfl (ct_X3_load hS Wq) rfl rfl (Nat.le_of_ble_eq_true rfl) ⟨Nat.le_of_ble_eq_true rfl, Nat.le_of_ble_eq_true rfl⟩ ⟨Nat.le_of_ble_eq_true rfl, Nat.le_of_ble_eq_true rfl⟩ (fun v1 h1 hl1 hk1 hm1 => ?_)
  obtain ⟨r203, a203, rfl, rfl, Wq⟩ := hk1
  exact xe_iret .int dX10_lay_206 rfl rfl ⟨_, _, rfl, rfl, Wq⟩
set_option maxHeartbeats 4000000 in
theorem el_X10_lay_132 {g : q_G} {s : q_S} {t p : Nat} (hS : q_Sh t p s) {post : Int32 → qa → Prop} : ∀ (x1 : Int32) (x2 : Int32) (x3 : Int32) (x4 : Int32) (o5 : Nat) (o6 : Nat) (o7 : Nat) (y0 : Int32) (y1 : Int32) (a : qa), wl_X10_lay_132 t p post x1 x2 x3 x4 o5 o6 o7 y0 y1 a → q_E g mX10_lay (q_Rm 2 0 0) (q_kI s post) (0, 0) 132 [some (q_O 10 0), some (q_I x1), some (q_I x2), some (q_I x3), some (q_I x4), some (q_O 9 o5), some (q_O 4 o6), some (q_O 3 o7)] [(q_I y1), (q_I y0)] (a, s) := by
  intro x1 x2 x3 x4 o5 o6 o7 y0 y1 a Wq
  unfold wl_X10_lay_132 at Wq
  refine xe_ic_ne 149 dX10_lay_132 (by decide) (fun c_132 => ?_) (fun c_132 => ?_)
  · replace Wq := Wq.1 c_132
    refine xe_bipush (-5) dX10_lay_149 (by decide) ?_
    exact xe_iret .int dX10_lay_151 rfl rfl ⟨_, _, rfl, rfl, Wq⟩
  · replace Wq := Wq.2 c_132
    refine xe_iload_n dX10_lay_135 rfl ?_
    refine xe_iconst 2 dX10_lay_136 (by decide) ?_
    refine xe_ic_ne 152 dX10_lay_137 (by decide) (fun c_137 => ?_) (fun c_137 => ?_)
    · replace Wq := Wq.1 c_137
      refine q_wk (ls := [some (q_O 10 0), some (q_I x1), some (q_I x2), some (q_I x3), some (q_I x4), some (q_O 9 o5), some (q_O 4 o6), some (q_O 3 o7)]) ⟨rfl, ⟨rfl, ⟨rfl, ⟨rfl, ⟨rfl, ⟨rfl, ⟨rfl, ⟨rfl, trivial⟩⟩⟩⟩⟩⟩⟩⟩ ?_
      exact el_X10_lay_152 hS _ _ _ _ _ _ _ _ Wq
    · replace Wq := Wq.2 c_137
      refine xe_aload dX10_lay_140 rfl q_rvO ?_
      refine xe_geti dX10_lay_142 fX10_156 (fun _ _ => rfl) ?_
      refine xe_iconst (-1) dX10_lay_145 (by decide) ?_
      refine xe_ic_eq 152 dX10_lay_146 (by decide) (fun c_146 => ?_) (fun c_146 => ?_)
      · replace Wq := Wq.1 c_146
        refine q_wk (ls := [some (q_O 10 0), some (q_I x1), some (q_I x2), some (q_I x3), some (q_I x4), some (q_O 9 o5), some (q_O 4 o6), some (q_O 3 o7)]) ⟨rfl, ⟨rfl, ⟨rfl, ⟨rfl, ⟨rfl, ⟨rfl, ⟨rfl, ⟨rfl, trivial⟩⟩⟩⟩⟩⟩⟩⟩ ?_
        exact el_X10_lay_152 hS _ _ _ _ _ _ _ _ Wq
      · replace Wq := Wq.2 c_146
        refine xe_bipush (-5) dX10_lay_149 (by decide) ?_
        exact xe_iret .int dX10_lay_151 rfl rfl ⟨_, _, rfl, rfl, Wq⟩
set_option maxHeartbeats 4000000 in
theorem el_X10_lay_122 {g : q_G} {s : q_S} {t p : Nat} (hS : q_Sh t p s) {post : Int32 → qa → Prop} : ∀ (x1 : Int32) (x2 : Int32) (x3 : Int32) (x4 : Int32) (o5 : Nat) (o6 : Nat) (o7 : Nat) (y0 : Int32) (a : qa), wl_X10_lay_122 t p post x1 x2 x3 x4 o5 o6 o7 y0 a → q_E g mX10_lay (q_Rm 2 0 0) (q_kI s post) (0, 0) 122 [some (q_O 10 0), some (q_I x1), some (q_I x2), some (q_I x3), some (q_I x4), some (q_O 9 o5), some (q_O 4 o6), some (q_O 3 o7)] [(q_I y0)] (a, s) := by
  intro x1 x2 x3 x4 o5 o6 o7 y0 a Wq
  unfold wl_X10_lay_122 at Wq
  refine xe_iload_n dX10_lay_122 rfl ?_
  refine xe_iconst 2 dX10_lay_123 (by decide) ?_
  refine xe_ic_ne 131 dX10_lay_124 (by decide) (fun c_124 => ?_) (fun c_124 => ?_)
  · replace Wq := Wq.1 c_124
    refine xe_iconst 0 dX10_lay_131 (by decide) ?_
    refine q_wk (ls := [some (q_O 10 0), some (q_I x1), some (q_I x2), some (q_I x3), some (q_I x4), some (q_O 9 o5), some (q_O 4 o6), some (q_O 3 o7)]) ⟨rfl, ⟨rfl, ⟨rfl, ⟨rfl, ⟨rfl, ⟨rfl, ⟨rfl, ⟨rfl, trivial⟩⟩⟩⟩⟩⟩⟩⟩ ?_
    exact el_X10_lay_132 hS _ _ _ _ _ _ _ _ _ _ Wq
  · replace Wq := Wq.2 c_124
    refine xe_iconst 1 dX10_lay_127 (by decide) ?_
    refine xe_goto 132 dX10_lay_128 (by decide) ?_
    refine q_wk (ls := [some (q_O 10 0), some (q_I x1), some (q_I x2), some (q_I x3), some (q_I x4), some (q_O 9 o5), some (q_O 4 o6), some (q_O 3 o7)]) ⟨rfl, ⟨rfl, ⟨rfl, ⟨rfl, ⟨rfl, ⟨rfl, ⟨rfl, ⟨rfl, trivial⟩⟩⟩⟩⟩⟩⟩⟩ ?_
    exact el_X10_lay_132 hS _ _ _ _ _ _ _ _ _ _ Wq
set_option maxHeartbeats 4000000 in
theorem ct_X10_lay {g : q_G} {s : q_S} {t p : Nat} (hS : q_Sh t p s) {x1 : Int32} {x2 : Int32} {x3 : Int32} {x4 : Int32} {a : qa} {post : Int32 → qa → Prop} (Wq : wp_X10_lay t p x1 x2 x3 x4 a post) : q_Ct g mX10_lay (q_Rm 2 0 0) [q_O 10 0, q_I x1, q_I x2, q_I x3, q_I x4] (a, s) (q_kI s post) := by
  refine q_mk rfl rfl (Nat.le_of_ble_eq_true rfl) (q_cs rfl (q_cs rfl (q_cs rfl (q_cs rfl (q_cs rfl q_nil))))) (fun hv => ?_)
  unfold wp_X10_lay at Wq
  refine xe_aload_n dX10_lay_0 rfl q_rvO ?_
  refine xe_iload_n dX10_lay_1 rfl ?_
  refine xe_cv (y' := mX10_trainAt) dX10_lay_2 (Or.inl lX10_116) tX10_trainAt rfl rfl (ct_X10_trainAt hS Wq) rfl rfl (Nat.le_of_ble_eq_true rfl) ⟨Nat.le_of_ble_eq_true rfl, Nat.le_of_ble_eq_true rfl⟩ ⟨Nat.le_of_ble_eq_true rfl, Nat.le_of_ble_eq_true rfl⟩ (fun v1 h1 hl1 hk1 hm1 => ?_)
  obtain ⟨r2, a2, rfl, rfl, Wq⟩ := hk1
  refine xe_astore dX10_lay_5 (by decide) q_rvR ?_
  refine xe_aload_n dX10_lay_7 rfl q_rvO ?_
  refine xe_iload dX10_lay_8 rfl ?_
  refine xe_cv (y' := mX10_packAt) dX10_lay_10 (Or.inl lX10_120) tX10_packAt rfl rfl (ct_X10_packAt hS Wq) rfl rfl (Nat.le_of_ble_eq_true rfl) ⟨Nat.le_of_ble_eq_true rfl, Nat.le_of_ble_eq_true rfl⟩ ⟨Nat.le_of_ble_eq_true rfl, Nat.le_of_ble_eq_true rfl⟩ (fun v1 h1 hl1 hk1 hm1 => ?_)
  obtain ⟨r10, a10, rfl, rfl, Wq⟩ := hk1
  refine xe_astore dX10_lay_13 (by decide) q_rvR ?_
  refine xe_aload dX10_lay_15 rfl q_rvR ?_
  cases e_17 : r2 with
  | none =>
    replace Wq := Wq.1 e_17
    try rw [e_17]
    refine xe_ifnullN 34 dX10_lay_17 (by decide) ?_
    refine xe_iconst (-1) dX10_lay_34 (by decide) ?_
    exact xe_iret .int dX10_lay_35 rfl rfl ⟨_, _, rfl, rfl, Wq⟩
  | some i_17 =>
    replace Wq := Wq.2 i_17 e_17
    try rw [e_17]
    refine xe_ifnullO dX10_lay_17 ?_
    refine xe_aload dX10_lay_20 rfl q_rvR ?_
    cases e_22 : r10 with
    | none =>
      replace Wq := Wq.1 e_22
      try rw [e_22]
      refine xe_ifnullN 34 dX10_lay_22 (by decide) ?_
      refine xe_iconst (-1) dX10_lay_34 (by decide) ?_
      exact xe_iret .int dX10_lay_35 rfl rfl ⟨_, _, rfl, rfl, Wq⟩
    | some i_22 =>
      replace Wq := Wq.2 i_22 e_22
      try rw [e_22]
      refine xe_ifnullO dX10_lay_22 ?_
      refine xe_iload_n dX10_lay_25 rfl ?_
      refine xe_if_lt 34 dX10_lay_26 (by decide) (fun c_26 => ?_) (fun c_26 => ?_)
      · replace Wq := Wq.1 c_26
        refine xe_iconst (-1) dX10_lay_34 (by decide) ?_
        exact xe_iret .int dX10_lay_35 rfl rfl ⟨_, _, rfl, rfl, Wq⟩
      · replace Wq := Wq.2 c_26
        refine xe_iload_n dX10_lay_29 rfl ?_
        refine xe_iconst 2 dX10_lay_30 (by decide) ?_
        refine xe_ic_le 36 dX10_lay_31 (by decide) (fun c_31 => ?_) (fun c_31 => ?_)
        · replace Wq := Wq.1 c_31
          refine xe_aload dX10_lay_36 rfl q_rvO ?_
          refine xe_iload_n dX10_lay_38 rfl ?_
          refine xe_cv (y' := mX9_muleAt) dX10_lay_39 (Or.inl lX10_124) tX9_muleAt rfl rfl (ct_X9_muleAt hS Wq) rfl rfl (Nat.le_of_ble_eq_true rfl) ⟨Nat.le_of_ble_eq_true rfl, Nat.le_of_ble_eq_true rfl⟩ ⟨Nat.le_of_ble_eq_true rfl, Nat.le_of_ble_eq_true rfl⟩ (fun v1 h1 hl1 hk1 hm1 => ?_)
          obtain ⟨r39, a39, rfl, rfl, Wq⟩ := hk1
          refine xe_astore dX10_lay_42 (by decide) q_rvR ?_
          refine xe_aload dX10_lay_44 rfl q_rvR ?_
          cases e_46 : r39 with
          | none =>
            replace Wq := Wq.1 e_46
            try rw [e_46]
            refine xe_ifnonnullN dX10_lay_46 ?_
            refine xe_iconst (-1) dX10_lay_49 (by decide) ?_
            exact xe_iret .int dX10_lay_50 rfl rfl ⟨_, _, rfl, rfl, Wq⟩
          | some i_46 =>
            replace Wq := Wq.2 i_46 e_46
            try rw [e_46]
            refine xe_ifnonnullO 51 dX10_lay_46 (by decide) ?_
            refine xe_aload dX10_lay_51 rfl q_rvO ?_
            refine xe_geti dX10_lay_53 fX10_128 (fun _ _ => rfl) ?_
            refine xe_if_ne 72 dX10_lay_56 (by decide) (fun c_56 => ?_) (fun c_56 => ?_)
            · replace Wq := Wq.1 c_56
              refine xe_bipush (-2) dX10_lay_72 (by decide) ?_
              exact xe_iret .int dX10_lay_74 rfl rfl ⟨_, _, rfl, rfl, Wq⟩
            · replace Wq := Wq.2 c_56
              refine xe_aload dX10_lay_59 rfl q_rvO ?_
              refine xe_geti dX10_lay_61 fX10_131 (fun _ _ => rfl) ?_
              refine xe_aload dX10_lay_64 rfl q_rvO ?_
              refine xe_geti dX10_lay_66 fX10_134 (fun _ _ => rfl) ?_
              refine xe_ic_eq 75 dX10_lay_69 (by decide) (fun c_69 => ?_) (fun c_69 => ?_)
              · replace Wq := Wq.1 c_69
                refine xe_aload dX10_lay_75 rfl q_rvO ?_
                refine xe_geti dX10_lay_77 fX10_137 (fun _ _ => rfl) ?_
                refine xe_if_eq 86 dX10_lay_80 (by decide) (fun c_80 => ?_) (fun c_80 => ?_)
                · replace Wq := Wq.1 c_80
                  refine xe_aload dX10_lay_86 rfl q_rvO ?_
                  refine xe_cv (y' := mX3_load) dX10_lay_88 (Or.inl lX10_143) tX3_load rfl rfl (ct_X3_load hS Wq) rfl rfl (Nat.le_of_ble_eq_true rfl) ⟨Nat.le_of_ble_eq_true rfl, Nat.le_of_ble_eq_true rfl⟩ ⟨Nat.le_of_ble_eq_true rfl, Nat.le_of_ble_eq_true rfl⟩ (fun v1 h1 hl1 hk1 hm1 => ?_)
                  obtain ⟨r88, a88, rfl, rfl, Wq⟩ := hk1
                  refine xe_aload dX10_lay_91 rfl q_rvO ?_
                  refine xe_geti dX10_lay_93 fX10_147 (fun _ _ => rfl) ?_
                  refine xe_iadd dX10_lay_96 ?_
                  refine xe_aload dX10_lay_97 rfl q_rvO ?_
                  refine xe_geti dX10_lay_99 fX10_150 (fun _ _ => rfl) ?_
                  refine xe_ic_le 108 dX10_lay_102 (by decide) (fun c_102 => ?_) (fun c_102 => ?_)
                  · replace Wq := Wq.1 c_102
                    refine xe_aload dX10_lay_108 rfl q_rvO ?_
                    refine xe_geti dX10_lay_110 fX10_153 (fun _ _ => rfl) ?_
                    refine xe_iconst 3 dX10_lay_113 (by decide) ?_
                    refine xe_ic_ne 121 dX10_lay_114 (by decide) (fun c_114 => ?_) (fun c_114 => ?_)
                    · replace Wq := Wq.1 c_114
                      refine xe_iconst 0 dX10_lay_121 (by decide) ?_
                      refine q_wk (ls := [some (q_O 10 0), some (q_I x1), some (q_I x2), some (q_I x3), some (q_I x4), some (q_O 9 i_17), some (q_O 4 i_22), some (q_O 3 i_46)]) ⟨rfl, ⟨rfl, ⟨rfl, ⟨rfl, ⟨rfl, ⟨rfl, ⟨rfl, ⟨rfl, trivial⟩⟩⟩⟩⟩⟩⟩⟩ ?_
                      exact el_X10_lay_122 hS _ _ _ _ _ _ _ _ _ Wq
                    · replace Wq := Wq.2 c_114
                      refine xe_iconst 1 dX10_lay_117 (by decide) ?_
                      refine xe_goto 122 dX10_lay_118 (by decide) ?_
                      refine q_wk (ls := [some (q_O 10 0), some (q_I x1), some (q_I x2), some (q_I x3), some (q_I x4), some (q_O 9 i_17), some (q_O 4 i_22), some (q_O 3 i_46)]) ⟨rfl, ⟨rfl, ⟨rfl, ⟨rfl, ⟨rfl, ⟨rfl, ⟨rfl, ⟨rfl, trivial⟩⟩⟩⟩⟩⟩⟩⟩ ?_
                      exact el_X10_lay_122 hS _ _ _ _ _ _ _ _ _ Wq
                  · replace Wq := Wq.2 c_102
                    refine xe_bipush (-4) dX10_lay_105 (by decide) ?_
                    exact xe_iret .int dX10_lay_107 rfl rfl ⟨_, _, rfl, rfl, Wq⟩
                · replace Wq := Wq.2 c_80
                  refine xe_bipush (-3) dX10_lay_83 (by decide) ?_
                  exact xe_iret .int dX10_lay_85 rfl rfl ⟨_, _, rfl, rfl, Wq⟩
              · replace Wq := Wq.2 c_69
                refine xe_bipush (-2) dX10_lay_72 (by decide) ?_
                exact xe_iret .int dX10_lay_74 rfl rfl ⟨_, _, rfl, rfl, Wq⟩
        · replace Wq := Wq.2 c_31
          refine xe_iconst (-1) dX10_lay_34 (by decide) ?_
          exact xe_iret .int dX10_lay_35 rfl rfl ⟨_, _, rfl, rfl, Wq⟩
def wp_X10_muleOf (t p : Nat) (x1 : Int32) (x2 : Int32) (x3 : Int32) (a : qa) (post : Int32 → qa → Prop) : Prop := wp_X10_trainAt t p x1 a (fun r2 a2 => ((r2 = none → post (-1) a2) ∧ (∀ i_9, r2 = some i_9 → wp_X9_muleAt t p i_9 x2 a2 (fun r17 a17 => ((r17 = none → post (-1) a17) ∧ (∀ i_24, r17 = some i_24 → ((x3 = 0 → post (a17 3 i_24 0) a17) ∧ (x3 = 1 → post (a17 3 i_24 1) a17) ∧ (x3 = 2 → (((a17 3 i_24 2) = 0 → post 0 a17) ∧ (¬ (a17 3 i_24 2) = 0 → post 1 a17))) ∧ (x3 = 3 → wp_X3_load t p i_24 a17 (fun r104 a104 => post r104 a104)) ∧ (x3 = 4 → post (a17 3 i_24 4) a17) ∧ (x3 = 5 → post (a17 3 i_24 5) a17) ∧ (x3 = 6 → post (a17 3 i_24 6) a17) ∧ (x3 = 7 → post (a17 3 i_24 3) a17) ∧ (¬ x3 = 0 → ¬ x3 = 1 → ¬ x3 = 2 → ¬ x3 = 3 → ¬ x3 = 4 → ¬ x3 = 5 → ¬ x3 = 6 → ¬ x3 = 7 → post (-1) a17))))))))
set_option maxHeartbeats 4000000 in
theorem ct_X10_muleOf {g : q_G} {s : q_S} {t p : Nat} (hS : q_Sh t p s) {x1 : Int32} {x2 : Int32} {x3 : Int32} {a : qa} {post : Int32 → qa → Prop} (Wq : wp_X10_muleOf t p x1 x2 x3 a post) : q_Ct g mX10_muleOf (q_Rm 2 0 0) [q_O 10 0, q_I x1, q_I x2, q_I x3] (a, s) (q_kI s post) := by
  refine q_mk rfl rfl (Nat.le_of_ble_eq_true rfl) (q_cs rfl (q_cs rfl (q_cs rfl (q_cs rfl q_nil)))) (fun hv => ?_)
  unfold wp_X10_muleOf at Wq
  refine xe_aload_n dX10_muleOf_0 rfl q_rvO ?_
  refine xe_iload_n dX10_muleOf_1 rfl ?_
  refine xe_cv (y' := mX10_trainAt) dX10_muleOf_2 (Or.inl lX10_116) tX10_trainAt rfl rfl (ct_X10_trainAt hS Wq) rfl rfl (Nat.le_of_ble_eq_true rfl) ⟨Nat.le_of_ble_eq_true rfl, Nat.le_of_ble_eq_true rfl⟩ ⟨Nat.le_of_ble_eq_true rfl, Nat.le_of_ble_eq_true rfl⟩ (fun v1 h1 hl1 hk1 hm1 => ?_)
  obtain ⟨r2, a2, rfl, rfl, Wq⟩ := hk1
  refine xe_astore dX10_muleOf_5 (by decide) q_rvR ?_
  refine xe_aload dX10_muleOf_7 rfl q_rvR ?_
  cases e_9 : r2 with
  | none =>
    replace Wq := Wq.1 e_9
    try rw [e_9]
    refine xe_ifnonnullN dX10_muleOf_9 ?_
    refine xe_iconst (-1) dX10_muleOf_12 (by decide) ?_
    exact xe_iret .int dX10_muleOf_13 rfl rfl ⟨_, _, rfl, rfl, Wq⟩
  | some i_9 =>
    replace Wq := Wq.2 i_9 e_9
    try rw [e_9]
    refine xe_ifnonnullO 14 dX10_muleOf_9 (by decide) ?_
    refine xe_aload dX10_muleOf_14 rfl q_rvO ?_
    refine xe_iload_n dX10_muleOf_16 rfl ?_
    refine xe_cv (y' := mX9_muleAt) dX10_muleOf_17 (Or.inl lX10_124) tX9_muleAt rfl rfl (ct_X9_muleAt hS Wq) rfl rfl (Nat.le_of_ble_eq_true rfl) ⟨Nat.le_of_ble_eq_true rfl, Nat.le_of_ble_eq_true rfl⟩ ⟨Nat.le_of_ble_eq_true rfl, Nat.le_of_ble_eq_true rfl⟩ (fun v1 h1 hl1 hk1 hm1 => ?_)
    obtain ⟨r17, a17, rfl, rfl, Wq⟩ := hk1
    refine xe_astore dX10_muleOf_20 (by decide) q_rvR ?_
    refine xe_aload dX10_muleOf_22 rfl q_rvR ?_
    cases e_24 : r17 with
    | none =>
      replace Wq := Wq.1 e_24
      try rw [e_24]
      refine xe_ifnonnullN dX10_muleOf_24 ?_
      refine xe_iconst (-1) dX10_muleOf_27 (by decide) ?_
      exact xe_iret .int dX10_muleOf_28 rfl rfl ⟨_, _, rfl, rfl, Wq⟩
    | some i_24 =>
      replace Wq := Wq.2 i_24 e_24
      try rw [e_24]
      refine xe_ifnonnullO 29 dX10_muleOf_24 (by decide) ?_
      refine xe_iload_n dX10_muleOf_29 rfl ?_
      by_cases e_30_0 : x3 = 0
      · replace Wq := Wq.1 e_30_0
        have e9 := q_toI e_30_0 (show (0 : Int32).toInt = 0 by decide)
        refine xe_swIn 76 dX10_muleOf_30 (by omega) (by omega) (by rw [e9]; rfl) (by decide) ?_
        refine xe_aload dX10_muleOf_76 rfl q_rvO ?_
        refine xe_geti dX10_muleOf_78 fX10_150 (fun _ _ => rfl) ?_
        exact xe_iret .int dX10_muleOf_81 rfl rfl ⟨_, _, rfl, rfl, Wq⟩
      by_cases e_30_1 : x3 = 1
      · replace Wq := Wq.2.1 e_30_1
        have e9 := q_toI e_30_1 (show (1 : Int32).toInt = 1 by decide)
        refine xe_swIn 82 dX10_muleOf_30 (by omega) (by omega) (by rw [e9]; rfl) (by decide) ?_
        refine xe_aload dX10_muleOf_82 rfl q_rvO ?_
        refine xe_geti dX10_muleOf_84 fX10_244 (fun _ _ => rfl) ?_
        exact xe_iret .int dX10_muleOf_87 rfl rfl ⟨_, _, rfl, rfl, Wq⟩
      by_cases e_30_2 : x3 = 2
      · replace Wq := Wq.2.2.1 e_30_2
        have e9 := q_toI e_30_2 (show (2 : Int32).toInt = 2 by decide)
        refine xe_swIn 88 dX10_muleOf_30 (by omega) (by omega) (by rw [e9]; rfl) (by decide) ?_
        refine xe_aload dX10_muleOf_88 rfl q_rvO ?_
        refine xe_geti dX10_muleOf_90 fX10_137 (fun _ _ => rfl) ?_
        refine xe_if_eq 100 dX10_muleOf_93 (by decide) (fun c_93 => ?_) (fun c_93 => ?_)
        · replace Wq := Wq.1 c_93
          refine xe_iconst 0 dX10_muleOf_100 (by decide) ?_
          exact xe_iret .int dX10_muleOf_101 rfl rfl ⟨_, _, rfl, rfl, Wq⟩
        · replace Wq := Wq.2 c_93
          refine xe_iconst 1 dX10_muleOf_96 (by decide) ?_
          refine xe_goto 101 dX10_muleOf_97 (by decide) ?_
          exact xe_iret .int dX10_muleOf_101 rfl rfl ⟨_, _, rfl, rfl, Wq⟩
      by_cases e_30_3 : x3 = 3
      · replace Wq := Wq.2.2.2.1 e_30_3
        have e9 := q_toI e_30_3 (show (3 : Int32).toInt = 3 by decide)
        refine xe_swIn 102 dX10_muleOf_30 (by omega) (by omega) (by rw [e9]; rfl) (by decide) ?_
        refine xe_aload dX10_muleOf_102 rfl q_rvO ?_
        refine xe_cv (y' := mX3_load) dX10_muleOf_104 (Or.inl lX10_143) tX3_load rfl rfl (ct_X3_load hS Wq) rfl rfl (Nat.le_of_ble_eq_true rfl) ⟨Nat.le_of_ble_eq_true rfl, Nat.le_of_ble_eq_true rfl⟩ ⟨Nat.le_of_ble_eq_true rfl, Nat.le_of_ble_eq_true rfl⟩ (fun v1 h1 hl1 hk1 hm1 => ?_)
        obtain ⟨r104, a104, rfl, rfl, Wq⟩ := hk1
        exact xe_iret .int dX10_muleOf_107 rfl rfl ⟨_, _, rfl, rfl, Wq⟩
      by_cases e_30_4 : x3 = 4
      · replace Wq := Wq.2.2.2.2.1 e_30_4
        have e9 := q_toI e_30_4 (show (4 : Int32).toInt = 4 by decide)
        refine xe_swIn 108 dX10_muleOf_30 (by omega) (by omega) (by rw [e9]; rfl) (by decide) ?_
        refine xe_aload dX10_muleOf_108 rfl q_rvO ?_
        refine xe_geti dX10_muleOf_110 fX10_247 (fun _ _ => rfl) ?_
        exact xe_iret .int dX10_muleOf_113 rfl rfl ⟨_, _, rfl, rfl, Wq⟩
      by_cases e_30_5 : x3 = 5
      · replace Wq := Wq.2.2.2.2.2.1 e_30_5
        have e9 := q_toI e_30_5 (show (5 : Int32).toInt = 5 by decide)
        refine xe_swIn 114 dX10_muleOf_30 (by omega) (by omega) (by rw [e9]; rfl) (by decide) ?_
        refine xe_aload dX10_muleOf_114 rfl q_rvO ?_
        refine xe_geti dX10_muleOf_116 fX10_250 (fun _ _ => rfl) ?_
        exact xe_iret .int dX10_muleOf_119 rfl rfl ⟨_, _, rfl, rfl, Wq⟩
      by_cases e_30_6 : x3 = 6
      · replace Wq := Wq.2.2.2.2.2.2.1 e_30_6
        have e9 := q_toI e_30_6 (show (6 : Int32).toInt = 6 by decide)
        refine xe_swIn 120 dX10_muleOf_30 (by omega) (by omega) (by rw [e9]; rfl) (by decide) ?_
        refine xe_aload dX10_muleOf_120 rfl q_rvO ?_
        refine xe_geti dX10_muleOf_122 fX10_156 (fun _ _ => rfl) ?_
        exact xe_iret .int dX10_muleOf_125 rfl rfl ⟨_, _, rfl, rfl, Wq⟩
      by_cases e_30_7 : x3 = 7
      · replace Wq := Wq.2.2.2.2.2.2.2.1 e_30_7
        have e9 := q_toI e_30_7 (show (7 : Int32).toInt = 7 by decide)
        refine xe_swIn 126 dX10_muleOf_30 (by omega) (by omega) (by rw [e9]; rfl) (by decide) ?_
        refine xe_aload dX10_muleOf_126 rfl q_rvO ?_
        refine xe_geti dX10_muleOf_128 fX10_253 (fun _ _ => rfl) ?_
        exact xe_iret .int dX10_muleOf_131 rfl rfl ⟨_, _, rfl, rfl, Wq⟩
      replace Wq := Wq.2.2.2.2.2.2.2.2 e_30_0 e_30_1 e_30_2 e_30_3 e_30_4 e_30_5 e_30_6 e_30_7
      have z_0 := lv_neT e_30_0 (show (0 : Int32).toInt = 0 by decide)
      have z_1 := lv_neT e_30_1 (show (1 : Int32).toInt = 1 by decide)
      have z_2 := lv_neT e_30_2 (show (2 : Int32).toInt = 2 by decide)
      have z_3 := lv_neT e_30_3 (show (3 : Int32).toInt = 3 by decide)
      have z_4 := lv_neT e_30_4 (show (4 : Int32).toInt = 4 by decide)
      have z_5 := lv_neT e_30_5 (show (5 : Int32).toInt = 5 by decide)
      have z_6 := lv_neT e_30_6 (show (6 : Int32).toInt = 6 by decide)
      have z_7 := lv_neT e_30_7 (show (7 : Int32).toInt = 7 by decide)
      refine xe_swOut 132 dX10_muleOf_30 (by omega) (by decide) ?_
      refine xe_iconst (-1) dX10_muleOf_132 (by decide) ?_
      exact xe_iret .int dX10_muleOf_133 rfl rfl ⟨_, _, rfl, rfl, Wq⟩
def wp_X10_of (t p : Nat) (x1 : Int32) (x2 : Int32) (a : qa) (post : Int32 → qa → Prop) : Prop := wp_X10_packAt t p x1 a (fun r2 a2 => ((r2 = none → post (-1) a2) ∧ (∀ i_7, r2 = some i_7 → ((x2 = 0 → post (a2 4 i_7 0) a2) ∧ (x2 = 1 → post (a2 4 i_7 1) a2) ∧ (x2 = 2 → post (a2 4 i_7 2) a2) ∧ (x2 = 3 → post (a2 4 i_7 4) a2) ∧ (x2 = 4 → post (a2 4 i_7 5) a2) ∧ (x2 = 5 → post (a2 4 i_7 3) a2) ∧ (x2 = 6 → post (a2 4 i_7 8) a2) ∧ (x2 = 7 → wp_X10_bargainIn t p (a2 4 i_7 3) a2 (fun r100 a100 => post r100 a100)) ∧ (¬ x2 = 0 → ¬ x2 = 1 → ¬ x2 = 2 → ¬ x2 = 3 → ¬ x2 = 4 → ¬ x2 = 5 → ¬ x2 = 6 → ¬ x2 = 7 → post (-1) a2)))))
set_option maxHeartbeats 4000000 in
theorem ct_X10_of {g : q_G} {s : q_S} {t p : Nat} (hS : q_Sh t p s) {x1 : Int32} {x2 : Int32} {a : qa} {post : Int32 → qa → Prop} (Wq : wp_X10_of t p x1 x2 a post) : q_Ct g mX10_of (q_Rm 2 0 0) [q_O 10 0, q_I x1, q_I x2] (a, s) (q_kI s post) := by
  refine q_mk rfl rfl (Nat.le_of_ble_eq_true rfl) (q_cs rfl (q_cs rfl (q_cs rfl q_nil))) (fun hv => ?_)
  unfold wp_X10_of at Wq
  refine xe_aload_n dX10_of_0 rfl q_rvO ?_
  refine xe_iload_n dX10_of_1 rfl ?_
  refine xe_cv (y' := mX10_packAt) dX10_of_2 (Or.inl lX10_120) tX10_packAt rfl rfl (ct_X10_packAt hS Wq) rfl rfl (Nat.le_of_ble_eq_true rfl) ⟨Nat.le_of_ble_eq_true rfl, Nat.le_of_ble_eq_true rfl⟩ ⟨Nat.le_of_ble_eq_true rfl, Nat.le_of_ble_eq_true rfl⟩ (fun v1 h1 hl1 hk1 hm1 => ?_)
  obtain ⟨r2, a2, rfl, rfl, Wq⟩ := hk1
  refine xe_astore_n dX10_of_5 (by decide) q_rvR ?_
  refine xe_aload_n dX10_of_6 rfl q_rvR ?_
  cases e_7 : r2 with
  | none =>
    replace Wq := Wq.1 e_7
    try rw [e_7]
    refine xe_ifnonnullN dX10_of_7 ?_
    refine xe_iconst (-1) dX10_of_10 (by decide) ?_
    exact xe_iret .int dX10_of_11 rfl rfl ⟨_, _, rfl, rfl, Wq⟩
  | some i_7 =>
    replace Wq := Wq.2 i_7 e_7
    try rw [e_7]
    refine xe_ifnonnullO 12 dX10_of_7 (by decide) ?_
    refine xe_iload_n dX10_of_12 rfl ?_
    by_cases e_13_0 : x2 = 0
    · replace Wq := Wq.1 e_13_0
      have e9 := q_toI e_13_0 (show (0 : Int32).toInt = 0 by decide)
      refine xe_swIn 60 dX10_of_13 (by omega) (by omega) (by rw [e9]; rfl) (by decide) ?_
      refine xe_aload_n dX10_of_60 rfl q_rvO ?_
      refine xe_geti dX10_of_61 fX10_153 (fun _ _ => rfl) ?_
      exact xe_iret .int dX10_of_64 rfl rfl ⟨_, _, rfl, rfl, Wq⟩
    by_cases e_13_1 : x2 = 1
    · replace Wq := Wq.2.1 e_13_1
      have e9 := q_toI e_13_1 (show (1 : Int32).toInt = 1 by decide)
      refine xe_swIn 65 dX10_of_13 (by omega) (by omega) (by rw [e9]; rfl) (by decide) ?_
      refine xe_aload_n dX10_of_65 rfl q_rvO ?_
      refine xe_geti dX10_of_66 fX10_147 (fun _ _ => rfl) ?_
      exact xe_iret .int dX10_of_69 rfl rfl ⟨_, _, rfl, rfl, Wq⟩
    by_cases e_13_2 : x2 = 2
    · replace Wq := Wq.2.2.1 e_13_2
      have e9 := q_toI e_13_2 (show (2 : Int32).toInt = 2 by decide)
      refine xe_swIn 70 dX10_of_13 (by omega) (by omega) (by rw [e9]; rfl) (by decide) ?_
      refine xe_aload_n dX10_of_70 rfl q_rvO ?_
      refine xe_geti dX10_of_71 fX10_181 (fun _ _ => rfl) ?_
      exact xe_iret .int dX10_of_74 rfl rfl ⟨_, _, rfl, rfl, Wq⟩
    by_cases e_13_3 : x2 = 3
    · replace Wq := Wq.2.2.2.1 e_13_3
      have e9 := q_toI e_13_3 (show (3 : Int32).toInt = 3 by decide)
      refine xe_swIn 75 dX10_of_13 (by omega) (by omega) (by rw [e9]; rfl) (by decide) ?_
      refine xe_aload_n dX10_of_75 rfl q_rvO ?_
      refine xe_geti dX10_of_76 fX10_128 (fun _ _ => rfl) ?_
      exact xe_iret .int dX10_of_79 rfl rfl ⟨_, _, rfl, rfl, Wq⟩
    by_cases e_13_4 : x2 = 4
    · replace Wq := Wq.2.2.2.2.1 e_13_4
      have e9 := q_toI e_13_4 (show (4 : Int32).toInt = 4 by decide)
      refine xe_swIn 80 dX10_of_13 (by omega) (by omega) (by rw [e9]; rfl) (by decide) ?_
      refine xe_aload_n dX10_of_80 rfl q_rvO ?_
      refine xe_geti dX10_of_81 fX10_134 (fun _ _ => rfl) ?_
      exact xe_iret .int dX10_of_84 rfl rfl ⟨_, _, rfl, rfl, Wq⟩
    by_cases e_13_5 : x2 = 5
    · replace Wq := Wq.2.2.2.2.2.1 e_13_5
      have e9 := q_toI e_13_5 (show (5 : Int32).toInt = 5 by decide)
      refine xe_swIn 85 dX10_of_13 (by omega) (by omega) (by rw [e9]; rfl) (by decide) ?_
      refine xe_aload_n dX10_of_85 rfl q_rvO ?_
      refine xe_geti dX10_of_86 fX10_256 (fun _ _ => rfl) ?_
      exact xe_iret .int dX10_of_89 rfl rfl ⟨_, _, rfl, rfl, Wq⟩
    by_cases e_13_6 : x2 = 6
    · replace Wq := Wq.2.2.2.2.2.2.1 e_13_6
      have e9 := q_toI e_13_6 (show (6 : Int32).toInt = 6 by decide)
      refine xe_swIn 90 dX10_of_13 (by omega) (by omega) (by rw [e9]; rfl) (by decide) ?_
      refine xe_aload_n dX10_of_90 rfl q_rvO ?_
      refine xe_geti dX10_of_91 fX10_259 (fun _ _ => rfl) ?_
      exact xe_iret .int dX10_of_94 rfl rfl ⟨_, _, rfl, rfl, Wq⟩
    by_cases e_13_7 : x2 = 7
    · replace Wq := Wq.2.2.2.2.2.2.2.1 e_13_7
      have e9 := q_toI e_13_7 (show (7 : Int32).toInt = 7 by decide)
      refine xe_swIn 95 dX10_of_13 (by omega) (by omega) (by rw [e9]; rfl) (by decide) ?_
      refine xe_aload_n dX10_of_95 rfl q_rvO ?_
      refine xe_aload_n dX10_of_96 rfl q_rvO ?_
      refine xe_geti dX10_of_97 fX10_256 (fun _ _ => rfl) ?_
      refine xe_cv (y' := mX10_bargainIn) dX10_of_100 (Or.inl lX10_262) tX10_bargainIn rfl rfl (ct_X10_bargainIn hS Wq) rfl rfl (Nat.le_of_ble_eq_true rfl) ⟨Nat.le_of_ble_eq_true rfl, Nat.le_of_ble_eq_true rfl⟩ ⟨Nat.le_of_ble_eq_true rfl, Nat.le_of_ble_eq_true rfl⟩ (fun v1 h1 hl1 hk1 hm1 => ?_)
      obtain ⟨r100, a100, rfl, rfl, Wq⟩ := hk1
      exact xe_iret .int dX10_of_103 rfl rfl ⟨_, _, rfl, rfl, Wq⟩
    replace Wq := Wq.2.2.2.2.2.2.2.2 e_13_0 e_13_1 e_13_2 e_13_3 e_13_4 e_13_5 e_13_6 e_13_7
    have z_0 := lv_neT e_13_0 (show (0 : Int32).toInt = 0 by decide)
    have z_1 := lv_neT e_13_1 (show (1 : Int32).toInt = 1 by decide)
    have z_2 := lv_neT e_13_2 (show (2 : Int32).toInt = 2 by decide)
    have z_3 := lv_neT e_13_3 (show (3 : Int32).toInt = 3 by decide)
    have z_4 := lv_neT e_13_4 (show (4 : Int32).toInt = 4 by decide)
    have z_5 := lv_neT e_13_5 (show (5 : Int32).toInt = 5 by decide)
    have z_6 := lv_neT e_13_6 (show (6 : Int32).toInt = 6 by decide)
    have z_7 := lv_neT e_13_7 (show (7 : Int32).toInt = 7 by decide)
    refine xe_swOut 104 dX10_of_13 (by omega) (by decide) ?_
    refine xe_iconst (-1) dX10_of_104 (by decide) ?_
    exact xe_iret .int dX10_of_105 rfl rfl ⟨_, _, rfl, rfl, Wq⟩
def wp_X10_shut (t p : Nat) (x1 : Int32) (x2 : Int32) (x3 : Int32) (a : qa) (post : Int32 → qa → Prop) : Prop := wp_X6_hasLeg t p x1 a (fun r5 a5 => ((r5 = 0 → post (-1) a5) ∧ (¬ r5 = 0 → wp_X10_isHour t p x2 a5 (fun r12 a12 => ((r12 = 0 → post (-1) a12) ∧ (¬ r12 = 0 → ((x3 < 0 → post (-1) a12) ∧ (¬ x3 < 0 → ((x3 ≤ (a12 10 0 12) → wp_X6_isShut t p x1 x2 x3 a12 (fun r39 a39 => ((r39 = 0 → post 0 a39) ∧ (¬ r39 = 0 → post 1 a39)))) ∧ (¬ x3 ≤ (a12 10 0 12) → post (-1) a12))))))))))
set_option maxHeartbeats 4000000 in
theorem ct_X10_shut {g : q_G} {s : q_S} {t p : Nat} (hS : q_Sh t p s) {x1 : Int32} {x2 : Int32} {x3 : Int32} {a : qa} {post : Int32 → qa → Prop} (Wq : wp_X10_shut t p x1 x2 x3 a post) : q_Ct g mX10_shut (q_Rm 2 0 0) [q_O 10 0, q_I x1, q_I x2, q_I x3] (a, s) (q_kI s post) := by
  refine q_mk rfl rfl (Nat.le_of_ble_eq_true rfl) (q_cs rfl (q_cs rfl (q_cs rfl (q_cs rfl q_nil)))) (fun hv => ?_)
  unfold wp_X10_shut at Wq
  refine xe_aload_n dX10_shut_0 rfl q_rvO ?_
  refine xe_getr dX10_shut_1 fX10_10 (fun _ _ => rfl) (q_sg hS rfl) ?_
  refine xe_iload_n dX10_shut_4 rfl ?_
  refine xe_cv (y' := mX6_hasLeg) dX10_shut_5 (Or.inl lX10_99) tX6_hasLeg rfl rfl (ct_X6_hasLeg hS Wq) rfl rfl (Nat.le_of_ble_eq_true rfl) ⟨Nat.le_of_ble_eq_true rfl, Nat.le_of_ble_eq_true rfl⟩ ⟨Nat.le_of_ble_eq_true rfl, Nat.le_of_ble_eq_true rfl⟩ (fun v1 h1 hl1 hk1 hm1 => ?_)
  obtain ⟨r5, a5, rfl, rfl, Wq⟩ := hk1
  refine xe_if_eq 30 dX10_shut_8 (by decide) (fun c_8 => ?_) (fun c_8 => ?_)
  · replace Wq := Wq.1 c_8
    refine xe_iconst (-1) dX10_shut_30 (by decide) ?_
    exact xe_iret .int dX10_shut_31 rfl rfl ⟨_, _, rfl, rfl, Wq⟩
  · replace Wq := Wq.2 c_8
    refine xe_iload_n dX10_shut_11 rfl ?_
    refine xe_cs (y' := mX10_isHour) dX10_shut_12 (Or.inl lX10_102) tX10_isHour (ct_X10_isHour hS Wq) rfl rfl (Nat.le_of_ble_eq_true rfl) ⟨Nat.le_of_ble_eq_true rfl, Nat.le_of_ble_eq_true rfl⟩ ⟨Nat.le_of_ble_eq_true rfl, Nat.le_of_ble_eq_true rfl⟩ (fun v1 h1 hl1 hk1 hm1 => ?_)
    obtain ⟨r12, a12, rfl, rfl, Wq⟩ := hk1
    refine xe_if_eq 30 dX10_shut_15 (by decide) (fun c_15 => ?_) (fun c_15 => ?_)
    · replace Wq := Wq.1 c_15
      refine xe_iconst (-1) dX10_shut_30 (by decide) ?_
      exact xe_iret .int dX10_shut_31 rfl rfl ⟨_, _, rfl, rfl, Wq⟩
    · replace Wq := Wq.2 c_15
      refine xe_iload_n dX10_shut_18 rfl ?_
      refine xe_if_lt 30 dX10_shut_19 (by decide) (fun c_19 => ?_) (fun c_19 => ?_)
      · replace Wq := Wq.1 c_19
        refine xe_iconst (-1) dX10_shut_30 (by decide) ?_
        exact xe_iret .int dX10_shut_31 rfl rfl ⟨_, _, rfl, rfl, Wq⟩
      · replace Wq := Wq.2 c_19
        refine xe_iload_n dX10_shut_22 rfl ?_
        refine xe_aload_n dX10_shut_23 rfl q_rvO ?_
        refine xe_geti dX10_shut_24 fX10_77 (fun _ _ => rfl) ?_
        refine xe_ic_le 32 dX10_shut_27 (by decide) (fun c_27 => ?_) (fun c_27 => ?_)
        · replace Wq := Wq.1 c_27
          refine xe_aload_n dX10_shut_32 rfl q_rvO ?_
          refine xe_getr dX10_shut_33 fX10_10 (fun _ _ => rfl) (q_sg hS rfl) ?_
          refine xe_iload_n dX10_shut_36 rfl ?_
          refine xe_iload_n dX10_shut_37 rfl ?_
          refine xe_iload_n dX10_shut_38 rfl ?_
          refine xe_cv (y' := mX6_isShut) dX10_shut_39 (Or.inl lX10_105) tX6_isShut rfl rfl (ct_X6_isShut hS Wq) rfl rfl (Nat.le_of_ble_eq_true rfl) ⟨Nat.le_of_ble_eq_true rfl, Nat.le_of_ble_eq_true rfl⟩ ⟨Nat.le_of_ble_eq_true rfl, Nat.le_of_ble_eq_true rfl⟩ (fun v1 h1 hl1 hk1 hm1 => ?_)
          obtain ⟨r39, a39, rfl, rfl, Wq⟩ := hk1
          refine xe_if_eq 49 dX10_shut_42 (by decide) (fun c_42 => ?_) (fun c_42 => ?_)
          · replace Wq := Wq.1 c_42
            refine xe_iconst 0 dX10_shut_49 (by decide) ?_
            exact xe_iret .int dX10_shut_50 rfl rfl ⟨_, _, rfl, rfl, Wq⟩
          · replace Wq := Wq.2 c_42
            refine xe_iconst 1 dX10_shut_45 (by decide) ?_
            refine xe_goto 50 dX10_shut_46 (by decide) ?_
            exact xe_iret .int dX10_shut_50 rfl rfl ⟨_, _, rfl, rfl, Wq⟩
        · replace Wq := Wq.2 c_27
          refine xe_iconst (-1) dX10_shut_30 (by decide) ?_
          exact xe_iret .int dX10_shut_31 rfl rfl ⟨_, _, rfl, rfl, Wq⟩
def wp_X10_stringOf (t p : Nat) (x1 : Int32) (x2 : Int32) (a : qa) (post : Int32 → qa → Prop) : Prop := wp_X10_trainAt t p x1 a (fun r2 a2 => ((r2 = none → post (-1) a2) ∧ (∀ i_7, r2 = some i_7 → ((x2 = 0 → post (a2 9 i_7 1) a2) ∧ (x2 = 1 → post (a2 9 i_7 2) a2) ∧ (x2 = 2 → ((¬ (a2 9 i_7 2) = (-1) → (((a2 9 i_7 3) = 0 → post 0 a2) ∧ (¬ (a2 9 i_7 3) = 0 → post 1 a2))) ∧ ((a2 9 i_7 2) = (-1) → post (-1) a2))) ∧ (x2 = 3 → post (a2 9 i_7 4) a2) ∧ (x2 = 4 → post (a2 9 i_7 5) a2) ∧ (¬ x2 = 0 → ¬ x2 = 1 → ¬ x2 = 2 → ¬ x2 = 3 → ¬ x2 = 4 → post (-1) a2)))))
set_option maxHeartbeats 4000000 in
theorem ct_X10_stringOf {g : q_G} {s : q_S} {t p : Nat} (hS : q_Sh t p s) {x1 : Int32} {x2 : Int32} {a : qa} {post : Int32 → qa → Prop} (Wq : wp_X10_stringOf t p x1 x2 a post) : q_Ct g mX10_stringOf (q_Rm 2 0 0) [q_O 10 0, q_I x1, q_I x2] (a, s) (q_kI s post) := by
  refine q_mk rfl rfl (Nat.le_of_ble_eq_true rfl) (q_cs rfl (q_cs rfl (q_cs rfl q_nil))) (fun hv => ?_)
  unfold wp_X10_stringOf at Wq
  refine xe_aload_n dX10_stringOf_0 rfl q_rvO ?_
  refine xe_iload_n dX10_stringOf_1 rfl ?_
  refine xe_cv (y' := mX10_trainAt) dX10_stringOf_2 (Or.inl lX10_116) tX10_trainAt rfl rfl (ct_X10_trainAt hS Wq) rfl rfl (Nat.le_of_ble_eq_true rfl) ⟨Nat.le_of_ble_eq_true rfl, Nat.le_of_ble_eq_true rfl⟩ ⟨Nat.le_of_ble_eq_true rfl, Nat.le_of_ble_eq_true rfl⟩ (fun v1 h1 hl1 hk1 hm1 => ?_)
  obtain ⟨r2, a2, rfl, rfl, Wq⟩ := hk1
  refine xe_astore_n dX10_stringOf_5 (by decide) q_rvR ?_
  refine xe_aload_n dX10_stringOf_6 rfl q_rvR ?_
  cases e_7 : r2 with
  | none =>
    replace Wq := Wq.1 e_7
    try rw [e_7]
    refine xe_ifnonnullN dX10_stringOf_7 ?_
    refine xe_iconst (-1) dX10_stringOf_10 (by decide) ?_
    exact xe_iret .int dX10_stringOf_11 rfl rfl ⟨_, _, rfl, rfl, Wq⟩
  | some i_7 =>
    replace Wq := Wq.2 i_7 e_7
    try rw [e_7]
    refine xe_ifnonnullO 12 dX10_stringOf_7 (by decide) ?_
    refine xe_iload_n dX10_stringOf_12 rfl ?_
    by_cases e_13_0 : x2 = 0
    · replace Wq := Wq.1 e_13_0
      have e9 := q_toI e_13_0 (show (0 : Int32).toInt = 0 by decide)
      refine xe_swIn 48 dX10_stringOf_13 (by omega) (by omega) (by rw [e9]; rfl) (by decide) ?_
      refine xe_aload_n dX10_stringOf_48 rfl q_rvO ?_
      refine xe_geti dX10_stringOf_49 fX10_131 (fun _ _ => rfl) ?_
      exact xe_iret .int dX10_stringOf_52 rfl rfl ⟨_, _, rfl, rfl, Wq⟩
    by_cases e_13_1 : x2 = 1
    · replace Wq := Wq.2.1 e_13_1
      have e9 := q_toI e_13_1 (show (1 : Int32).toInt = 1 by decide)
      refine xe_swIn 53 dX10_stringOf_13 (by omega) (by omega) (by rw [e9]; rfl) (by decide) ?_
      refine xe_aload_n dX10_stringOf_53 rfl q_rvO ?_
      refine xe_geti dX10_stringOf_54 fX10_238 (fun _ _ => rfl) ?_
      exact xe_iret .int dX10_stringOf_57 rfl rfl ⟨_, _, rfl, rfl, Wq⟩
    by_cases e_13_2 : x2 = 2
    · replace Wq := Wq.2.2.1 e_13_2
      have e9 := q_toI e_13_2 (show (2 : Int32).toInt = 2 by decide)
      refine xe_swIn 58 dX10_stringOf_13 (by omega) (by omega) (by rw [e9]; rfl) (by decide) ?_
      refine xe_aload_n dX10_stringOf_58 rfl q_rvO ?_
      refine xe_geti dX10_stringOf_59 fX10_238 (fun _ _ => rfl) ?_
      refine xe_iconst (-1) dX10_stringOf_62 (by decide) ?_
      refine xe_ic_ne 70 dX10_stringOf_63 (by decide) (fun c_63 => ?_) (fun c_63 => ?_)
      · replace Wq := Wq.1 c_63
        refine xe_aload_n dX10_stringOf_70 rfl q_rvO ?_
        refine xe_geti dX10_stringOf_71 fX10_241 (fun _ _ => rfl) ?_
        refine xe_if_eq 81 dX10_stringOf_74 (by decide) (fun c_74 => ?_) (fun c_74 => ?_)
        · replace Wq := Wq.1 c_74
          refine xe_iconst 0 dX10_stringOf_81 (by decide) ?_
          exact xe_iret .int dX10_stringOf_82 rfl rfl ⟨_, _, rfl, rfl, Wq⟩
        · replace Wq := Wq.2 c_74
          refine xe_iconst 1 dX10_stringOf_77 (by decide) ?_
          refine xe_goto 82 dX10_stringOf_78 (by decide) ?_
          exact xe_iret .int dX10_stringOf_82 rfl rfl ⟨_, _, rfl, rfl, Wq⟩
      · replace Wq := Wq.2 c_63
        refine xe_iconst (-1) dX10_stringOf_66 (by decide) ?_
        refine xe_goto 82 dX10_stringOf_67 (by decide) ?_
        exact xe_iret .int dX10_stringOf_82 rfl rfl ⟨_, _, rfl, rfl, Wq⟩
    by_cases e_13_3 : x2 = 3
    · replace Wq := Wq.2.2.2.1 e_13_3
      have e9 := q_toI e_13_3 (show (3 : Int32).toInt = 3 by decide)
      refine xe_swIn 83 dX10_stringOf_13 (by omega) (by omega) (by rw [e9]; rfl) (by decide) ?_
      refine xe_aload_n dX10_stringOf_83 rfl q_rvO ?_
      refine xe_geti dX10_stringOf_84 fX10_209 (fun _ _ => rfl) ?_
      exact xe_iret .int dX10_stringOf_87 rfl rfl ⟨_, _, rfl, rfl, Wq⟩
    by_cases e_13_4 : x2 = 4
    · replace Wq := Wq.2.2.2.2.1 e_13_4
      have e9 := q_toI e_13_4 (show (4 : Int32).toInt = 4 by decide)
      refine xe_swIn 88 dX10_stringOf_13 (by omega) (by omega) (by rw [e9]; rfl) (by decide) ?_
      refine xe_aload_n dX10_stringOf_88 rfl q_rvO ?_
      refine xe_geti dX10_stringOf_89 fX10_162 (fun _ _ => rfl) ?_
      exact xe_iret .int dX10_stringOf_92 rfl rfl ⟨_, _, rfl, rfl, Wq⟩
    replace Wq := Wq.2.2.2.2.2 e_13_0 e_13_1 e_13_2 e_13_3 e_13_4
    have z_0 := lv_neT e_13_0 (show (0 : Int32).toInt = 0 by decide)
    have z_1 := lv_neT e_13_1 (show (1 : Int32).toInt = 1 by decide)
    have z_2 := lv_neT e_13_2 (show (2 : Int32).toInt = 2 by decide)
    have z_3 := lv_neT e_13_3 (show (3 : Int32).toInt = 3 by decide)
    have z_4 := lv_neT e_13_4 (show (4 : Int32).toInt = 4 by decide)
    refine xe_swOut 93 dX10_stringOf_13 (by omega) (by decide) ?_
    refine xe_iconst (-1) dX10_stringOf_93 (by decide) ?_
    exact xe_iret .int dX10_stringOf_94 rfl rfl ⟨_, _, rfl, rfl, Wq⟩
def wp_X10_was (t p : Nat) (x1 : Int32) (x2 : Int32) (a : qa) (post : Int32 → qa → Prop) : Prop := wp_X10_packAt t p x1 a (fun r2 a2 => ((r2 = none → post (-1) a2) ∧ (∀ i_5, r2 = some i_5 → ((x2 < 0 → post (-1) a2) ∧ (¬ x2 < 0 → ((x2 ≤ (a2 10 0 12) → wp_X2_placeOf t p x1 x2 a2 (fun r28 a28 => post r28 a28)) ∧ (¬ x2 ≤ (a2 10 0 12) → post (-1) a2)))))))
set_option maxHeartbeats 4000000 in
theorem ct_X10_was {g : q_G} {s : q_S} {t p : Nat} (hS : q_Sh t p s) {x1 : Int32} {x2 : Int32} {a : qa} {post : Int32 → qa → Prop} (Wq : wp_X10_was t p x1 x2 a post) : q_Ct g mX10_was (q_Rm 2 0 0) [q_O 10 0, q_I x1, q_I x2] (a, s) (q_kI s post) := by
  refine q_mk rfl rfl (Nat.le_of_ble_eq_true rfl) (q_cs rfl (q_cs rfl (q_cs rfl q_nil))) (fun hv => ?_)
  unfold wp_X10_was at Wq
  refine xe_aload_n dX10_was_0 rfl q_rvO ?_
  refine xe_iload_n dX10_was_1 rfl ?_
  refine xe_cv (y' := mX10_packAt) dX10_was_2 (Or.inl lX10_120) tX10_packAt rfl rfl (ct_X10_packAt hS Wq) rfl rfl (Nat.le_of_ble_eq_true rfl) ⟨Nat.le_of_ble_eq_true rfl, Nat.le_of_ble_eq_true rfl⟩ ⟨Nat.le_of_ble_eq_true rfl, Nat.le_of_ble_eq_true rfl⟩ (fun v1 h1 hl1 hk1 hm1 => ?_)
  obtain ⟨r2, a2, rfl, rfl, Wq⟩ := hk1
  cases e_5 : r2 with
  | none =>
    replace Wq := Wq.1 e_5
    try rw [e_5]
    refine xe_ifnullN 20 dX10_was_5 (by decide) ?_
    refine xe_iconst (-1) dX10_was_20 (by decide) ?_
    exact xe_iret .int dX10_was_21 rfl rfl ⟨_, _, rfl, rfl, Wq⟩
  | some i_5 =>
    replace Wq := Wq.2 i_5 e_5
    try rw [e_5]
    refine xe_ifnullO dX10_was_5 ?_
    refine xe_iload_n dX10_was_8 rfl ?_
    refine xe_if_lt 20 dX10_was_9 (by decide) (fun c_9 => ?_) (fun c_9 => ?_)
    · replace Wq := Wq.1 c_9
      refine xe_iconst (-1) dX10_was_20 (by decide) ?_
      exact xe_iret .int dX10_was_21 rfl rfl ⟨_, _, rfl, rfl, Wq⟩
    · replace Wq := Wq.2 c_9
      refine xe_iload_n dX10_was_12 rfl ?_
      refine xe_aload_n dX10_was_13 rfl q_rvO ?_
      refine xe_geti dX10_was_14 fX10_77 (fun _ _ => rfl) ?_
      refine xe_ic_le 22 dX10_was_17 (by decide) (fun c_17 => ?_) (fun c_17 => ?_)
      · replace Wq := Wq.1 c_17
        refine xe_aload_n dX10_was_22 rfl q_rvO ?_
        refine xe_getr dX10_was_23 fX10_37 (fun _ _ => rfl) (q_sg hS rfl) ?_
        refine xe_iload_n dX10_was_26 rfl ?_
        refine xe_iload_n dX10_was_27 rfl ?_
        refine xe_cv (y' := mX2_placeOf) dX10_was_28 (Or.inl lX10_275) tX2_placeOf rfl rfl (ct_X2_placeOf hS Wq) rfl rfl (Nat.le_of_ble_eq_true rfl) ⟨Nat.le_of_ble_eq_true rfl, Nat.le_of_ble_eq_true rfl⟩ ⟨Nat.le_of_ble_eq_true rfl, Nat.le_of_ble_eq_true rfl⟩ (fun v1 h1 hl1 hk1 hm1 => ?_)
        obtain ⟨r28, a28, rfl, rfl, Wq⟩ := hk1
        exact xe_iret .int dX10_was_31 rfl rfl ⟨_, _, rfl, rfl, Wq⟩
      · replace Wq := Wq.2 c_17
        refine xe_iconst (-1) dX10_was_20 (by decide) ?_
        exact xe_iret .int dX10_was_21 rfl rfl ⟨_, _, rfl, rfl, Wq⟩
def wp_X10_feed (t p : Nat) (x1 : Int32) (x2 : Int32) (x3 : Int32) (x4 : Int32) (x5 : Int32) (a : qa) (post : Int32 → qa → Prop) : Prop := ((((a 7 0 1) + 20) ≤ 400 → wp_X7_addNumber t p x1 a (fun a23 => wp_X7_addNumber t p x2 a23 (fun a31 => wp_X7_addNumber t p x3 a31 (fun a39 => wp_X7_addNumber t p x4 a39 (fun a48 => wp_X7_addNumber t p x5 a48 (fun a57 => post (a57 7 0 1) a57)))))) ∧ (¬ ((a 7 0 1) + 20) ≤ 400 → post (-1) a))
set_option maxHeartbeats 4000000 in
theorem ct_X10_feed {g : q_G} {s : q_S} {t p : Nat} (hS : q_Sh t p s) {x1 : Int32} {x2 : Int32} {x3 : Int32} {x4 : Int32} {x5 : Int32} {a : qa} {post : Int32 → qa → Prop} (Wq : wp_X10_feed t p x1 x2 x3 x4 x5 a post) : q_Ct g mX10_feed (q_Rm 3 0 0) [q_O 10 0, q_I x1, q_I x2, q_I x3, q_I x4, q_I x5] (a, s) (q_kI s post) := by
  refine q_mk rfl rfl (Nat.le_of_ble_eq_true rfl) (q_cs rfl (q_cs rfl (q_cs rfl (q_cs rfl (q_cs rfl (q_cs rfl q_nil)))))) (fun hv => ?_)
  unfold wp_X10_feed at Wq
  refine xe_aload_n dX10_feed_0 rfl q_rvO ?_
  refine xe_getr dX10_feed_1 fX10_44 (fun _ _ => rfl) (q_sg hS rfl) ?_
  refine xe_geti dX10_feed_4 fX10_224 (fun _ _ => rfl) ?_
  refine xe_bipush 20 dX10_feed_7 (by decide) ?_
  refine xe_iadd dX10_feed_9 ?_
  refine xe_sipush 400 dX10_feed_10 (by decide) ?_
  refine xe_ic_le 18 dX10_feed_13 (by decide) (fun c_13 => ?_) (fun c_13 => ?_)
  · replace Wq := Wq.1 c_13
    refine xe_aload_n dX10_feed_18 rfl q_rvO ?_
    refine xe_getr dX10_feed_19 fX10_44 (fun _ _ => rfl) (q_sg hS rfl) ?_
    refine xe_iload_n dX10_feed_22 rfl ?_
    refine xe_cv (y' := mX7_addNumber) dX10_feed_23 (Or.inl lX10_227) tX7_addNumber rfl rfl (ct_X7_addNumber hS Wq) rfl rfl (Nat.le_of_ble_eq_true rfl) ⟨Nat.le_of_ble_eq_true rfl, Nat.le_of_ble_eq_true rfl⟩ ⟨Nat.le_of_ble_eq_true rfl, Nat.le_of_ble_eq_true rfl⟩ (fun v1 h1 hl1 hk1 hm1 => ?_)
    obtain ⟨a23, rfl, rfl, Wq⟩ := hk1
    refine xe_aload_n dX10_feed_26 rfl q_rvO ?_
    refine xe_getr dX10_feed_27 fX10_44 (fun _ _ => rfl) (q_sg hS rfl) ?_
    refine xe_iload_n dX10_feed_30 rfl ?_
    refine xe_cv (y' := mX7_addNumber) dX10_feed_31 (Or.inl lX10_227) tX7_addNumber rfl rfl (ct_X7_addNumber hS Wq) rfl rfl (Nat.le_of_ble_eq_true rfl) ⟨Nat.le_of_ble_eq_true rfl, Nat.le_of_ble_eq_true rfl⟩ ⟨Nat.le_of_ble_eq_true rfl, Nat.le_of_ble_eq_true rfl⟩ (fun v1 h1 hl1 hk1 hm1 => ?_)
    obtain ⟨a31, rfl, rfl, Wq⟩ := hk1
    refine xe_aload_n dX10_feed_34 rfl q_rvO ?_
    refine xe_getr dX10_feed_35 fX10_44 (fun _ _ => rfl) (q_sg hS rfl) ?_
    refine xe_iload_n dX10_feed_38 rfl ?_
    refine xe_cv (y' := mX7_addNumber) dX10_feed_39 (Or.inl lX10_227) tX7_addNumber rfl rfl (ct_X7_addNumber hS Wq) rfl rfl (Nat.le_of_ble_eq_true rfl) ⟨Nat.le_of_ble_eq_true rfl, Nat.le_of_ble_eq_true rfl⟩ ⟨Nat.le_of_ble_eq_true rfl, Nat.le_of_ble_eq_true rfl⟩ (fun v1 h1 hl1 hk1 hm1 => ?_)
    obtain ⟨a39, rfl, rfl, Wq⟩ := hk1
    refine xe_aload_n dX10_feed_42 rfl q_rvO ?_
    refine xe_getr dX10_feed_43 fX10_44 (fun _ _ => rfl) (q_sg hS rfl) ?_
    refine xe_iload dX10_feed_46 rfl ?_
    refine xe_cv (y' := mX7_addNumber) dX10_feed_48 (Or.inl lX10_227) tX7_addNumber rfl rfl (ct_X7_addNumber hS Wq) rfl rfl (Nat.le_of_ble_eq_true rfl) ⟨Nat.le_of_ble_eq_true rfl, Nat.le_of_ble_eq_true rfl⟩ ⟨Nat.le_of_ble_eq_true rfl, Nat.le_of_ble_eq_true rfl⟩ (fun v1 h1 hl1 hk1 hm1 => ?_)
    obtain ⟨a48, rfl, rfl, Wq⟩ := hk1
    refine xe_aload_n dX10_feed_51 rfl q_rvO ?_
    refine xe_getr dX10_feed_52 fX10_44 (fun _ _ => rfl) (q_sg hS rfl) ?_
    refine xe_iload dX10_feed_55 rfl ?_
    refine xe_cv (y' := mX7_addNumber) dX10_feed_57 (Or.inl lX10_227) tX7_addNumber rfl rfl (ct_X7_addNumber hS Wq) rfl rfl (Nat.le_of_ble_eq_true rfl) ⟨Nat.le_of_ble_eq_true rfl, Nat.le_of_ble_eq_true rfl⟩ ⟨Nat.le_of_ble_eq_true rfl, Nat.le_of_ble_eq_true rfl⟩ (fun v1 h1 hl1 hk1 hm1 => ?_)
    obtain ⟨a57, rfl, rfl, Wq⟩ := hk1
    refine xe_aload_n dX10_feed_60 rfl q_rvO ?_
    refine xe_getr dX10_feed_61 fX10_44 (fun _ _ => rfl) (q_sg hS rfl) ?_
    refine xe_geti dX10_feed_64 fX10_224 (fun _ _ => rfl) ?_
    exact xe_iret .int dX10_feed_67 rfl rfl ⟨_, _, rfl, rfl, Wq⟩
  · replace Wq := Wq.2 c_13
    refine xe_iconst (-1) dX10_feed_16 (by decide) ?_
    exact xe_iret .int dX10_feed_17 rfl rfl ⟨_, _, rfl, rfl, Wq⟩
def wl_X10_holdPacks_2 (t p : Nat) (post : qa → Prop) : Nat → Int32 → Int32 → qa → Prop
  | 0 => fun _ _ _ => False
  | n + 1 => fun x1 x2 a => (((a 10 0 9) ≤ x2 → post a) ∧ (¬ (a 10 0 9) ≤ x2 → wp_X10_packAt t p x2 a (fun r12 a12 => ((r12 = none → (wl_X10_holdPacks_2 t p post n) x1 (x2 + 1) a12) ∧ (∀ i_17, r12 = some i_17 → wp_X10_innOf t p i_17 a12 (fun r23 a23 => wp_X4_nextLeg t p i_17 r23 a23 (fun r26 a26 => ((r26 = (-1) → (wl_X10_holdPacks_2 t p post n) x1 (x2 + 1) a26) ∧ (¬ r26 = (-1) → ((¬ ((x1 >>> (r26 &&& 31)) &&& 1) = 1 → (wl_X10_holdPacks_2 t p post n) x1 (x2 + 1) a26) ∧ (((x1 >>> (r26 &&& 31)) &&& 1) = 1 → (wl_X10_holdPacks_2 t p post n) x1 (x2 + 1) (qs a26 4 i_17 8 ((a26 4 i_17 8) + 1)))))))))))))
def wp_X10_holdPacks (t p : Nat) (x1 : Int32) (a : qa) (post : qa → Prop) : Prop := ∃ n_2, wl_X10_holdPacks_2 t p post n_2 x1 0 a
set_option maxHeartbeats 4000000 in
theorem el_X10_holdPacks_2 {g : q_G} {s : q_S} {t p : Nat} (hS : q_Sh t p s) {post : qa → Prop} : ∀ (n : Nat) (x1 : Int32) (x2 : Int32) (a : qa), wl_X10_holdPacks_2 t p post n x1 x2 a → q_E g mX10_holdPacks (q_Rm 3 0 0) (q_kV s post) (0, 0) 2 [some (q_O 10 0), some (q_I x1), some (q_I x2), none, none] [] (a, s) := by
  intro n
  induction n with
  | zero =>
    intro x1 x2 a Wq
    exact absurd Wq id
  | succ n ih =>
    intro x1 x2 a Wq
    unfold wl_X10_holdPacks_2 at Wq
    refine xe_iload_n dX10_holdPacks_2 rfl ?_
    refine xe_aload_n dX10_holdPacks_3 rfl q_rvO ?_
    refine xe_geti dX10_holdPacks_4 fX10_68 (fun _ _ => rfl) ?_
    refine xe_ic_ge 63 dX10_holdPacks_7 (by decide) (fun c_7 => ?_) (fun c_7 => ?_)
    · replace Wq := Wq.1 c_7
      exact xe_vret dX10_holdPacks_63 rfl ⟨_, rfl, rfl, Wq⟩
    · replace Wq := Wq.2 c_7
      refine xe_aload_n dX10_holdPacks_10 rfl q_rvO ?_
      refine xe_iload_n dX10_holdPacks_11 rfl ?_
      refine xe_cv (y' := mX10_packAt) dX10_holdPacks_12 (Or.inl lX10_120) tX10_packAt rfl rfl (ct_X10_packAt hS Wq) rfl rfl (Nat.le_of_ble_eq_true rfl) ⟨Nat.le_of_ble_eq_true rfl, Nat.le_of_ble_eq_true rfl⟩ ⟨Nat.le_of_ble_eq_true rfl, Nat.le_of_ble_eq_true rfl⟩ (fun v1 h1 hl1 hk1 hm1 => ?_)
      obtain ⟨r12, a12, rfl, rfl, Wq⟩ := hk1
      refine xe_astore_n dX10_holdPacks_15 (by decide) q_rvR ?_
      refine xe_aload_n dX10_holdPacks_16 rfl q_rvR ?_
      cases e_17 : r12 with
      | none =>
        replace Wq := Wq.1 e_17
        try rw [e_17]
        refine xe_ifnullN 57 dX10_holdPacks_17 (by decide) ?_
        refine xe_iinc (_ + 1) dX10_holdPacks_57 (by decide) rfl rfl ?_
        refine xe_goto 2 dX10_holdPacks_60 (by decide) ?_
        refine q_wk (ls := [some (q_O 10 0), some (q_I x1), some (q_I (x2 + 1)), none, none]) ⟨rfl, ⟨rfl, ⟨rfl, trivial⟩⟩⟩ ?_
        exact ih _ _ _ Wq
      | some i_17 =>
        replace Wq := Wq.2 i_17 e_17
        try rw [e_17]
        refine xe_ifnullO dX10_holdPacks_17 ?_
        refine xe_aload_n dX10_holdPacks_20 rfl q_rvO ?_
        refine xe_aload_n dX10_holdPacks_21 rfl q_rvO ?_
        refine xe_aload_n dX10_holdPacks_22 rfl q_rvO ?_
        refine xe_cv (y' := mX10_innOf) dX10_holdPacks_23 (Or.inl lX10_303) tX10_innOf rfl rfl (ct_X10_innOf hS Wq) rfl rfl (Nat.le_of_ble_eq_true rfl) ⟨Nat.le_of_ble_eq_true rfl, Nat.le_of_ble_eq_true rfl⟩ ⟨Nat.le_of_ble_eq_true rfl, Nat.le_of_ble_eq_true rfl⟩ (fun v1 h1 hl1 hk1 hm1 => ?_)
        obtain ⟨r23, a23, rfl, rfl, Wq⟩ := hk1
        refine xe_cv (y' := mX4_nextLeg) dX10_holdPacks_26 (Or.inl lX10_306) tX4_nextLeg rfl rfl (ct_X4_nextLeg hS Wq) rfl rfl (Nat.le_of_ble_eq_true rfl) ⟨Nat.le_of_ble_eq_true rfl, Nat.le_of_ble_eq_true rfl⟩ ⟨Nat.le_of_ble_eq_true rfl, Nat.le_of_ble_eq_true rfl⟩ (fun v1 h1 hl1 hk1 hm1 => ?_)
        obtain ⟨r26, a26, rfl, rfl, Wq⟩ := hk1
        refine xe_istore dX10_holdPacks_29 (by decide) ?_
        refine xe_iload dX10_holdPacks_31 rfl ?_
        refine xe_iconst (-1) dX10_holdPacks_33 (by decide) ?_
        refine xe_ic_eq 57 dX10_holdPacks_34 (by decide) (fun c_34 => ?_) (fun c_34 => ?_)
        · replace Wq := Wq.1 c_34
          refine xe_iinc (_ + 1) dX10_holdPacks_57 (by decide) rfl rfl ?_
          refine xe_goto 2 dX10_holdPacks_60 (by decide) ?_
          refine q_wk (ls := [some (q_O 10 0), some (q_I x1), some (q_I (x2 + 1)), none, none]) ⟨rfl, ⟨rfl, ⟨rfl, trivial⟩⟩⟩ ?_
          exact ih _ _ _ Wq
        · replace Wq := Wq.2 c_34
          refine xe_iload_n dX10_holdPacks_37 rfl ?_
          refine xe_iload dX10_holdPacks_38 rfl ?_
          refine xe_ishr dX10_holdPacks_40 ?_
          refine xe_iconst 1 dX10_holdPacks_41 (by decide) ?_
          refine xe_iand dX10_holdPacks_42 ?_
          refine xe_iconst 1 dX10_holdPacks_43 (by decide) ?_
          refine xe_ic_ne 57 dX10_holdPacks_44 (by decide) (fun c_44 => ?_) (fun c_44 => ?_)
          · replace Wq := Wq.1 c_44
            refine xe_iinc (_ + 1) dX10_holdPacks_57 (by decide) rfl rfl ?_
            refine xe_goto 2 dX10_holdPacks_60 (by decide) ?_
            refine q_wk (ls := [some (q_O 10 0), some (q_I x1), some (q_I (x2 + 1)), none, none]) ⟨rfl, ⟨rfl, ⟨rfl, trivial⟩⟩⟩ ?_
            exact ih _ _ _ Wq
          · replace Wq := Wq.2 c_44
            refine xe_aload_n dX10_holdPacks_47 rfl q_rvO ?_
            refine xe_dup dX10_holdPacks_48 rfl ?_
            refine xe_geti dX10_holdPacks_49 fX10_259 (fun _ _ => rfl) ?_
            refine xe_iconst 1 dX10_holdPacks_52 (by decide) ?_
            refine xe_iadd dX10_holdPacks_53 ?_
            refine xf_puti dX10_holdPacks_54 fX10_259 (fun q hq => Or.inl (by cases hq; rfl)) ⟨rfl, rfl⟩ (fun _ _ => rfl) ?_
            refine xe_iinc (_ + 1) dX10_holdPacks_57 (by decide) rfl rfl ?_
            refine xe_goto 2 dX10_holdPacks_60 (by decide) ?_
            refine q_wk (ls := [some (q_O 10 0), some (q_I x1), some (q_I (x2 + 1)), none, none]) ⟨rfl, ⟨rfl, ⟨rfl, trivial⟩⟩⟩ ?_
            exact ih _ _ _ Wq
set_option maxHeartbeats 4000000 in
theorem ct_X10_holdPacks {g : q_G} {s : q_S} {t p : Nat} (hS : q_Sh t p s) {x1 : Int32} {a : qa} {post : qa → Prop} (Wq : wp_X10_holdPacks t p x1 a post) : q_Ct g mX10_holdPacks (q_Rm 3 0 0) [q_O 10 0, q_I x1] (a, s) (q_kV s post) := by
  refine q_mk rfl rfl (Nat.le_of_ble_eq_true rfl) (q_cs rfl (q_cs rfl q_nil)) (fun hv => ?_)
  unfold wp_X10_holdPacks at Wq
  refine xe_iconst 0 dX10_holdPacks_0 (by decide) ?_
  refine xe_istore_n dX10_holdPacks_1 (by decide) ?_
  obtain ⟨n_2, Wq⟩ := Wq
  refine q_wk (ls := [some (q_O 10 0), some (q_I x1), some (q_I 0), none, none]) ⟨rfl, ⟨rfl, ⟨rfl, trivial⟩⟩⟩ ?_
  exact el_X10_holdPacks_2 hS n_2 _ _ _ Wq
def wp_X10_snow (t p : Nat) (x1 : Int32) (x2 : Int32) (x3 : Int32) (a : qa) (post : Int32 → qa → Prop) : Prop := wp_X6_addTelling t p x1 x2 x3 (a 10 0 12) a (fun r11 a11 => post r11 a11)
set_option maxHeartbeats 4000000 in
theorem ct_X10_snow {g : q_G} {s : q_S} {t p : Nat} (hS : q_Sh t p s) {x1 : Int32} {x2 : Int32} {x3 : Int32} {a : qa} {post : Int32 → qa → Prop} (Wq : wp_X10_snow t p x1 x2 x3 a post) : q_Ct g mX10_snow (q_Rm 3 0 0) [q_O 10 0, q_I x1, q_I x2, q_I x3] (a, s) (q_kI s post) := by
  refine q_mk rfl rfl (Nat.le_of_ble_eq_true rfl) (q_cs rfl (q_cs rfl (q_cs rfl (q_cs rfl q_nil)))) (fun hv => ?_)
  unfold wp_X10_snow at Wq
  refine xe_aload_n dX10_snow_0 rfl q_rvO ?_
  refine xe_getr dX10_snow_1 fX10_10 (fun _ _ => rfl) (q_sg hS rfl) ?_
  refine xe_iload_n dX10_snow_4 rfl ?_
  refine xe_iload_n dX10_snow_5 rfl ?_
  refine xe_iload_n dX10_snow_6 rfl ?_
  refine xe_aload_n dX10_snow_7 rfl q_rvO ?_
  refine xe_geti dX10_snow_8 fX10_77 (fun _ _ => rfl) ?_
  refine xe_cv (y' := mX6_addTelling) dX10_snow_11 (Or.inl lX10_95) tX6_addTelling rfl rfl (ct_X6_addTelling hS Wq) rfl rfl (Nat.le_of_ble_eq_true rfl) ⟨Nat.le_of_ble_eq_true rfl, Nat.le_of_ble_eq_true rfl⟩ ⟨Nat.le_of_ble_eq_true rfl, Nat.le_of_ble_eq_true rfl⟩ (fun v1 h1 hl1 hk1 hm1 => ?_)
  obtain ⟨r11, a11, rfl, rfl, Wq⟩ := hk1
  exact xe_iret .int dX10_snow_14 rfl rfl ⟨_, _, rfl, rfl, Wq⟩
def wl_X10_go_114 (t p : Nat) (post : Int32 → qa → Prop) : Int32 → Nat → Int32 → qa → Prop := fun x2 o3 x4 a => wp_X6_hoursOf t p x4 a (fun r128 a128 => wp_X9_leave t p o3 x4 x2 ((a 10 0 12) + r128) a128 (fun a132 => post (a132 9 o3 4) a132))
def wl_X10_go_40 (t p : Nat) (post : Int32 → qa → Prop) : Int32 → Nat → Int32 → qa → Prop := fun x2 o3 y0 a => wp_X6_hasLeg t p y0 a (fun r48 a48 => ((¬ r48 = 0 → wp_X9_isFit t p o3 a48 (fun r58 a58 => ((¬ r58 = 0 → wp_X6_isShut t p y0 (a58 10 0 12) (a58 10 0 12) a58 (fun r81 a81 => ((r81 = 0 → wp_X6_isLedge t p y0 a81 (fun r96 a96 => ((r96 = 0 → wl_X10_go_114 t p post x2 o3 y0 a96) ∧ (¬ r96 = 0 → wp_X10_isTaken t p y0 a96 (fun r105 a105 => ((r105 = 0 → wl_X10_go_114 t p post x2 o3 y0 a105) ∧ (¬ r105 = 0 → post (-6) a105))))))) ∧ (¬ r81 = 0 → post (-5) a81)))) ∧ (r58 = 0 → post (-4) a58)))) ∧ (r48 = 0 → post (-3) a48)))
def wp_X10_go (t p : Nat) (x1 : Int32) (x2 : Int32) (a : qa) (post : Int32 → qa → Prop) : Prop := wp_X10_trainAt t p x1 a (fun r2 a2 => ((r2 = none → post (-1) a2) ∧ (∀ i_7, r2 = some i_7 → ((¬ (a2 9 i_7 1) = (-1) → ((x2 = 0 → wl_X10_go_40 t p post x2 i_7 ((a2 9 i_7 1) - 1) a2) ∧ (¬ x2 = 0 → wl_X10_go_40 t p post x2 i_7 (a2 9 i_7 1) a2))) ∧ ((a2 9 i_7 1) = (-1) → post (-2) a2)))))
set_option maxHeartbeats 4000000 in
theorem el_X10_go_114 {g : q_G} {s : q_S} {t p : Nat} (hS : q_Sh t p s) {post : Int32 → qa → Prop} : ∀ (x2 : Int32) (o3 : Nat) (x4 : Int32) (a : qa), wl_X10_go_114 t p post x2 o3 x4 a → q_E g mX10_go (q_Rm 4 0 0) (q_kI s post) (0, 0) 114 [some (q_O 10 0), none, some (q_I x2), some (q_O 9 o3), some (q_I x4)] [] (a, s) := by
  intro x2 o3 x4 a Wq
  unfold wl_X10_go_114 at Wq
  refine xe_aload_n dX10_go_114 rfl q_rvO ?_
  refine xe_iload dX10_go_115 rfl ?_
  refine xe_iload_n dX10_go_117 rfl ?_
  refine xe_aload_n dX10_go_118 rfl q_rvO ?_
  refine xe_geti dX10_go_119 fX10_77 (fun _ _ => rfl) ?_
  refine xe_aload_n dX10_go_122 rfl q_rvO ?_
  refine xe_getr dX10_go_123 fX10_10 (fun _ _ => rfl) (q_sg hS rfl) ?_
  refine xe_iload dX10_go_126 rfl ?_
  refine xe_cv (y' := mX6_hoursOf) dX10_go_128 (Or.inl lX10_201) tX6_hoursOf rfl rfl (ct_X6_hoursOf hS Wq) rfl rfl (Nat.le_of_ble_eq_true rfl) ⟨Nat.le_of_ble_eq_true rfl, Nat.le_of_ble_eq_true rfl⟩ ⟨Nat.le_of_ble_eq_true rfl, Nat.le_of_ble_eq_true rfl⟩ (fun v1 h1 hl1 hk1 hm1 => ?_)
  obtain ⟨r128, a128, rfl, rfl, Wq⟩ := hk1
  refine xe_iadd dX10_go_131 ?_
  refine xe_cv (y' := mX9_leave) dX10_go_132 (Or.inl lX10_205) tX9_leave rfl rfl (ct_X9_leave hS Wq) rfl rfl (Nat.le_of_ble_eq_true rfl) ⟨Nat.le_of_ble_eq_true rfl, Nat.le_of_ble_eq_true rfl⟩ ⟨Nat.le_of_ble_eq_true rfl, Nat.le_of_ble_eq_true rfl⟩ (fun v1 h1 hl1 hk1 hm1 => ?_)
  obtain ⟨a132, rfl, rfl, Wq⟩ := hk1
  refine xe_aload_n dX10_go_135 rfl q_rvO ?_
  refine xe_geti dX10_go_136 fX10_209 (fun _ _ => rfl) ?_
  exact xe_iret .int dX10_go_139 rfl rfl ⟨_, _, rfl, rfl, Wq⟩
set_option maxHeartbeats 4000000 in
theorem el_X10_go_40 {g : q_G} {s : q_S} {t p : Nat} (hS : q_Sh t p s) {post : Int32 → qa → Prop} : ∀ (x2 : Int32) (o3 : Nat) (y0 : Int32) (a : qa), wl_X10_go_40 t p post x2 o3 y0 a → q_E g mX10_go (q_Rm 4 0 0) (q_kI s post) (0, 0) 40 [some (q_O 10 0), none, some (q_I x2), some (q_O 9 o3), none] [(q_I y0)] (a, s) := by
  intro x2 o3 y0 a Wq
  unfold wl_X10_go_40 at Wq
  refine xe_istore dX10_go_40 (by decide) ?_
  refine xe_aload_n dX10_go_42 rfl q_rvO ?_
  refine xe_getr dX10_go_43 fX10_10 (fun _ _ => rfl) (q_sg hS rfl) ?_
  refine xe_iload dX10_go_46 rfl ?_
  refine xe_cv (y' := mX6_hasLeg) dX10_go_48 (Or.inl lX10_99) tX6_hasLeg rfl rfl (ct_X6_hasLeg hS Wq) rfl rfl (Nat.le_of_ble_eq_true rfl) ⟨Nat.le_of_ble_eq_true rfl, Nat.le_of_ble_eq_true rfl⟩ ⟨Nat.le_of_ble_eq_true rfl, Nat.le_of_ble_eq_true rfl⟩ (fun v1 h1 hl1 hk1 hm1 => ?_)
  obtain ⟨r48, a48, rfl, rfl, Wq⟩ := hk1
  refine xe_if_ne 57 dX10_go_51 (by decide) (fun c_51 => ?_) (fun c_51 => ?_)
  · replace Wq := Wq.1 c_51
    refine xe_aload_n dX10_go_57 rfl q_rvO ?_
    refine xe_cv (y' := mX9_isFit) dX10_go_58 (Or.inl lX10_191) tX9_isFit rfl rfl (ct_X9_isFit hS Wq) rfl rfl (Nat.le_of_ble_eq_true rfl) ⟨Nat.le_of_ble_eq_true rfl, Nat.le_of_ble_eq_true rfl⟩ ⟨Nat.le_of_ble_eq_true rfl, Nat.le_of_ble_eq_true rfl⟩ (fun v1 h1 hl1 hk1 hm1 => ?_)
    obtain ⟨r58, a58, rfl, rfl, Wq⟩ := hk1
    refine xe_if_ne 67 dX10_go_61 (by decide) (fun c_61 => ?_) (fun c_61 => ?_)
    · replace Wq := Wq.1 c_61
      refine xe_aload_n dX10_go_67 rfl q_rvO ?_
      refine xe_getr dX10_go_68 fX10_10 (fun _ _ => rfl) (q_sg hS rfl) ?_
      refine xe_iload dX10_go_71 rfl ?_
      refine xe_aload_n dX10_go_73 rfl q_rvO ?_
      refine xe_geti dX10_go_74 fX10_77 (fun _ _ => rfl) ?_
      refine xe_aload_n dX10_go_77 rfl q_rvO ?_
      refine xe_geti dX10_go_78 fX10_77 (fun _ _ => rfl) ?_
      refine xe_cv (y' := mX6_isShut) dX10_go_81 (Or.inl lX10_105) tX6_isShut rfl rfl (ct_X6_isShut hS Wq) rfl rfl (Nat.le_of_ble_eq_true rfl) ⟨Nat.le_of_ble_eq_true rfl, Nat.le_of_ble_eq_true rfl⟩ ⟨Nat.le_of_ble_eq_true rfl, Nat.le_of_ble_eq_true rfl⟩ (fun v1 h1 hl1 hk1 hm1 => ?_)
      obtain ⟨r81, a81, rfl, rfl, Wq⟩ := hk1
      refine xe_if_eq 90 dX10_go_84 (by decide) (fun c_84 => ?_) (fun c_84 => ?_)
      · replace Wq := Wq.1 c_84
        refine xe_aload_n dX10_go_90 rfl q_rvO ?_
        refine xe_getr dX10_go_91 fX10_10 (fun _ _ => rfl) (q_sg hS rfl) ?_
        refine xe_iload dX10_go_94 rfl ?_
        refine xe_cv (y' := mX6_isLedge) dX10_go_96 (Or.inl lX10_195) tX6_isLedge rfl rfl (ct_X6_isLedge hS Wq) rfl rfl (Nat.le_of_ble_eq_true rfl) ⟨Nat.le_of_ble_eq_true rfl, Nat.le_of_ble_eq_true rfl⟩ ⟨Nat.le_of_ble_eq_true rfl, Nat.le_of_ble_eq_true rfl⟩ (fun v1 h1 hl1 hk1 hm1 => ?_)
        obtain ⟨r96, a96, rfl, rfl, Wq⟩ := hk1
        refine xe_if_eq 114 dX10_go_99 (by decide) (fun c_99 => ?_) (fun c_99 => ?_)
        · replace Wq := Wq.1 c_99
          refine q_wk (ls := [some (q_O 10 0), none, some (q_I x2), some (q_O 9 o3), some (q_I y0)]) ⟨rfl, ⟨rfl, ⟨rfl, ⟨rfl, trivial⟩⟩⟩⟩ ?_
          exact el_X10_go_114 hS _ _ _ _ Wq
        · replace Wq := Wq.2 c_99
          refine xe_aload_n dX10_go_102 rfl q_rvO ?_
          refine xe_iload dX10_go_103 rfl ?_
          refine xe_cv (y' := mX10_isTaken) dX10_go_105 (Or.inl lX10_198) tX10_isTaken rfl rfl (ct_X10_isTaken hS Wq) rfl rfl (Nat.le_of_ble_eq_true rfl) ⟨Nat.le_of_ble_eq_true rfl, Nat.le_of_ble_eq_true rfl⟩ ⟨Nat.le_of_ble_eq_true rfl, Nat.le_of_ble_eq_true rfl⟩ (fun v1 h1 hl1 hk1 hm1 => ?_)
          obtain ⟨r105, a105, rfl, rfl, Wq⟩ := hk1
          refine xe_if_eq 114 dX10_go_108 (by decide) (fun c_108 => ?_) (fun c_108 => ?_)
          · replace Wq := Wq.1 c_108
            refine q_wk (ls := [some (q_O 10 0), none, some (q_I x2), some (q_O 9 o3), some (q_I y0)]) ⟨rfl, ⟨rfl, ⟨rfl, ⟨rfl, trivial⟩⟩⟩⟩ ?_
            exact el_X10_go_114 hS _ _ _ _ Wq
          · replace Wq := Wq.2 c_108
            refine xe_bipush (-6) dX10_go_111 (by decide) ?_
            exact xe_iret .int dX10_go_113 rfl rfl ⟨_, _, rfl, rfl, Wq⟩
      · replace Wq := Wq.2 c_84
        refine xe_bipush (-5) dX10_go_87 (by decide) ?_
        exact xe_iret .int dX10_go_89 rfl rfl ⟨_, _, rfl, rfl, Wq⟩
    · replace Wq := Wq.2 c_61
      refine xe_bipush (-4) dX10_go_64 (by decide) ?_
      exact xe_iret .int dX10_go_66 rfl rfl ⟨_, _, rfl, rfl, Wq⟩
  · replace Wq := Wq.2 c_51
    refine xe_bipush (-3) dX10_go_54 (by decide) ?_
    exact xe_iret .int dX10_go_56 rfl rfl ⟨_, _, rfl, rfl, Wq⟩
set_option maxHeartbeats 4000000 in
theorem ct_X10_go {g : q_G} {s : q_S} {t p : Nat} (hS : q_Sh t p s) {x1 : Int32} {x2 : Int32} {a : qa} {post : Int32 → qa → Prop} (Wq : wp_X10_go t p x1 x2 a post) : q_Ct g mX10_go (q_Rm 4 0 0) [q_O 10 0, q_I x1, q_I x2] (a, s) (q_kI s post) := by
  refine q_mk rfl rfl (Nat.le_of_ble_eq_true rfl) (q_cs rfl (q_cs rfl (q_cs rfl q_nil))) (fun hv => ?_)
  unfold wp_X10_go at Wq
  refine xe_aload_n dX10_go_0 rfl q_rvO ?_
  refine xe_iload_n dX10_go_1 rfl ?_
  refine xe_cv (y' := mX10_trainAt) dX10_go_2 (Or.inl lX10_116) tX10_trainAt rfl rfl (ct_X10_trainAt hS Wq) rfl rfl (Nat.le_of_ble_eq_true rfl) ⟨Nat.le_of_ble_eq_true rfl, Nat.le_of_ble_eq_true rfl⟩ ⟨Nat.le_of_ble_eq_true rfl, Nat.le_of_ble_eq_true rfl⟩ (fun v1 h1 hl1 hk1 hm1 => ?_)
  obtain ⟨r2, a2, rfl, rfl, Wq⟩ := hk1
  refine xe_astore_n dX10_go_5 (by decide) q_rvR ?_
  refine xe_aload_n dX10_go_6 rfl q_rvR ?_
  cases e_7 : r2 with
  | none =>
    replace Wq := Wq.1 e_7
    try rw [e_7]
    refine xe_ifnonnullN dX10_go_7 ?_
    refine xe_iconst (-1) dX10_go_10 (by decide) ?_
    exact xe_iret .int dX10_go_11 rfl rfl ⟨_, _, rfl, rfl, Wq⟩
  | some i_7 =>
    replace Wq := Wq.2 i_7 e_7
    try rw [e_7]
    refine xe_ifnonnullO 12 dX10_go_7 (by decide) ?_
    refine xe_aload_n dX10_go_12 rfl q_rvO ?_
    refine xe_geti dX10_go_13 fX10_131 (fun _ _ => rfl) ?_
    refine xe_iconst (-1) dX10_go_16 (by decide) ?_
    refine xe_ic_ne 23 dX10_go_17 (by decide) (fun c_17 => ?_) (fun c_17 => ?_)
    · replace Wq := Wq.1 c_17
      refine xe_iload_n dX10_go_23 rfl ?_
      refine xe_if_eq 34 dX10_go_24 (by decide) (fun c_24 => ?_) (fun c_24 => ?_)
      · replace Wq := Wq.1 c_24
        refine xe_aload_n dX10_go_34 rfl q_rvO ?_
        refine xe_geti dX10_go_35 fX10_131 (fun _ _ => rfl) ?_
        refine xe_iconst 1 dX10_go_38 (by decide) ?_
        refine xe_isub dX10_go_39 ?_
        refine q_wk (ls := [some (q_O 10 0), none, some (q_I x2), some (q_O 9 i_7), none]) ⟨rfl, ⟨rfl, ⟨rfl, trivial⟩⟩⟩ ?_
        exact el_X10_go_40 hS _ _ _ _ Wq
      · replace Wq := Wq.2 c_24
        refine xe_aload_n dX10_go_27 rfl q_rvO ?_
        refine xe_geti dX10_go_28 fX10_131 (fun _ _ => rfl) ?_
        refine xe_goto 40 dX10_go_31 (by decide) ?_
        refine q_wk (ls := [some (q_O 10 0), none, some (q_I x2), some (q_O 9 i_7), none]) ⟨rfl, ⟨rfl, ⟨rfl, trivial⟩⟩⟩ ?_
        exact el_X10_go_40 hS _ _ _ _ Wq
    · replace Wq := Wq.2 c_17
      refine xe_bipush (-2) dX10_go_20 (by decide) ?_
      exact xe_iret .int dX10_go_22 rfl rfl ⟨_, _, rfl, rfl, Wq⟩
def wl_X10_passHour_23 (t p : Nat) (post : qa → Prop) : Nat → Int32 → qa → Prop
  | 0 => fun _ _ => False
  | n + 1 => fun x2 a => ((4 ≤ x2 → post (qs a 10 0 12 ((a 10 0 12) + 1))) ∧ (¬ 4 ≤ x2 → vp_in x2 4 ∧ (((if x2.toNatClampNeg < t then some x2.toNatClampNeg else none) = none → (wl_X10_passHour_23 t p post n) (x2 + 1) a) ∧ (∀ i_34, (if x2.toNatClampNeg < t then some x2.toNatClampNeg else none) = some i_34 → vp_in x2 4 ∧ vp_in x2 4 ∧ wp_X6_climbsOf t p (a 9 i_34 2) a (fun r60 a60 => wp_X9_goThrough t p i_34 (a 10 0 12) r60 a60 (fun a63 => (wl_X10_passHour_23 t p post n) (x2 + 1) a63))))))
def wp_X10_passHour (t p : Nat) (a : qa) (post : qa → Prop) : Prop := wp_X6_shutLegs t p (a 10 0 12) a (fun r8 a8 => ((r8 = 0 → ∃ n_23, wl_X10_passHour_23 t p post n_23 0 a8) ∧ (¬ r8 = 0 → wp_X10_holdPacks t p r8 a8 (fun a18 => ∃ n_23, wl_X10_passHour_23 t p post n_23 0 a18))))
set_option maxHeartbeats 4000000 in
theorem el_X10_passHour_23 {g : q_G} {s : q_S} {t p : Nat} (hS : q_Sh t p s) {post : qa → Prop} : ∀ (n : Nat) (x2 : Int32) (a : qa), wl_X10_passHour_23 t p post n x2 a → q_E g mX10_passHour (q_Rm 4 0 0) (q_kV s post) (0, 0) 23 [some (q_O 10 0), none, some (q_I x2)] [] (a, s) := by
  intro n
  induction n with
  | zero =>
    intro x2 a Wq
    exact absurd Wq id
  | succ n ih =>
    intro x2 a Wq
    unfold wl_X10_passHour_23 at Wq
    refine xe_iload_n dX10_passHour_23 rfl ?_
    refine xe_iconst 4 dX10_passHour_24 (by decide) ?_
    refine xe_ic_ge 72 dX10_passHour_25 (by decide) (fun c_25 => ?_) (fun c_25 => ?_)
    · replace Wq := Wq.1 c_25
      refine xe_aload_n dX10_passHour_72 rfl q_rvO ?_
      refine xe_dup dX10_passHour_73 rfl ?_
      refine xe_geti dX10_passHour_74 fX10_77 (fun _ _ => rfl) ?_
      refine xe_iconst 1 dX10_passHour_77 (by decide) ?_
      refine xe_iadd dX10_passHour_78 ?_
      refine xf_puti dX10_passHour_79 fX10_77 (fun q hq => Or.inl (by cases hq; rfl)) ⟨rfl, rfl⟩ (fun _ _ => rfl) ?_
      exact xe_vret dX10_passHour_82 rfl ⟨_, rfl, rfl, Wq⟩
    · replace Wq := Wq.2 c_25
      refine xe_aload_n dX10_passHour_28 rfl q_rvO ?_
      refine xe_getr dX10_passHour_29 fX10_18 (fun _ _ => rfl) (q_sg hS rfl) ?_
      refine xe_iload_n dX10_passHour_32 rfl ?_
      obtain ⟨hj_33, Wq⟩ := Wq
      refine xe_aald dX10_passHour_33 rfl hj_33 (q_sQ37 hS _) ?_
      cases e_34 : if x2.toNatClampNeg < t then some x2.toNatClampNeg else none with
      | none =>
        replace Wq := Wq.1 e_34
        try rw [e_34]
        refine xe_ifnullN 66 dX10_passHour_34 (by decide) ?_
        refine xe_iinc (_ + 1) dX10_passHour_66 (by decide) rfl rfl ?_
        refine xe_goto 23 dX10_passHour_69 (by decide) ?_
        refine q_wk (ls := [some (q_O 10 0), none, some (q_I (x2 + 1))]) ⟨rfl, ⟨rfl, trivial⟩⟩ ?_
        exact ih _ _ Wq
      | some i_34 =>
        replace Wq := Wq.2 i_34 e_34
        try rw [e_34]
        refine xe_ifnullO dX10_passHour_34 ?_
        refine xe_aload_n dX10_passHour_37 rfl q_rvO ?_
        refine xe_getr dX10_passHour_38 fX10_18 (fun _ _ => rfl) (q_sg hS rfl) ?_
        refine xe_iload_n dX10_passHour_41 rfl ?_
        obtain ⟨hj_42, Wq⟩ := Wq
        refine xe_aald dX10_passHour_42 rfl hj_42 (q_sQ37 hS _) ?_
        rw [e_34]
        refine xe_aload_n dX10_passHour_43 rfl q_rvO ?_
        refine xe_geti dX10_passHour_44 fX10_77 (fun _ _ => rfl) ?_
        refine xe_aload_n dX10_passHour_47 rfl q_rvO ?_
        refine xe_getr dX10_passHour_48 fX10_10 (fun _ _ => rfl) (q_sg hS rfl) ?_
        refine xe_aload_n dX10_passHour_51 rfl q_rvO ?_
        refine xe_getr dX10_passHour_52 fX10_18 (fun _ _ => rfl) (q_sg hS rfl) ?_
        refine xe_iload_n dX10_passHour_55 rfl ?_
        obtain ⟨hj_56, Wq⟩ := Wq
        refine xe_aald dX10_passHour_56 rfl hj_56 (q_sQ37 hS _) ?_
        rw [e_34]
        refine xe_geti dX10_passHour_57 fX10_238 (fun _ _ => rfl) ?_
        refine xe_cv (y' := mX6_climbsOf) dX10_passHour_60 (Or.inl lX10_297) tX6_climbsOf rfl rfl (ct_X6_climbsOf hS Wq) rfl rfl (Nat.le_of_ble_eq_true rfl) ⟨Nat.le_of_ble_eq_true rfl, Nat.le_of_ble_eq_true rfl⟩ ⟨Nat.le_of_ble_eq_true rfl, Nat.le_of_ble_eq_true rfl⟩ (fun v1 h1 hl1 hk1 hm1 => ?_)
        obtain ⟨r60, a60, rfl, rfl, Wq⟩ := hk1
        refine xe_cv (y' := mX9_goThrough) dX10_passHour_63 (Or.inl lX10_300) tX9_goThrough rfl rfl (ct_X9_goThrough hS Wq) rfl rfl (Nat.le_of_ble_eq_true rfl) ⟨Nat.le_of_ble_eq_true rfl, Nat.le_of_ble_eq_true rfl⟩ ⟨Nat.le_of_ble_eq_true rfl, Nat.le_of_ble_eq_true rfl⟩ (fun v1 h1 hl1 hk1 hm1 => ?_)
        obtain ⟨a63, rfl, rfl, Wq⟩ := hk1
        refine xe_iinc (_ + 1) dX10_passHour_66 (by decide) rfl rfl ?_
        refine xe_goto 23 dX10_passHour_69 (by decide) ?_
        refine q_wk (ls := [some (q_O 10 0), none, some (q_I (x2 + 1))]) ⟨rfl, ⟨rfl, trivial⟩⟩ ?_
        exact ih _ _ Wq
set_option maxHeartbeats 4000000 in
theorem ct_X10_passHour {g : q_G} {s : q_S} {t p : Nat} (hS : q_Sh t p s) {a : qa} {post : qa → Prop} (Wq : wp_X10_passHour t p  a post) : q_Ct g mX10_passHour (q_Rm 4 0 0) [q_O 10 0] (a, s) (q_kV s post) := by
  refine q_mk rfl rfl (Nat.le_of_ble_eq_true rfl) (q_cs rfl q_nil) (fun hv => ?_)
  unfold wp_X10_passHour at Wq
  refine xe_aload_n dX10_passHour_0 rfl q_rvO ?_
  refine xe_getr dX10_passHour_1 fX10_10 (fun _ _ => rfl) (q_sg hS rfl) ?_
  refine xe_aload_n dX10_passHour_4 rfl q_rvO ?_
  refine xe_geti dX10_passHour_5 fX10_77 (fun _ _ => rfl) ?_
  refine xe_cv (y' := mX6_shutLegs) dX10_passHour_8 (Or.inl lX10_291) tX6_shutLegs rfl rfl (ct_X6_shutLegs hS Wq) rfl rfl (Nat.le_of_ble_eq_true rfl) ⟨Nat.le_of_ble_eq_true rfl, Nat.le_of_ble_eq_true rfl⟩ ⟨Nat.le_of_ble_eq_true rfl, Nat.le_of_ble_eq_true rfl⟩ (fun v1 h1 hl1 hk1 hm1 => ?_)
  obtain ⟨r8, a8, rfl, rfl, Wq⟩ := hk1
  refine xe_istore_n dX10_passHour_11 (by decide) ?_
  refine xe_iload_n dX10_passHour_12 rfl ?_
  refine xe_if_eq 21 dX10_passHour_13 (by decide) (fun c_13 => ?_) (fun c_13 => ?_)
  · replace Wq := Wq.1 c_13
    refine xe_iconst 0 dX10_passHour_21 (by decide) ?_
    refine xe_istore_n dX10_passHour_22 (by decide) ?_
    obtain ⟨n_23, Wq⟩ := Wq
    refine q_wk (ls := [some (q_O 10 0), none, some (q_I 0)]) ⟨rfl, ⟨rfl, trivial⟩⟩ ?_
    exact el_X10_passHour_23 hS n_23 _ _ Wq
  · replace Wq := Wq.2 c_13
    refine xe_aload_n dX10_passHour_16 rfl q_rvO ?_
    refine xe_iload_n dX10_passHour_17 rfl ?_
    refine xe_cv (y' := mX10_holdPacks) dX10_passHour_18 (Or.inl lX10_294) tX10_holdPacks rfl rfl (ct_X10_holdPacks hS Wq) rfl rfl (Nat.le_of_ble_eq_true rfl) ⟨Nat.le_of_ble_eq_true rfl, Nat.le_of_ble_eq_true rfl⟩ ⟨Nat.le_of_ble_eq_true rfl, Nat.le_of_ble_eq_true rfl⟩ (fun v1 h1 hl1 hk1 hm1 => ?_)
    obtain ⟨a18, rfl, rfl, Wq⟩ := hk1
    refine xe_iconst 0 dX10_passHour_21 (by decide) ?_
    refine xe_istore_n dX10_passHour_22 (by decide) ?_
    obtain ⟨n_23, Wq⟩ := Wq
    refine q_wk (ls := [some (q_O 10 0), none, some (q_I 0)]) ⟨rfl, ⟨rfl, trivial⟩⟩ ?_
    exact el_X10_passHour_23 hS n_23 _ _ Wq
def wp_X10_payFor (t p : Nat) (o1 : Nat) (a : qa) (post : Int32 → qa → Prop) : Prop := wp_X10_bargainIn t p (a 4 o1 3) a (fun r5 a5 => ((¬ r5 = (-1) → vp_in r5 10 ∧ wp_X0_payFor t p r5.toNatClampNeg o1 ((a5 10 0 12) - (a5 4 o1 3)) a5 (fun r34 a34 => post r34 a34)) ∧ (r5 = (-1) → post 0 a5)))
set_option maxHeartbeats 4000000 in
theorem ct_X10_payFor {g : q_G} {s : q_S} {t p : Nat} (hS : q_Sh t p s) {o1 : Nat} {a : qa} {post : Int32 → qa → Prop} (Wq : wp_X10_payFor t p o1 a post) : q_Ct g mX10_payFor (q_Rm 4 0 0) [q_O 10 0, q_O 4 o1] (a, s) (q_kI s post) := by
  refine q_mk rfl rfl (Nat.le_of_ble_eq_true rfl) (q_cs rfl (q_cs rfl q_nil)) (fun hv => ?_)
  unfold wp_X10_payFor at Wq
  refine xe_aload_n dX10_payFor_0 rfl q_rvO ?_
  refine xe_aload_n dX10_payFor_1 rfl q_rvO ?_
  refine xe_geti dX10_payFor_2 fX10_256 (fun _ _ => rfl) ?_
  refine xe_cv (y' := mX10_bargainIn) dX10_payFor_5 (Or.inl lX10_262) tX10_bargainIn rfl rfl (ct_X10_bargainIn hS Wq) rfl rfl (Nat.le_of_ble_eq_true rfl) ⟨Nat.le_of_ble_eq_true rfl, Nat.le_of_ble_eq_true rfl⟩ ⟨Nat.le_of_ble_eq_true rfl, Nat.le_of_ble_eq_true rfl⟩ (fun v1 h1 hl1 hk1 hm1 => ?_)
  obtain ⟨r5, a5, rfl, rfl, Wq⟩ := hk1
  refine xe_istore_n dX10_payFor_8 (by decide) ?_
  refine xe_iload_n dX10_payFor_9 rfl ?_
  refine xe_iconst (-1) dX10_payFor_10 (by decide) ?_
  refine xe_ic_ne 18 dX10_payFor_11 (by decide) (fun c_11 => ?_) (fun c_11 => ?_)
  · replace Wq := Wq.1 c_11
    refine xe_aload_n dX10_payFor_18 rfl q_rvO ?_
    refine xe_getr dX10_payFor_19 fX10_30 (fun _ _ => rfl) (q_sg hS rfl) ?_
    refine xe_iload_n dX10_payFor_22 rfl ?_
    obtain ⟨hj_23, Wq⟩ := Wq
    refine xe_aald dX10_payFor_23 rfl hj_23 (q_sA hS (q_ltI hj_23)) ?_
    refine xe_aload_n dX10_payFor_24 rfl q_rvO ?_
    refine xe_aload_n dX10_payFor_25 rfl q_rvO ?_
    refine xe_geti dX10_payFor_26 fX10_77 (fun _ _ => rfl) ?_
    refine xe_aload_n dX10_payFor_29 rfl q_rvO ?_
    refine xe_geti dX10_payFor_30 fX10_256 (fun _ _ => rfl) ?_
    refine xe_isub dX10_payFor_33 ?_
    refine xe_cv (y' := mX0_payFor) dX10_payFor_34 (Or.inl lX10_317) tX0_payFor rfl rfl (ct_X0_payFor hS Wq) rfl rfl (Nat.le_of_ble_eq_true rfl) ⟨Nat.le_of_ble_eq_true rfl, Nat.le_of_ble_eq_true rfl⟩ ⟨Nat.le_of_ble_eq_true rfl, Nat.le_of_ble_eq_true rfl⟩ (fun v1 h1 hl1 hk1 hm1 => ?_)
    obtain ⟨r34, a34, rfl, rfl, Wq⟩ := hk1
    exact xe_iret .int dX10_payFor_37 rfl rfl ⟨_, _, rfl, rfl, Wq⟩
  · replace Wq := Wq.2 c_11
    refine xe_iconst 0 dX10_payFor_14 (by decide) ?_
    refine xe_goto 37 dX10_payFor_15 (by decide) ?_
    exact xe_iret .int dX10_payFor_37 rfl rfl ⟨_, _, rfl, rfl, Wq⟩
def wl_X10_down_75 (t p : Nat) (post : Int32 → qa → Prop) : Int32 → Nat → Nat → qa → Prop := fun x1 o2 o3 a => wp_X4_putAt t p o2 ((qs a 9 o3 5 ((a 9 o3 5) - 1)) 9 o3 1) (qs a 9 o3 5 ((a 9 o3 5) - 1)) (fun a90 => wp_X2_add t p x1 (a90 10 0 12) (a90 9 o3 1) a90 (fun a106 => (((a106 9 o3 1) = (a106 4 o2 2) → wp_X10_payFor t p o2 a106 (fun r125 a125 => wp_X4_deliver t p o2 r125 a125 (fun a128 => post 1 a128))) ∧ (¬ (a106 9 o3 1) = (a106 4 o2 2) → post 0 a106))))
def wp_X10_down (t p : Nat) (x1 : Int32) (a : qa) (post : Int32 → qa → Prop) : Prop := wp_X10_packAt t p x1 a (fun r2 a2 => ((r2 = none → post (-1) a2) ∧ (∀ i_7, r2 = some i_7 → (((a2 4 i_7 4) = 1 → wp_X10_trainAt t p (a2 4 i_7 5) a2 (fun r28 a28 => ((r28 = none → post (-3) a28) ∧ (∀ i_33, r28 = some i_33 → ((¬ (a28 9 i_33 1) = (-1) → wp_X9_muleAt t p i_33 (a28 4 i_7 6) a28 (fun r52 a52 => ((r52 = none → wl_X10_down_75 t p post x1 i_7 i_33 a52) ∧ (∀ i_59, r52 = some i_59 → wp_X3_unload t p i_59 (a52 4 i_7 7) (a52 4 i_7 1) a52 (fun a72 => wl_X10_down_75 t p post x1 i_7 i_33 a72))))) ∧ ((a28 9 i_33 1) = (-1) → post (-3) a28)))))) ∧ (¬ (a2 4 i_7 4) = 1 → post (-2) a2)))))
set_option maxHeartbeats 4000000 in
theorem el_X10_down_75 {g : q_G} {s : q_S} {t p : Nat} (hS : q_Sh t p s) {post : Int32 → qa → Prop} : ∀ (x1 : Int32) (o2 : Nat) (o3 : Nat) (a : qa), wl_X10_down_75 t p post x1 o2 o3 a → q_E g mX10_down (q_Rm 5 0 0) (q_kI s post) (0, 0) 75 [some (q_O 10 0), some (q_I x1), some (q_O 4 o2), some (q_O 9 o3), none] [] (a, s) := by
  intro x1 o2 o3 a Wq
  unfold wl_X10_down_75 at Wq
  refine xe_aload_n dX10_down_75 rfl q_rvO ?_
  refine xe_dup dX10_down_76 rfl ?_
  refine xe_geti dX10_down_77 fX10_162 (fun _ _ => rfl) ?_
  refine xe_iconst 1 dX10_down_80 (by decide) ?_
  refine xe_isub dX10_down_81 ?_
  refine xf_puti dX10_down_82 fX10_162 (fun q hq => Or.inl (by cases hq; rfl)) ⟨rfl, rfl⟩ (fun _ _ => rfl) ?_
  refine xe_aload_n dX10_down_85 rfl q_rvO ?_
  refine xe_aload_n dX10_down_86 rfl q_rvO ?_
  refine xe_geti dX10_down_87 fX10_131 (fun _ _ => rfl) ?_
  refine xe_cv (y' := mX4_putAt) dX10_down_90 (Or.inl lX10_177) tX4_putAt rfl rfl (ct_X4_putAt hS Wq) rfl rfl (Nat.le_of_ble_eq_true rfl) ⟨Nat.le_of_ble_eq_true rfl, Nat.le_of_ble_eq_true rfl⟩ ⟨Nat.le_of_ble_eq_true rfl, Nat.le_of_ble_eq_true rfl⟩ (fun v1 h1 hl1 hk1 hm1 => ?_)
  obtain ⟨a90, rfl, rfl, Wq⟩ := hk1
  refine xe_aload_n dX10_down_93 rfl q_rvO ?_
  refine xe_getr dX10_down_94 fX10_37 (fun _ _ => rfl) (q_sg hS rfl) ?_
  refine xe_iload_n dX10_down_97 rfl ?_
  refine xe_aload_n dX10_down_98 rfl q_rvO ?_
  refine xe_geti dX10_down_99 fX10_77 (fun _ _ => rfl) ?_
  refine xe_aload_n dX10_down_102 rfl q_rvO ?_
  refine xe_geti dX10_down_103 fX10_131 (fun _ _ => rfl) ?_
  refine xe_cv (y' := mX2_add) dX10_down_106 (Or.inl lX10_112) tX2_add rfl rfl (ct_X2_add hS Wq) rfl rfl (Nat.le_of_ble_eq_true rfl) ⟨Nat.le_of_ble_eq_true rfl, Nat.le_of_ble_eq_true rfl⟩ ⟨Nat.le_of_ble_eq_true rfl, Nat.le_of_ble_eq_true rfl⟩ (fun v1 h1 hl1 hk1 hm1 => ?_)
  obtain ⟨a106, rfl, rfl, Wq⟩ := hk1
  refine xe_aload_n dX10_down_109 rfl q_rvO ?_
  refine xe_geti dX10_down_110 fX10_131 (fun _ _ => rfl) ?_
  refine xe_aload_n dX10_down_113 rfl q_rvO ?_
  refine xe_geti dX10_down_114 fX10_181 (fun _ _ => rfl) ?_
  refine xe_ic_eq 122 dX10_down_117 (by decide) (fun c_117 => ?_) (fun c_117 => ?_)
  · replace Wq := Wq.1 c_117
    refine xe_aload_n dX10_down_122 rfl q_rvO ?_
    refine xe_aload_n dX10_down_123 rfl q_rvO ?_
    refine xe_aload_n dX10_down_124 rfl q_rvO ?_
    refine xe_cv (y' := mX10_payFor) dX10_down_125 (Or.inl lX10_184) tX10_payFor rfl rfl (ct_X10_payFor hS Wq) rfl rfl (Nat.le_of_ble_eq_true rfl) ⟨Nat.le_of_ble_eq_true rfl, Nat.le_of_ble_eq_true rfl⟩ ⟨Nat.le_of_ble_eq_true rfl, Nat.le_of_ble_eq_true rfl⟩ (fun v1 h1 hl1 hk1 hm1 => ?_)
    obtain ⟨r125, a125, rfl, rfl, Wq⟩ := hk1
    refine xe_cv (y' := mX4_deliver) dX10_down_128 (Or.inl lX10_188) tX4_deliver rfl rfl (ct_X4_deliver hS Wq) rfl rfl (Nat.le_of_ble_eq_true rfl) ⟨Nat.le_of_ble_eq_true rfl, Nat.le_of_ble_eq_true rfl⟩ ⟨Nat.le_of_ble_eq_true rfl, Nat.le_of_ble_eq_true rfl⟩ (fun v1 h1 hl1 hk1 hm1 => ?_)
    obtain ⟨a128, rfl, rfl, Wq⟩ := hk1
    refine xe_iconst 1 dX10_down_131 (by decide) ?_
    exact xe_iret .int dX10_down_132 rfl rfl ⟨_, _, rfl, rfl, Wq⟩
  · replace Wq := Wq.2 c_117
    refine xe_iconst 0 dX10_down_120 (by decide) ?_
    exact xe_iret .int dX10_down_121 rfl rfl ⟨_, _, rfl, rfl, Wq⟩
set_option maxHeartbeats 4000000 in
theorem ct_X10_down {g : q_G} {s : q_S} {t p : Nat} (hS : q_Sh t p s) {x1 : Int32} {a : qa} {post : Int32 → qa → Prop} (Wq : wp_X10_down t p x1 a post) : q_Ct g mX10_down (q_Rm 5 0 0) [q_O 10 0, q_I x1] (a, s) (q_kI s post) := by
  refine q_mk rfl rfl (Nat.le_of_ble_eq_true rfl) (q_cs rfl (q_cs rfl q_nil)) (fun hv => ?_)
  unfold wp_X10_down at Wq
  refine xe_aload_n dX10_down_0 rfl q_rvO ?_
  refine xe_iload_n dX10_down_1 rfl ?_
  refine xe_cv (y' := mX10_packAt) dX10_down_2 (Or.inl lX10_120) tX10_packAt rfl rfl (ct_X10_packAt hS Wq) rfl rfl (Nat.le_of_ble_eq_true rfl) ⟨Nat.le_of_ble_eq_true rfl, Nat.le_of_ble_eq_true rfl⟩ ⟨Nat.le_of_ble_eq_true rfl, Nat.le_of_ble_eq_true rfl⟩ (fun v1 h1 hl1 hk1 hm1 => ?_)
  obtain ⟨r2, a2, rfl, rfl, Wq⟩ := hk1
  refine xe_astore_n dX10_down_5 (by decide) q_rvR ?_
  refine xe_aload_n dX10_down_6 rfl q_rvR ?_
  cases e_7 : r2 with
  | none =>
    replace Wq := Wq.1 e_7
    try rw [e_7]
    refine xe_ifnonnullN dX10_down_7 ?_
    refine xe_iconst (-1) dX10_down_10 (by decide) ?_
    exact xe_iret .int dX10_down_11 rfl rfl ⟨_, _, rfl, rfl, Wq⟩
  | some i_7 =>
    replace Wq := Wq.2 i_7 e_7
    try rw [e_7]
    refine xe_ifnonnullO 12 dX10_down_7 (by decide) ?_
    refine xe_aload_n dX10_down_12 rfl q_rvO ?_
    refine xe_geti dX10_down_13 fX10_128 (fun _ _ => rfl) ?_
    refine xe_iconst 1 dX10_down_16 (by decide) ?_
    refine xe_ic_eq 23 dX10_down_17 (by decide) (fun c_17 => ?_) (fun c_17 => ?_)
    · replace Wq := Wq.1 c_17
      refine xe_aload_n dX10_down_23 rfl q_rvO ?_
      refine xe_aload_n dX10_down_24 rfl q_rvO ?_
      refine xe_geti dX10_down_25 fX10_134 (fun _ _ => rfl) ?_
      refine xe_cv (y' := mX10_trainAt) dX10_down_28 (Or.inl lX10_116) tX10_trainAt rfl rfl (ct_X10_trainAt hS Wq) rfl rfl (Nat.le_of_ble_eq_true rfl) ⟨Nat.le_of_ble_eq_true rfl, Nat.le_of_ble_eq_true rfl⟩ ⟨Nat.le_of_ble_eq_true rfl, Nat.le_of_ble_eq_true rfl⟩ (fun v1 h1 hl1 hk1 hm1 => ?_)
      obtain ⟨r28, a28, rfl, rfl, Wq⟩ := hk1
      refine xe_astore_n dX10_down_31 (by decide) q_rvR ?_
      refine xe_aload_n dX10_down_32 rfl q_rvR ?_
      cases e_33 : r28 with
      | none =>
        replace Wq := Wq.1 e_33
        try rw [e_33]
        refine xe_ifnullN 44 dX10_down_33 (by decide) ?_
        refine xe_bipush (-3) dX10_down_44 (by decide) ?_
        exact xe_iret .int dX10_down_46 rfl rfl ⟨_, _, rfl, rfl, Wq⟩
      | some i_33 =>
        replace Wq := Wq.2 i_33 e_33
        try rw [e_33]
        refine xe_ifnullO dX10_down_33 ?_
        refine xe_aload_n dX10_down_36 rfl q_rvO ?_
        refine xe_geti dX10_down_37 fX10_131 (fun _ _ => rfl) ?_
        refine xe_iconst (-1) dX10_down_40 (by decide) ?_
        refine xe_ic_ne 47 dX10_down_41 (by decide) (fun c_41 => ?_) (fun c_41 => ?_)
        · replace Wq := Wq.1 c_41
          refine xe_aload_n dX10_down_47 rfl q_rvO ?_
          refine xe_aload_n dX10_down_48 rfl q_rvO ?_
          refine xe_geti dX10_down_49 fX10_167 (fun _ _ => rfl) ?_
          refine xe_cv (y' := mX9_muleAt) dX10_down_52 (Or.inl lX10_124) tX9_muleAt rfl rfl (ct_X9_muleAt hS Wq) rfl rfl (Nat.le_of_ble_eq_true rfl) ⟨Nat.le_of_ble_eq_true rfl, Nat.le_of_ble_eq_true rfl⟩ ⟨Nat.le_of_ble_eq_true rfl, Nat.le_of_ble_eq_true rfl⟩ (fun v1 h1 hl1 hk1 hm1 => ?_)
          obtain ⟨r52, a52, rfl, rfl, Wq⟩ := hk1
          refine xe_astore dX10_down_55 (by decide) q_rvR ?_
          refine xe_aload dX10_down_57 rfl q_rvR ?_
          cases e_59 : r52 with
          | none =>
            replace Wq := Wq.1 e_59
            try rw [e_59]
            refine xe_ifnullN 75 dX10_down_59 (by decide) ?_
            refine q_wk (ls := [some (q_O 10 0), some (q_I x1), some (q_O 4 i_7), some (q_O 9 i_33), none]) ⟨rfl, ⟨rfl, ⟨rfl, ⟨rfl, trivial⟩⟩⟩⟩ ?_
            exact el_X10_down_75 hS _ _ _ _ Wq
          | some i_59 =>
            replace Wq := Wq.2 i_59 e_59
            try rw [e_59]
            refine xe_ifnullO dX10_down_59 ?_
            refine xe_aload dX10_down_62 rfl q_rvO ?_
            refine xe_aload_n dX10_down_64 rfl q_rvO ?_
            refine xe_geti dX10_down_65 fX10_170 (fun _ _ => rfl) ?_
            refine xe_aload_n dX10_down_68 rfl q_rvO ?_
            refine xe_geti dX10_down_69 fX10_147 (fun _ _ => rfl) ?_
            refine xe_cv (y' := mX3_unload) dX10_down_72 (Or.inl lX10_173) tX3_unload rfl rfl (ct_X3_unload hS Wq) rfl rfl (Nat.le_of_ble_eq_true rfl) ⟨Nat.le_of_ble_eq_true rfl, Nat.le_of_ble_eq_true rfl⟩ ⟨Nat.le_of_ble_eq_true rfl, Nat.le_of_ble_eq_true rfl⟩ (fun v1 h1 hl1 hk1 hm1 => ?_)
            obtain ⟨a72, rfl, rfl, Wq⟩ := hk1
            refine q_wk (ls := [some (q_O 10 0), some (q_I x1), some (q_O 4 i_7), some (q_O 9 i_33), none]) ⟨rfl, ⟨rfl, ⟨rfl, ⟨rfl, trivial⟩⟩⟩⟩ ?_
            exact el_X10_down_75 hS _ _ _ _ Wq
        · replace Wq := Wq.2 c_41
          refine xe_bipush (-3) dX10_down_44 (by decide) ?_
          exact xe_iret .int dX10_down_46 rfl rfl ⟨_, _, rfl, rfl, Wq⟩
    · replace Wq := Wq.2 c_17
      refine xe_bipush (-2) dX10_down_20 (by decide) ?_
      exact xe_iret .int dX10_down_22 rfl rfl ⟨_, _, rfl, rfl, Wq⟩
def wl_X10_hours_27 (t p : Nat) (post : Int32 → qa → Prop) : Nat → Int32 → Int32 → qa → Prop
  | 0 => fun _ _ _ => False
  | n + 1 => fun x1 x2 a => ((x1 ≤ x2 → post (a 10 0 12) a) ∧ (¬ x1 ≤ x2 → wp_X10_passHour t p  a (fun a33 => (wl_X10_hours_27 t p post n) x1 (x2 + 1) a33)))
def wp_X10_hours (t p : Nat) (x1 : Int32) (a : qa) (post : Int32 → qa → Prop) : Prop := ((x1 < 1 → post (-1) a) ∧ (¬ x1 < 1 → ((100 < x1 → post (-1) a) ∧ (¬ 100 < x1 → ((((a 10 0 12) + x1) ≤ 9999 → ∃ n_27, wl_X10_hours_27 t p post n_27 x1 0 a) ∧ (¬ ((a 10 0 12) + x1) ≤ 9999 → post (-1) a))))))
set_option maxHeartbeats 4000000 in
theorem el_X10_hours_27 {g : q_G} {s : q_S} {t p : Nat} (hS : q_Sh t p s) {post : Int32 → qa → Prop} : ∀ (n : Nat) (x1 : Int32) (x2 : Int32) (a : qa), wl_X10_hours_27 t p post n x1 x2 a → q_E g mX10_hours (q_Rm 5 0 0) (q_kI s post) (0, 0) 27 [some (q_O 10 0), some (q_I x1), some (q_I x2)] [] (a, s) := by
  intro n
  induction n with
  | zero =>
    intro x1 x2 a Wq
    exact absurd Wq id
  | succ n ih =>
    intro x1 x2 a Wq
    unfold wl_X10_hours_27 at Wq
    refine xe_iload_n dX10_hours_27 rfl ?_
    refine xe_iload_n dX10_hours_28 rfl ?_
    refine xe_ic_ge 42 dX10_hours_29 (by decide) (fun c_29 => ?_) (fun c_29 => ?_)
    · replace Wq := Wq.1 c_29
      refine xe_aload_n dX10_hours_42 rfl q_rvO ?_
      refine xe_geti dX10_hours_43 fX10_77 (fun _ _ => rfl) ?_
      exact xe_iret .int dX10_hours_46 rfl rfl ⟨_, _, rfl, rfl, Wq⟩
    · replace Wq := Wq.2 c_29
      refine xe_aload_n dX10_hours_32 rfl q_rvO ?_
      refine xe_cv (y' := mX10_passHour) dX10_hours_33 (Or.inl lX10_212) tX10_passHour rfl rfl (ct_X10_passHour hS Wq) rfl rfl (Nat.le_of_ble_eq_true rfl) ⟨Nat.le_of_ble_eq_true rfl, Nat.le_of_ble_eq_true rfl⟩ ⟨Nat.le_of_ble_eq_true rfl, Nat.le_of_ble_eq_true rfl⟩ (fun v1 h1 hl1 hk1 hm1 => ?_)
      obtain ⟨a33, rfl, rfl, Wq⟩ := hk1
      refine xe_iinc (_ + 1) dX10_hours_36 (by decide) rfl rfl ?_
      refine xe_goto 27 dX10_hours_39 (by decide) ?_
      refine q_wk (ls := [some (q_O 10 0), some (q_I x1), some (q_I (x2 + 1))]) ⟨rfl, ⟨rfl, ⟨rfl, trivial⟩⟩⟩ ?_
      exact ih _ _ _ Wq
set_option maxHeartbeats 4000000 in
theorem ct_X10_hours {g : q_G} {s : q_S} {t p : Nat} (hS : q_Sh t p s) {x1 : Int32} {a : qa} {post : Int32 → qa → Prop} (Wq : wp_X10_hours t p x1 a post) : q_Ct g mX10_hours (q_Rm 5 0 0) [q_O 10 0, q_I x1] (a, s) (q_kI s post) := by
  refine q_mk rfl rfl (Nat.le_of_ble_eq_true rfl) (q_cs rfl (q_cs rfl q_nil)) (fun hv => ?_)
  unfold wp_X10_hours at Wq
  refine xe_iload_n dX10_hours_0 rfl ?_
  refine xe_iconst 1 dX10_hours_1 (by decide) ?_
  refine xe_ic_lt 23 dX10_hours_2 (by decide) (fun c_2 => ?_) (fun c_2 => ?_)
  · replace Wq := Wq.1 c_2
    refine xe_iconst (-1) dX10_hours_23 (by decide) ?_
    exact xe_iret .int dX10_hours_24 rfl rfl ⟨_, _, rfl, rfl, Wq⟩
  · replace Wq := Wq.2 c_2
    refine xe_iload_n dX10_hours_5 rfl ?_
    refine xe_bipush 100 dX10_hours_6 (by decide) ?_
    refine xe_ic_gt 23 dX10_hours_8 (by decide) (fun c_8 => ?_) (fun c_8 => ?_)
    · replace Wq := Wq.1 c_8
      refine xe_iconst (-1) dX10_hours_23 (by decide) ?_
      exact xe_iret .int dX10_hours_24 rfl rfl ⟨_, _, rfl, rfl, Wq⟩
    · replace Wq := Wq.2 c_8
      refine xe_aload_n dX10_hours_11 rfl q_rvO ?_
      refine xe_geti dX10_hours_12 fX10_77 (fun _ _ => rfl) ?_
      refine xe_iload_n dX10_hours_15 rfl ?_
      refine xe_iadd dX10_hours_16 ?_
      refine xe_sipush 9999 dX10_hours_17 (by decide) ?_
      refine xe_ic_le 25 dX10_hours_20 (by decide) (fun c_20 => ?_) (fun c_20 => ?_)
      · replace Wq := Wq.1 c_20
        refine xe_iconst 0 dX10_hours_25 (by decide) ?_
        refine xe_istore_n dX10_hours_26 (by decide) ?_
        obtain ⟨n_27, Wq⟩ := Wq
        refine q_wk (ls := [some (q_O 10 0), some (q_I x1), some (q_I 0)]) ⟨rfl, ⟨rfl, ⟨rfl, trivial⟩⟩⟩ ?_
        exact el_X10_hours_27 hS n_27 _ _ _ Wq
      · replace Wq := Wq.2 c_20
        refine xe_iconst (-1) dX10_hours_23 (by decide) ?_
        exact xe_iret .int dX10_hours_24 rfl rfl ⟨_, _, rfl, rfl, Wq⟩
def wp_X10_bargain (t p : Nat) (a : qa) (post : Int32 → qa → Prop) : Prop := (((a 10 0 10) < 10 → vp_in (a 10 0 10) 10 ∧ wp_X5_readInto t p ((a 10 0 10).toNatClampNeg) a (fun r24 a24 => ((r24 = 0 → vp_in (a24 10 0 10) 10 ∧ post (((a24 10 0 10) + 1) - 1) (qs (qs (qs (qs a24 7 0 1 0) 10 0 11 (a24 5 0 5)) 0 ((a24 10 0 10).toNatClampNeg) 7 (a24 10 0 12)) 10 0 10 ((a24 10 0 10) + 1))) ∧ (¬ r24 = 0 → post ((-2) - r24) (qs (qs a24 7 0 1 0) 10 0 11 (a24 5 0 5)))))) ∧ (¬ (a 10 0 10) < 10 → post (-1) a))
set_option maxHeartbeats 4000000 in
theorem ct_X10_bargain {g : q_G} {s : q_S} {t p : Nat} (hS : q_Sh t p s) (hX : q_gX g) {a : qa} {post : Int32 → qa → Prop} (Wq : wp_X10_bargain t p  a post) : q_Ct g mX10_bargain (q_Rm 11 0 0) [q_O 10 0] (a, s) (q_kI s post) := by
  refine q_mk rfl rfl (Nat.le_of_ble_eq_true rfl) (q_cs rfl q_nil) (fun hv => ?_)
  unfold wp_X10_bargain at Wq
  refine xe_aload_n dX10_bargain_0 rfl q_rvO ?_
  refine xe_geti dX10_bargain_1 fX10_71 (fun _ _ => rfl) ?_
  refine xe_bipush 10 dX10_bargain_4 (by decide) ?_
  refine xe_ic_lt 11 dX10_bargain_6 (by decide) (fun c_6 => ?_) (fun c_6 => ?_)
  · replace Wq := Wq.1 c_6
    refine xe_aload_n dX10_bargain_11 rfl q_rvO ?_
    refine xe_getr dX10_bargain_12 fX10_53 (fun _ _ => rfl) (q_sg hS rfl) ?_
    refine xe_aload_n dX10_bargain_15 rfl q_rvO ?_
    refine xe_getr dX10_bargain_16 fX10_30 (fun _ _ => rfl) (q_sg hS rfl) ?_
    refine xe_aload_n dX10_bargain_19 rfl q_rvO ?_
    refine xe_geti dX10_bargain_20 fX10_71 (fun _ _ => rfl) ?_
    obtain ⟨hj_23, Wq⟩ := Wq
    refine xe_aald dX10_bargain_23 rfl hj_23 (q_sA hS (q_ltI hj_23)) ?_
    refine xe_cv (y' := mX5_readInto) dX10_bargain_24 (Or.inl lX10_230) tX5_readInto rfl rfl (ct_X5_readInto hS hX Wq) rfl rfl (Nat.le_of_ble_eq_true rfl) ⟨Nat.le_of_ble_eq_true rfl, Nat.le_of_ble_eq_true rfl⟩ ⟨Nat.le_of_ble_eq_true rfl, Nat.le_of_ble_eq_true rfl⟩ (fun v1 h1 hl1 hk1 hm1 => ?_)
    obtain ⟨r24, a24, rfl, rfl, Wq⟩ := hk1
    refine xe_istore_n dX10_bargain_27 (by decide) ?_
    refine xe_aload_n dX10_bargain_28 rfl q_rvO ?_
    refine xe_getr dX10_bargain_29 fX10_44 (fun _ _ => rfl) (q_sg hS rfl) ?_
    refine xe_iconst 0 dX10_bargain_32 (by decide) ?_
    refine xf_puti dX10_bargain_33 fX10_224 (fun q hq => Or.inl (by cases hq; rfl)) ⟨rfl, rfl⟩ (fun _ _ => rfl) ?_
    refine xe_aload_n dX10_bargain_36 rfl q_rvO ?_
    refine xe_aload_n dX10_bargain_37 rfl q_rvO ?_
    refine xe_getr dX10_bargain_38 fX10_53 (fun _ _ => rfl) (q_sg hS rfl) ?_
    refine xe_geti dX10_bargain_41 fX10_234 (fun _ _ => rfl) ?_
    refine xf_puti dX10_bargain_44 fX10_74 (fun q hq => Or.inl (by cases hq; rfl)) ⟨rfl, rfl⟩ (fun _ _ => rfl) ?_
    refine xe_iload_n dX10_bargain_47 rfl ?_
    refine xe_if_eq 56 dX10_bargain_48 (by decide) (fun c_48 => ?_) (fun c_48 => ?_)
    · replace Wq := Wq.1 c_48
      refine xe_aload_n dX10_bargain_56 rfl q_rvO ?_
      refine xe_getr dX10_bargain_57 fX10_30 (fun _ _ => rfl) (q_sg hS rfl) ?_
      refine xe_aload_n dX10_bargain_60 rfl q_rvO ?_
      refine xe_geti dX10_bargain_61 fX10_71 (fun _ _ => rfl) ?_
      obtain ⟨hj_64, Wq⟩ := Wq
      refine xe_aald dX10_bargain_64 rfl hj_64 (q_sA hS (q_ltI hj_64)) ?_
      refine xe_aload_n dX10_bargain_65 rfl q_rvO ?_
      refine xe_geti dX10_bargain_66 fX10_77 (fun _ _ => rfl) ?_
      refine xf_puti dX10_bargain_69 fX10_235 (fun q hq => Or.inl (by cases hq; rfl)) ⟨rfl, rfl⟩ (fun _ _ => rfl) ?_
      refine xe_aload_n dX10_bargain_72 rfl q_rvO ?_
      refine xe_dup dX10_bargain_73 rfl ?_
      refine xe_geti dX10_bargain_74 fX10_71 (fun _ _ => rfl) ?_
      refine xe_iconst 1 dX10_bargain_77 (by decide) ?_
      refine xe_iadd dX10_bargain_78 ?_
      refine xf_puti dX10_bargain_79 fX10_71 (fun q hq => Or.inl (by cases hq; rfl)) ⟨rfl, rfl⟩ (fun _ _ => rfl) ?_
      refine xe_aload_n dX10_bargain_82 rfl q_rvO ?_
      refine xe_geti dX10_bargain_83 fX10_71 (fun _ _ => rfl) ?_
      refine xe_iconst 1 dX10_bargain_86 (by decide) ?_
      refine xe_isub dX10_bargain_87 ?_
      exact xe_iret .int dX10_bargain_88 rfl rfl ⟨_, _, rfl, rfl, Wq⟩
    · replace Wq := Wq.2 c_48
      refine xe_bipush (-2) dX10_bargain_51 (by decide) ?_
      refine xe_iload_n dX10_bargain_53 rfl ?_
      refine xe_isub dX10_bargain_54 ?_
      exact xe_iret .int dX10_bargain_55 rfl rfl ⟨_, _, rfl, rfl, Wq⟩
  · replace Wq := Wq.2 c_6
    refine xe_iconst (-1) dX10_bargain_9 (by decide) ?_
    exact xe_iret .int dX10_bargain_10 rfl rfl ⟨_, _, rfl, rfl, Wq⟩
def wl_X10_findBest_44 (t p : Nat) (post : Int32 → qa → Prop) : Nat → Nat → Nat → Int32 → qa → Prop
  | 0 => fun _ _ _ _ => False
  | n + 1 => fun o3 o4 x5 a => (((a 10 0 9) ≤ x5 → wp_X1_findFor t p (a 3 o4 0) a (fun a124 => post 1 a124)) ∧ (¬ (a 10 0 9) ≤ x5 → wp_X10_packAt t p x5 a (fun r56 a56 => ((r56 = none → (wl_X10_findBest_44 t p post n) o3 o4 (x5 + 1) a56) ∧ (∀ i_63, r56 = some i_63 → ((¬ (a56 4 i_63 4) = 0 → (wl_X10_findBest_44 t p post n) o3 o4 (x5 + 1) a56) ∧ ((a56 4 i_63 4) = 0 → ((¬ (a56 4 i_63 5) = (a56 9 o3 1) → (wl_X10_findBest_44 t p post n) o3 o4 (x5 + 1) a56) ∧ ((a56 4 i_63 5) = (a56 9 o3 1) → (((a56 4 i_63 0) = 3 → (wl_X10_findBest_44 t p post n) o3 o4 (x5 + 1) a56) ∧ (¬ (a56 4 i_63 0) = 3 → wp_X1_add t p x5 (a56 4 i_63 1) a56 (fun a106 => (wl_X10_findBest_44 t p post n) o3 o4 (x5 + 1) a106))))))))))))
def wp_X10_findBest (t p : Nat) (x1 : Int32) (x2 : Int32) (a : qa) (post : Int32 → qa → Prop) : Prop := wp_X10_trainAt t p x1 a (fun r2 a2 => ((r2 = none → post 0 a2) ∧ (∀ i_7, r2 = some i_7 → ((¬ (a2 9 i_7 1) = (-1) → wp_X9_muleAt t p i_7 x2 a2 (fun r22 a22 => ((r22 = none → post 0 a22) ∧ (∀ i_29, r22 = some i_29 → wp_X1_clear t p  a22 (fun a38 => ∃ n_44, wl_X10_findBest_44 t p post n_44 i_7 i_29 0 a38))))) ∧ ((a2 9 i_7 1) = (-1) → post 0 a2)))))
set_option maxHeartbeats 4000000 in
theorem el_X10_findBest_44 {g : q_G} {s : q_S} {t p : Nat} (hS : q_Sh t p s) {post : Int32 → qa → Prop} : ∀ (n : Nat) (o3 : Nat) (o4 : Nat) (x5 : Int32) (a : qa), wl_X10_findBest_44 t p post n o3 o4 x5 a → q_E g mX10_findBest (q_Rm 21 0 0) (q_kI s post) (0, 0) 44 [some (q_O 10 0), none, none, some (q_O 9 o3), some (q_O 3 o4), some (q_I x5), none] [] (a, s) := by
  intro n
  induction n with
  | zero =>
    intro o3 o4 x5 a Wq
    exact absurd Wq id
  | succ n ih =>
    intro o3 o4 x5 a Wq
    unfold wl_X10_findBest_44 at Wq
    refine xe_iload dX10_findBest_44 rfl ?_
    refine xe_aload_n dX10_findBest_46 rfl q_rvO ?_
    refine xe_geti dX10_findBest_47 fX10_68 (fun _ _ => rfl) ?_
    refine xe_ic_ge 115 dX10_findBest_50 (by decide) (fun c_50 => ?_) (fun c_50 => ?_)
    · replace Wq := Wq.1 c_50
      refine xe_aload_n dX10_findBest_115 rfl q_rvO ?_
      refine xe_getr dX10_findBest_116 fX10_60 (fun _ _ => rfl) (q_sg hS rfl) ?_
      refine xe_aload dX10_findBest_119 rfl q_rvO ?_
      refine xe_geti dX10_findBest_121 fX10_150 (fun _ _ => rfl) ?_
      refine xe_cv (y' := mX1_findFor) dX10_findBest_124 (Or.inl lX10_314) tX1_findFor rfl rfl (ct_X1_findFor hS Wq) rfl rfl (Nat.le_of_ble_eq_true rfl) ⟨Nat.le_of_ble_eq_true rfl, Nat.le_of_ble_eq_true rfl⟩ ⟨Nat.le_of_ble_eq_true rfl, Nat.le_of_ble_eq_true rfl⟩ (fun v1 h1 hl1 hk1 hm1 => ?_)
      obtain ⟨a124, rfl, rfl, Wq⟩ := hk1
      refine xe_iconst 1 dX10_findBest_127 (by decide) ?_
      exact xe_iret .boolean dX10_findBest_128 rfl (by decide) ⟨_, _, rfl, rfl, Wq⟩
    · replace Wq := Wq.2 c_50
      refine xe_aload_n dX10_findBest_53 rfl q_rvO ?_
      refine xe_iload dX10_findBest_54 rfl ?_
      refine xe_cv (y' := mX10_packAt) dX10_findBest_56 (Or.inl lX10_120) tX10_packAt rfl rfl (ct_X10_packAt hS Wq) rfl rfl (Nat.le_of_ble_eq_true rfl) ⟨Nat.le_of_ble_eq_true rfl, Nat.le_of_ble_eq_true rfl⟩ ⟨Nat.le_of_ble_eq_true rfl, Nat.le_of_ble_eq_true rfl⟩ (fun v1 h1 hl1 hk1 hm1 => ?_)
      obtain ⟨r56, a56, rfl, rfl, Wq⟩ := hk1
      refine xe_astore dX10_findBest_59 (by decide) q_rvR ?_
      refine xe_aload dX10_findBest_61 rfl q_rvR ?_
      cases e_63 : r56 with
      | none =>
        replace Wq := Wq.1 e_63
        try rw [e_63]
        refine xe_ifnullN 109 dX10_findBest_63 (by decide) ?_
        refine xe_iinc (_ + 1) dX10_findBest_109 (by decide) rfl rfl ?_
        refine xe_goto 44 dX10_findBest_112 (by decide) ?_
        refine q_wk (ls := [some (q_O 10 0), none, none, some (q_O 9 o3), some (q_O 3 o4), some (q_I (x5 + 1)), none]) ⟨rfl, ⟨rfl, ⟨rfl, ⟨rfl, trivial⟩⟩⟩⟩ ?_
        exact ih _ _ _ _ Wq
      | some i_63 =>
        replace Wq := Wq.2 i_63 e_63
        try rw [e_63]
        refine xe_ifnullO dX10_findBest_63 ?_
        refine xe_aload dX10_findBest_66 rfl q_rvO ?_
        refine xe_geti dX10_findBest_68 fX10_128 (fun _ _ => rfl) ?_
        refine xe_if_ne 109 dX10_findBest_71 (by decide) (fun c_71 => ?_) (fun c_71 => ?_)
        · replace Wq := Wq.1 c_71
          refine xe_iinc (_ + 1) dX10_findBest_109 (by decide) rfl rfl ?_
          refine xe_goto 44 dX10_findBest_112 (by decide) ?_
          refine q_wk (ls := [some (q_O 10 0), none, none, some (q_O 9 o3), some (q_O 3 o4), some (q_I (x5 + 1)), none]) ⟨rfl, ⟨rfl, ⟨rfl, ⟨rfl, trivial⟩⟩⟩⟩ ?_
          exact ih _ _ _ _ Wq
        · replace Wq := Wq.2 c_71
          refine xe_aload dX10_findBest_74 rfl q_rvO ?_
          refine xe_geti dX10_findBest_76 fX10_134 (fun _ _ => rfl) ?_
          refine xe_aload_n dX10_findBest_79 rfl q_rvO ?_
          refine xe_geti dX10_findBest_80 fX10_131 (fun _ _ => rfl) ?_
          refine xe_ic_ne 109 dX10_findBest_83 (by decide) (fun c_83 => ?_) (fun c_83 => ?_)
          · replace Wq := Wq.1 c_83
            refine xe_iinc (_ + 1) dX10_findBest_109 (by decide) rfl rfl ?_
            refine xe_goto 44 dX10_findBest_112 (by decide) ?_
            refine q_wk (ls := [some (q_O 10 0), none, none, some (q_O 9 o3), some (q_O 3 o4), some (q_I (x5 + 1)), none]) ⟨rfl, ⟨rfl, ⟨rfl, ⟨rfl, trivial⟩⟩⟩⟩ ?_
            exact ih _ _ _ _ Wq
          · replace Wq := Wq.2 c_83
            refine xe_aload dX10_findBest_86 rfl q_rvO ?_
            refine xe_geti dX10_findBest_88 fX10_153 (fun _ _ => rfl) ?_
            refine xe_iconst 3 dX10_findBest_91 (by decide) ?_
            refine xe_ic_eq 109 dX10_findBest_92 (by decide) (fun c_92 => ?_) (fun c_92 => ?_)
            · replace Wq := Wq.1 c_92
              refine xe_iinc (_ + 1) dX10_findBest_109 (by decide) rfl rfl ?_
              refine xe_goto 44 dX10_findBest_112 (by decide) ?_
              refine q_wk (ls := [some (q_O 10 0), none, none, some (q_O 9 o3), some (q_O 3 o4), some (q_I (x5 + 1)), none]) ⟨rfl, ⟨rfl, ⟨rfl, ⟨rfl, trivial⟩⟩⟩⟩ ?_
              exact ih _ _ _ _ Wq
            · replace Wq := Wq.2 c_92
              refine xe_aload_n dX10_findBest_95 rfl q_rvO ?_
              refine xe_getr dX10_findBest_96 fX10_60 (fun _ _ => rfl) (q_sg hS rfl) ?_
              refine xe_iload dX10_findBest_99 rfl ?_
              refine xe_aload dX10_findBest_101 rfl q_rvO ?_
              refine xe_geti dX10_findBest_103 fX10_147 (fun _ _ => rfl) ?_
              refine xe_cv (y' := mX1_add) dX10_findBest_106 (Or.inl lX10_312) tX1_add rfl rfl (ct_X1_add hS Wq) rfl rfl (Nat.le_of_ble_eq_true rfl) ⟨Nat.le_of_ble_eq_true rfl, Nat.le_of_ble_eq_true rfl⟩ ⟨Nat.le_of_ble_eq_true rfl, Nat.le_of_ble_eq_true rfl⟩ (fun v1 h1 hl1 hk1 hm1 => ?_)
              obtain ⟨a106, rfl, rfl, Wq⟩ := hk1
              refine xe_iinc (_ + 1) dX10_findBest_109 (by decide) rfl rfl ?_
              refine xe_goto 44 dX10_findBest_112 (by decide) ?_
              refine q_wk (ls := [some (q_O 10 0), none, none, some (q_O 9 o3), some (q_O 3 o4), some (q_I (x5 + 1)), none]) ⟨rfl, ⟨rfl, ⟨rfl, ⟨rfl, trivial⟩⟩⟩⟩ ?_
              exact ih _ _ _ _ Wq
set_option maxHeartbeats 4000000 in
theorem ct_X10_findBest {g : q_G} {s : q_S} {t p : Nat} (hS : q_Sh t p s) {x1 : Int32} {x2 : Int32} {a : qa} {post : Int32 → qa → Prop} (Wq : wp_X10_findBest t p x1 x2 a post) : q_Ct g mX10_findBest (q_Rm 21 0 0) [q_O 10 0, q_I x1, q_I x2] (a, s) (q_kI s post) := by
  refine q_mk rfl rfl (Nat.le_of_ble_eq_true rfl) (q_cs rfl (q_cs rfl (q_cs rfl q_nil))) (fun hv => ?_)
  unfold wp_X10_findBest at Wq
  refine xe_aload_n dX10_findBest_0 rfl q_rvO ?_
  refine xe_iload_n dX10_findBest_1 rfl ?_
  refine xe_cv (y' := mX10_trainAt) dX10_findBest_2 (Or.inl lX10_116) tX10_trainAt rfl rfl (ct_X10_trainAt hS Wq) rfl rfl (Nat.le_of_ble_eq_true rfl) ⟨Nat.le_of_ble_eq_true rfl, Nat.le_of_ble_eq_true rfl⟩ ⟨Nat.le_of_ble_eq_true rfl, Nat.le_of_ble_eq_true rfl⟩ (fun v1 h1 hl1 hk1 hm1 => ?_)
  obtain ⟨r2, a2, rfl, rfl, Wq⟩ := hk1
  refine xe_astore_n dX10_findBest_5 (by decide) q_rvR ?_
  refine xe_aload_n dX10_findBest_6 rfl q_rvR ?_
  cases e_7 : r2 with
  | none =>
    replace Wq := Wq.1 e_7
    try rw [e_7]
    refine xe_ifnullN 18 dX10_findBest_7 (by decide) ?_
    refine xe_iconst 0 dX10_findBest_18 (by decide) ?_
    exact xe_iret .boolean dX10_findBest_19 rfl (by decide) ⟨_, _, rfl, rfl, Wq⟩
  | some i_7 =>
    replace Wq := Wq.2 i_7 e_7
    try rw [e_7]
    refine xe_ifnullO dX10_findBest_7 ?_
    refine xe_aload_n dX10_findBest_10 rfl q_rvO ?_
    refine xe_geti dX10_findBest_11 fX10_131 (fun _ _ => rfl) ?_
    refine xe_iconst (-1) dX10_findBest_14 (by decide) ?_
    refine xe_ic_ne 20 dX10_findBest_15 (by decide) (fun c_15 => ?_) (fun c_15 => ?_)
    · replace Wq := Wq.1 c_15
      refine xe_aload_n dX10_findBest_20 rfl q_rvO ?_
      refine xe_iload_n dX10_findBest_21 rfl ?_
      refine xe_cv (y' := mX9_muleAt) dX10_findBest_22 (Or.inl lX10_124) tX9_muleAt rfl rfl (ct_X9_muleAt hS Wq) rfl rfl (Nat.le_of_ble_eq_true rfl) ⟨Nat.le_of_ble_eq_true rfl, Nat.le_of_ble_eq_true rfl⟩ ⟨Nat.le_of_ble_eq_true rfl, Nat.le_of_ble_eq_true rfl⟩ (fun v1 h1 hl1 hk1 hm1 => ?_)
      obtain ⟨r22, a22, rfl, rfl, Wq⟩ := hk1
      refine xe_astore dX10_findBest_25 (by decide) q_rvR ?_
      refine xe_aload dX10_findBest_27 rfl q_rvR ?_
      cases e_29 : r22 with
      | none =>
        replace Wq := Wq.1 e_29
        try rw [e_29]
        refine xe_ifnonnullN dX10_findBest_29 ?_
        refine xe_iconst 0 dX10_findBest_32 (by decide) ?_
        exact xe_iret .boolean dX10_findBest_33 rfl (by decide) ⟨_, _, rfl, rfl, Wq⟩
      | some i_29 =>
        replace Wq := Wq.2 i_29 e_29
        try rw [e_29]
        refine xe_ifnonnullO 34 dX10_findBest_29 (by decide) ?_
        refine xe_aload_n dX10_findBest_34 rfl q_rvO ?_
        refine xe_getr dX10_findBest_35 fX10_60 (fun _ _ => rfl) (q_sg hS rfl) ?_
        refine xe_cv (y' := mX1_clear) dX10_findBest_38 (Or.inl lX10_309) tX1_clear rfl rfl (ct_X1_clear hS Wq) rfl rfl (Nat.le_of_ble_eq_true rfl) ⟨Nat.le_of_ble_eq_true rfl, Nat.le_of_ble_eq_true rfl⟩ ⟨Nat.le_of_ble_eq_true rfl, Nat.le_of_ble_eq_true rfl⟩ (fun v1 h1 hl1 hk1 hm1 => ?_)
        obtain ⟨a38, rfl, rfl, Wq⟩ := hk1
        refine xe_iconst 0 dX10_findBest_41 (by decide) ?_
        refine xe_istore dX10_findBest_42 (by decide) ?_
        obtain ⟨n_44, Wq⟩ := Wq
        refine q_wk (ls := [some (q_O 10 0), none, none, some (q_O 9 i_7), some (q_O 3 i_29), some (q_I 0), none]) ⟨rfl, ⟨rfl, ⟨rfl, ⟨rfl, trivial⟩⟩⟩⟩ ?_
        exact el_X10_findBest_44 hS n_44 _ _ _ _ Wq
    · replace Wq := Wq.2 c_15
      refine xe_iconst 0 dX10_findBest_18 (by decide) ?_
      exact xe_iret .boolean dX10_findBest_19 rfl (by decide) ⟨_, _, rfl, rfl, Wq⟩
def wp_X10_best (t p : Nat) (x1 : Int32) (x2 : Int32) (a : qa) (post : Int32 → qa → Prop) : Prop := wp_X10_findBest t p x1 x2 a (fun r3 a3 => ((r3 = 0 → post (-1) a3) ∧ (¬ r3 = 0 → post (a3 1 0 7) a3)))
set_option maxHeartbeats 4000000 in
theorem ct_X10_best {g : q_G} {s : q_S} {t p : Nat} (hS : q_Sh t p s) {x1 : Int32} {x2 : Int32} {a : qa} {post : Int32 → qa → Prop} (Wq : wp_X10_best t p x1 x2 a post) : q_Ct g mX10_best (q_Rm 22 0 0) [q_O 10 0, q_I x1, q_I x2] (a, s) (q_kI s post) := by
  refine q_mk rfl rfl (Nat.le_of_ble_eq_true rfl) (q_cs rfl (q_cs rfl (q_cs rfl q_nil))) (fun hv => ?_)
  unfold wp_X10_best at Wq
  refine xe_aload_n dX10_best_0 rfl q_rvO ?_
  refine xe_iload_n dX10_best_1 rfl ?_
  refine xe_iload_n dX10_best_2 rfl ?_
  refine xe_cv (y' := mX10_findBest) dX10_best_3 (Or.inl lX10_215) tX10_findBest rfl rfl (ct_X10_findBest hS Wq) rfl rfl (Nat.le_of_ble_eq_true rfl) ⟨Nat.le_of_ble_eq_true rfl, Nat.le_of_ble_eq_true rfl⟩ ⟨Nat.le_of_ble_eq_true rfl, Nat.le_of_ble_eq_true rfl⟩ (fun v1 h1 hl1 hk1 hm1 => ?_)
  obtain ⟨r3, a3, rfl, rfl, Wq⟩ := hk1
  refine xe_if_eq 19 dX10_best_6 (by decide) (fun c_6 => ?_) (fun c_6 => ?_)
  · replace Wq := Wq.1 c_6
    refine xe_iconst (-1) dX10_best_19 (by decide) ?_
    exact xe_iret .int dX10_best_20 rfl rfl ⟨_, _, rfl, rfl, Wq⟩
  · replace Wq := Wq.2 c_6
    refine xe_aload_n dX10_best_9 rfl q_rvO ?_
    refine xe_getr dX10_best_10 fX10_60 (fun _ _ => rfl) (q_sg hS rfl) ?_
    refine xe_geti dX10_best_13 fX10_219 (fun _ _ => rfl) ?_
    refine xe_goto 20 dX10_best_16 (by decide) ?_
    exact xe_iret .int dX10_best_20 rfl rfl ⟨_, _, rfl, rfl, Wq⟩
def wp_X10_bestOf (t p : Nat) (x1 : Int32) (x2 : Int32) (x3 : Int32) (a : qa) (post : Int32 → qa → Prop) : Prop := wp_X10_findBest t p x1 x2 a (fun r3 a3 => ((r3 = 0 → post (-1) a3) ∧ (¬ r3 = 0 → wp_X1_sideOf t p x3 a3 (fun r14 a14 => post r14 a14))))
set_option maxHeartbeats 4000000 in
theorem ct_X10_bestOf {g : q_G} {s : q_S} {t p : Nat} (hS : q_Sh t p s) {x1 : Int32} {x2 : Int32} {x3 : Int32} {a : qa} {post : Int32 → qa → Prop} (Wq : wp_X10_bestOf t p x1 x2 x3 a post) : q_Ct g mX10_bestOf (q_Rm 22 0 0) [q_O 10 0, q_I x1, q_I x2, q_I x3] (a, s) (q_kI s post) := by
  refine q_mk rfl rfl (Nat.le_of_ble_eq_true rfl) (q_cs rfl (q_cs rfl (q_cs rfl (q_cs rfl q_nil)))) (fun hv => ?_)
  unfold wp_X10_bestOf at Wq
  refine xe_aload_n dX10_bestOf_0 rfl q_rvO ?_
  refine xe_iload_n dX10_bestOf_1 rfl ?_
  refine xe_iload_n dX10_bestOf_2 rfl ?_
  refine xe_cv (y' := mX10_findBest) dX10_bestOf_3 (Or.inl lX10_215) tX10_findBest rfl rfl (ct_X10_findBest hS Wq) rfl rfl (Nat.le_of_ble_eq_true rfl) ⟨Nat.le_of_ble_eq_true rfl, Nat.le_of_ble_eq_true rfl⟩ ⟨Nat.le_of_ble_eq_true rfl, Nat.le_of_ble_eq_true rfl⟩ (fun v1 h1 hl1 hk1 hm1 => ?_)
  obtain ⟨r3, a3, rfl, rfl, Wq⟩ := hk1
  refine xe_if_eq 20 dX10_bestOf_6 (by decide) (fun c_6 => ?_) (fun c_6 => ?_)
  · replace Wq := Wq.1 c_6
    refine xe_iconst (-1) dX10_bestOf_20 (by decide) ?_
    exact xe_iret .int dX10_bestOf_21 rfl rfl ⟨_, _, rfl, rfl, Wq⟩
  · replace Wq := Wq.2 c_6
    refine xe_aload_n dX10_bestOf_9 rfl q_rvO ?_
    refine xe_getr dX10_bestOf_10 fX10_60 (fun _ _ => rfl) (q_sg hS rfl) ?_
    refine xe_iload_n dX10_bestOf_13 rfl ?_
    refine xe_cv (y' := mX1_sideOf) dX10_bestOf_14 (Or.inl lX10_221) tX1_sideOf rfl rfl (ct_X1_sideOf hS Wq) rfl rfl (Nat.le_of_ble_eq_true rfl) ⟨Nat.le_of_ble_eq_true rfl, Nat.le_of_ble_eq_true rfl⟩ ⟨Nat.le_of_ble_eq_true rfl, Nat.le_of_ble_eq_true rfl⟩ (fun v1 h1 hl1 hk1 hm1 => ?_)
    obtain ⟨r14, a14, rfl, rfl, Wq⟩ := hk1
    refine xe_goto 21 dX10_bestOf_17 (by decide) ?_
    exact xe_iret .int dX10_bestOf_21 rfl rfl ⟨_, _, rfl, rfl, Wq⟩
