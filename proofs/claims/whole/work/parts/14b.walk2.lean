def wp_X5_fail (t p : Nat) (x1 : Int32) (a : qa) (post : Int32 → qa → Prop) : Prop := (((a 5 0 1) < 0 → post 0 (qs (qs a 5 0 4 x1) 5 0 5 (-1))) ∧ (¬ (a 5 0 1) < 0 → ((400 < (a 5 0 1) → post 0 (qs (qs a 5 0 4 x1) 5 0 5 (-1))) ∧ (¬ 400 < (a 5 0 1) → vp_in (a 5 0 1) 401 ∧ post 0 (qs (qs a 5 0 4 x1) 5 0 5 (a 34 0 ((a 5 0 1).toNatClampNeg)))))))
set_option maxHeartbeats 4000000 in
theorem ct_X5_fail {g : q_G} {s : q_S} {t p : Nat} (hS : q_Sh t p s) {x1 : Int32} {a : qa} {post : Int32 → qa → Prop} (Wq : wp_X5_fail t p x1 a post) : q_Ct g mX5_fail (q_Rm 1 0 0) [q_O 5 0, q_I x1] (a, s) (q_kI s post) := by
  refine q_mk rfl rfl (Nat.le_of_ble_eq_true rfl) (q_cs rfl (q_cs rfl q_nil)) (fun hv => ?_)
  unfold wp_X5_fail at Wq
  refine xe_aload_n dX5_fail_0 rfl q_rvO ?_
  refine xe_iload_n dX5_fail_1 rfl ?_
  refine xf_puti dX5_fail_2 fX5_21 (fun q hq => Or.inl (by cases hq; rfl)) ⟨rfl, rfl⟩ (fun _ _ => rfl) ?_
  refine xe_aload_n dX5_fail_5 rfl q_rvO ?_
  refine xe_aload_n dX5_fail_6 rfl q_rvO ?_
  refine xe_geti dX5_fail_7 fX5_9 (fun _ _ => rfl) ?_
  refine xe_if_lt 38 dX5_fail_10 (by decide) (fun c_10 => ?_) (fun c_10 => ?_)
  · replace Wq := Wq.1 c_10
    refine xe_iconst (-1) dX5_fail_38 (by decide) ?_
    refine xf_puti dX5_fail_39 fX5_24 (fun q hq => Or.inl (by cases hq; rfl)) ⟨rfl, rfl⟩ (fun _ _ => rfl) ?_
    refine xe_iconst 0 dX5_fail_42 (by decide) ?_
    exact xe_iret .boolean dX5_fail_43 rfl (by decide) ⟨_, _, rfl, rfl, Wq⟩
  · replace Wq := Wq.2 c_10
    refine xe_aload_n dX5_fail_13 rfl q_rvO ?_
    refine xe_geti dX5_fail_14 fX5_9 (fun _ _ => rfl) ?_
    refine xe_sipush 400 dX5_fail_17 (by decide) ?_
    refine xe_ic_gt 38 dX5_fail_20 (by decide) (fun c_20 => ?_) (fun c_20 => ?_)
    · replace Wq := Wq.1 c_20
      refine xe_iconst (-1) dX5_fail_38 (by decide) ?_
      refine xf_puti dX5_fail_39 fX5_24 (fun q hq => Or.inl (by cases hq; rfl)) ⟨rfl, rfl⟩ (fun _ _ => rfl) ?_
      refine xe_iconst 0 dX5_fail_42 (by decide) ?_
      exact xe_iret .boolean dX5_fail_43 rfl (by decide) ⟨_, _, rfl, rfl, Wq⟩
    · replace Wq := Wq.2 c_20
      refine xe_aload_n dX5_fail_23 rfl q_rvO ?_
      refine xe_getr dX5_fail_24 fX5_32 (fun _ _ => rfl) (q_sg hS rfl) ?_
      refine xe_getr dX5_fail_27 fX5_70 (fun _ _ => rfl) (q_sg hS rfl) ?_
      refine xe_aload_n dX5_fail_30 rfl q_rvO ?_
      refine xe_geti dX5_fail_31 fX5_9 (fun _ _ => rfl) ?_
      obtain ⟨hj_34, Wq⟩ := Wq
      refine xe_iald dX5_fail_34 rfl hj_34 ?_
      refine xe_goto 39 dX5_fail_35 (by decide) ?_
      refine xf_puti dX5_fail_39 fX5_24 (fun q hq => Or.inl (by cases hq; rfl)) ⟨rfl, rfl⟩ (fun _ _ => rfl) ?_
      refine xe_iconst 0 dX5_fail_42 (by decide) ?_
      exact xe_iret .boolean dX5_fail_43 rfl (by decide) ⟨_, _, rfl, rfl, Wq⟩
def wp_X5_isTermAhead (t p : Nat) (a : qa) (post : Int32 → qa → Prop) : Prop := (((a 5 0 2) = 3 → post 1 a) ∧ (¬ (a 5 0 2) = 3 → ((¬ (a 5 0 2) = 4 → post 0 a) ∧ ((a 5 0 2) = 4 → post 1 a))))
set_option maxHeartbeats 4000000 in
theorem ct_X5_isTermAhead {g : q_G} {s : q_S} {t p : Nat} (hS : q_Sh t p s) {a : qa} {post : Int32 → qa → Prop} (Wq : wp_X5_isTermAhead t p  a post) : q_Ct g mX5_isTermAhead (q_Rm 1 0 0) [q_O 5 0] (a, s) (q_kI s post) := by
  refine q_mk rfl rfl (Nat.le_of_ble_eq_true rfl) (q_cs rfl q_nil) (fun hv => ?_)
  unfold wp_X5_isTermAhead at Wq
  refine xe_aload_n dX5_isTermAhead_0 rfl q_rvO ?_
  refine xe_geti dX5_isTermAhead_1 fX5_15 (fun _ _ => rfl) ?_
  refine xe_iconst 3 dX5_isTermAhead_4 (by decide) ?_
  refine xe_ic_eq 16 dX5_isTermAhead_5 (by decide) (fun c_5 => ?_) (fun c_5 => ?_)
  · replace Wq := Wq.1 c_5
    refine xe_iconst 1 dX5_isTermAhead_16 (by decide) ?_
    refine xe_goto 21 dX5_isTermAhead_17 (by decide) ?_
    exact xe_iret .boolean dX5_isTermAhead_21 rfl (by decide) ⟨_, _, rfl, rfl, Wq⟩
  · replace Wq := Wq.2 c_5
    refine xe_aload_n dX5_isTermAhead_8 rfl q_rvO ?_
    refine xe_geti dX5_isTermAhead_9 fX5_15 (fun _ _ => rfl) ?_
    refine xe_iconst 4 dX5_isTermAhead_12 (by decide) ?_
    refine xe_ic_ne 20 dX5_isTermAhead_13 (by decide) (fun c_13 => ?_) (fun c_13 => ?_)
    · replace Wq := Wq.1 c_13
      refine xe_iconst 0 dX5_isTermAhead_20 (by decide) ?_
      exact xe_iret .boolean dX5_isTermAhead_21 rfl (by decide) ⟨_, _, rfl, rfl, Wq⟩
    · replace Wq := Wq.2 c_13
      refine xe_iconst 1 dX5_isTermAhead_16 (by decide) ?_
      refine xe_goto 21 dX5_isTermAhead_17 (by decide) ?_
      exact xe_iret .boolean dX5_isTermAhead_21 rfl (by decide) ⟨_, _, rfl, rfl, Wq⟩
def wp_X5_moveTo (t p : Nat) (x1 : Int32) (a : qa) (post : qa → Prop) : Prop := ((x1 < 0 → post a) ∧ (¬ x1 < 0 → (((a 8 0 4) ≤ x1 → post a) ∧ (¬ (a 8 0 4) ≤ x1 → ((400 < x1 → post a) ∧ (¬ 400 < x1 → vp_in x1 401 ∧ vp_in x1 401 ∧ post (qs (qs (qs a 5 0 1 x1) 5 0 2 (a 33 0 x1.toNatClampNeg)) 5 0 3 (a 35 0 x1.toNatClampNeg))))))))
set_option maxHeartbeats 4000000 in
theorem ct_X5_moveTo {g : q_G} {s : q_S} {t p : Nat} (hS : q_Sh t p s) {x1 : Int32} {a : qa} {post : qa → Prop} (Wq : wp_X5_moveTo t p x1 a post) : q_Ct g mX5_moveTo (q_Rm 1 0 0) [q_O 5 0, q_I x1] (a, s) (q_kV s post) := by
  refine q_mk rfl rfl (Nat.le_of_ble_eq_true rfl) (q_cs rfl (q_cs rfl q_nil)) (fun hv => ?_)
  unfold wp_X5_moveTo at Wq
  refine xe_iload_n dX5_moveTo_0 rfl ?_
  refine xe_if_lt 53 dX5_moveTo_1 (by decide) (fun c_1 => ?_) (fun c_1 => ?_)
  · replace Wq := Wq.1 c_1
    exact xe_vret dX5_moveTo_53 rfl ⟨_, rfl, rfl, Wq⟩
  · replace Wq := Wq.2 c_1
    refine xe_iload_n dX5_moveTo_4 rfl ?_
    refine xe_aload_n dX5_moveTo_5 rfl q_rvO ?_
    refine xe_getr dX5_moveTo_6 fX5_32 (fun _ _ => rfl) (q_sg hS rfl) ?_
    refine xe_geti dX5_moveTo_9 fX5_60 (fun _ _ => rfl) ?_
    refine xe_ic_ge 53 dX5_moveTo_12 (by decide) (fun c_12 => ?_) (fun c_12 => ?_)
    · replace Wq := Wq.1 c_12
      exact xe_vret dX5_moveTo_53 rfl ⟨_, rfl, rfl, Wq⟩
    · replace Wq := Wq.2 c_12
      refine xe_iload_n dX5_moveTo_15 rfl ?_
      refine xe_sipush 400 dX5_moveTo_16 (by decide) ?_
      refine xe_ic_gt 53 dX5_moveTo_19 (by decide) (fun c_19 => ?_) (fun c_19 => ?_)
      · replace Wq := Wq.1 c_19
        exact xe_vret dX5_moveTo_53 rfl ⟨_, rfl, rfl, Wq⟩
      · replace Wq := Wq.2 c_19
        refine xe_aload_n dX5_moveTo_22 rfl q_rvO ?_
        refine xe_iload_n dX5_moveTo_23 rfl ?_
        refine xf_puti dX5_moveTo_24 fX5_9 (fun q hq => Or.inl (by cases hq; rfl)) ⟨rfl, rfl⟩ (fun _ _ => rfl) ?_
        refine xe_aload_n dX5_moveTo_27 rfl q_rvO ?_
        refine xe_aload_n dX5_moveTo_28 rfl q_rvO ?_
        refine xe_getr dX5_moveTo_29 fX5_32 (fun _ _ => rfl) (q_sg hS rfl) ?_
        refine xe_getr dX5_moveTo_32 fX5_63 (fun _ _ => rfl) (q_sg hS rfl) ?_
        refine xe_iload_n dX5_moveTo_35 rfl ?_
        obtain ⟨hj_36, Wq⟩ := Wq
        refine xe_iald dX5_moveTo_36 rfl hj_36 ?_
        refine xf_puti dX5_moveTo_37 fX5_15 (fun q hq => Or.inl (by cases hq; rfl)) ⟨rfl, rfl⟩ (fun _ _ => rfl) ?_
        refine xe_aload_n dX5_moveTo_40 rfl q_rvO ?_
        refine xe_aload_n dX5_moveTo_41 rfl q_rvO ?_
        refine xe_getr dX5_moveTo_42 fX5_32 (fun _ _ => rfl) (q_sg hS rfl) ?_
        refine xe_getr dX5_moveTo_45 fX5_67 (fun _ _ => rfl) (q_sg hS rfl) ?_
        refine xe_iload_n dX5_moveTo_48 rfl ?_
        obtain ⟨hj_49, Wq⟩ := Wq
        refine xe_iald dX5_moveTo_49 rfl hj_49 ?_
        refine xf_puti dX5_moveTo_50 fX5_18 (fun q hq => Or.inl (by cases hq; rfl)) ⟨rfl, rfl⟩ (fun _ _ => rfl) ?_
        exact xe_vret dX5_moveTo_53 rfl ⟨_, rfl, rfl, Wq⟩
def wl_X6_addInn_91 (t p : Nat) (post : Int32 → qa → Prop) : qa → Prop := fun a => post (((a 6 0 7) + 1) - 1) (qs a 6 0 7 ((a 6 0 7) + 1))
def wp_X6_addInn (t p : Nat) (x1 : Int32) (x2 : Int32) (x3 : Int32) (a : qa) (post : Int32 → qa → Prop) : Prop := (((a 6 0 7) < 6 → ((¬ (a 6 0 7) = 0 → ((x1 < 1 → post (-1) a) ∧ (¬ x1 < 1 → ((9 < x1 → post (-1) a) ∧ (¬ 9 < x1 → ((x2 < 0 → post (-1) a) ∧ (¬ x2 < 0 → ((x2 ≤ 9 → vp_in ((a 6 0 7) - 1) 6 ∧ vp_in ((a 6 0 7) - 1) 6 ∧ vp_in ((a 6 0 7) - 1) 6 ∧ (wl_X6_addInn_91 t p post  (qs (qs (qs a 25 0 (((a 6 0 7) - 1).toNatClampNeg) x1) 26 0 (((a 6 0 7) - 1).toNatClampNeg) x2) 27 0 (((a 6 0 7) - 1).toNatClampNeg) (vp_nar .boolean x3)))) ∧ (¬ x2 ≤ 9 → post (-1) a))))))))) ∧ ((a 6 0 7) = 0 → ((¬ x1 = 0 → post (-1) a) ∧ (x1 = 0 → ((¬ x2 = 0 → post (-1) a) ∧ (x2 = 0 → ((x3 = 0 → wl_X6_addInn_91 t p post  a) ∧ (¬ x3 = 0 → post (-1) a))))))))) ∧ (¬ (a 6 0 7) < 6 → post (-1) a))
set_option maxHeartbeats 4000000 in
theorem el_X6_addInn_91 {g : q_G} {s : q_S} {t p : Nat} (hS : q_Sh t p s) {post : Int32 → qa → Prop} : ∀ (a : qa), wl_X6_addInn_91 t p post a → q_E g mX6_addInn (q_Rm 1 0 0) (q_kI s post) (0, 0) 91 [some (q_O 6 0), none, none, none] [] (a, s) := by
  intro a Wq
  unfold wl_X6_addInn_91 at Wq
  refine xe_aload_n dX6_addInn_91 rfl q_rvO ?_
  refine xe_dup dX6_addInn_92 rfl ?_
  refine xe_geti dX6_addInn_93 fX6_34 (fun _ _ => rfl) ?_
  refine xe_iconst 1 dX6_addInn_96 (by decide) ?_
  refine xe_iadd dX6_addInn_97 ?_
  refine xf_puti dX6_addInn_98 fX6_34 (fun q hq => Or.inl (by cases hq; rfl)) ⟨rfl, rfl⟩ (fun _ _ => rfl) ?_
  refine xe_aload_n dX6_addInn_101 rfl q_rvO ?_
  refine xe_geti dX6_addInn_102 fX6_34 (fun _ _ => rfl) ?_
  refine xe_iconst 1 dX6_addInn_105 (by decide) ?_
  refine xe_isub dX6_addInn_106 ?_
  exact xe_iret .int dX6_addInn_107 rfl rfl ⟨_, _, rfl, rfl, Wq⟩
set_option maxHeartbeats 4000000 in
theorem ct_X6_addInn {g : q_G} {s : q_S} {t p : Nat} (hS : q_Sh t p s) {x1 : Int32} {x2 : Int32} {x3 : Int32} {a : qa} {post : Int32 → qa → Prop} (Wq : wp_X6_addInn t p x1 x2 x3 a post) : q_Ct g mX6_addInn (q_Rm 1 0 0) [q_O 6 0, q_I x1, q_I x2, q_I x3] (a, s) (q_kI s post) := by
  refine q_mk rfl rfl (Nat.le_of_ble_eq_true rfl) (q_cs rfl (q_cs rfl (q_cs rfl (q_cs rfl q_nil)))) (fun hv => ?_)
  unfold wp_X6_addInn at Wq
  refine xe_aload_n dX6_addInn_0 rfl q_rvO ?_
  refine xe_geti dX6_addInn_1 fX6_34 (fun _ _ => rfl) ?_
  refine xe_bipush 6 dX6_addInn_4 (by decide) ?_
  refine xe_ic_lt 11 dX6_addInn_6 (by decide) (fun c_6 => ?_) (fun c_6 => ?_)
  · replace Wq := Wq.1 c_6
    refine xe_aload_n dX6_addInn_11 rfl q_rvO ?_
    refine xe_geti dX6_addInn_12 fX6_34 (fun _ _ => rfl) ?_
    refine xe_if_ne 32 dX6_addInn_15 (by decide) (fun c_15 => ?_) (fun c_15 => ?_)
    · replace Wq := Wq.1 c_15
      refine xe_iload_n dX6_addInn_32 rfl ?_
      refine xe_iconst 1 dX6_addInn_33 (by decide) ?_
      refine xe_ic_lt 53 dX6_addInn_34 (by decide) (fun c_34 => ?_) (fun c_34 => ?_)
      · replace Wq := Wq.1 c_34
        refine xe_iconst (-1) dX6_addInn_53 (by decide) ?_
        exact xe_iret .int dX6_addInn_54 rfl rfl ⟨_, _, rfl, rfl, Wq⟩
      · replace Wq := Wq.2 c_34
        refine xe_iload_n dX6_addInn_37 rfl ?_
        refine xe_bipush 9 dX6_addInn_38 (by decide) ?_
        refine xe_ic_gt 53 dX6_addInn_40 (by decide) (fun c_40 => ?_) (fun c_40 => ?_)
        · replace Wq := Wq.1 c_40
          refine xe_iconst (-1) dX6_addInn_53 (by decide) ?_
          exact xe_iret .int dX6_addInn_54 rfl rfl ⟨_, _, rfl, rfl, Wq⟩
        · replace Wq := Wq.2 c_40
          refine xe_iload_n dX6_addInn_43 rfl ?_
          refine xe_if_lt 53 dX6_addInn_44 (by decide) (fun c_44 => ?_) (fun c_44 => ?_)
          · replace Wq := Wq.1 c_44
            refine xe_iconst (-1) dX6_addInn_53 (by decide) ?_
            exact xe_iret .int dX6_addInn_54 rfl rfl ⟨_, _, rfl, rfl, Wq⟩
          · replace Wq := Wq.2 c_44
            refine xe_iload_n dX6_addInn_47 rfl ?_
            refine xe_bipush 9 dX6_addInn_48 (by decide) ?_
            refine xe_ic_le 55 dX6_addInn_50 (by decide) (fun c_50 => ?_) (fun c_50 => ?_)
            · replace Wq := Wq.1 c_50
              refine xe_aload_n dX6_addInn_55 rfl q_rvO ?_
              refine xe_getr dX6_addInn_56 fX6_9 (fun _ _ => rfl) (q_sg hS rfl) ?_
              refine xe_aload_n dX6_addInn_59 rfl q_rvO ?_
              refine xe_geti dX6_addInn_60 fX6_34 (fun _ _ => rfl) ?_
              refine xe_iconst 1 dX6_addInn_63 (by decide) ?_
              refine xe_isub dX6_addInn_64 ?_
              refine xe_iload_n dX6_addInn_65 rfl ?_
              obtain ⟨hj_66, Wq⟩ := Wq
              refine xf_iast dX6_addInn_66 rfl hj_66 ?_
              refine xe_aload_n dX6_addInn_67 rfl q_rvO ?_
              refine xe_getr dX6_addInn_68 fX6_15 (fun _ _ => rfl) (q_sg hS rfl) ?_
              refine xe_aload_n dX6_addInn_71 rfl q_rvO ?_
              refine xe_geti dX6_addInn_72 fX6_34 (fun _ _ => rfl) ?_
              refine xe_iconst 1 dX6_addInn_75 (by decide) ?_
              refine xe_isub dX6_addInn_76 ?_
              refine xe_iload_n dX6_addInn_77 rfl ?_
              obtain ⟨hj_78, Wq⟩ := Wq
              refine xf_iast dX6_addInn_78 rfl hj_78 ?_
              refine xe_aload_n dX6_addInn_79 rfl q_rvO ?_
              refine xe_getr dX6_addInn_80 fX6_18 (fun _ _ => rfl) (q_sg hS rfl) ?_
              refine xe_aload_n dX6_addInn_83 rfl q_rvO ?_
              refine xe_geti dX6_addInn_84 fX6_34 (fun _ _ => rfl) ?_
              refine xe_iconst 1 dX6_addInn_87 (by decide) ?_
              refine xe_isub dX6_addInn_88 ?_
              refine xe_iload_n dX6_addInn_89 rfl ?_
              obtain ⟨hj_90, Wq⟩ := Wq
              refine xf_zast dX6_addInn_90 rfl hj_90 ?_
              refine q_wk (ls := [some (q_O 6 0), none, none, none]) ⟨rfl, trivial⟩ ?_
              exact el_X6_addInn_91 hS  _ Wq
            · replace Wq := Wq.2 c_50
              refine xe_iconst (-1) dX6_addInn_53 (by decide) ?_
              exact xe_iret .int dX6_addInn_54 rfl rfl ⟨_, _, rfl, rfl, Wq⟩
    · replace Wq := Wq.2 c_15
      refine xe_iload_n dX6_addInn_18 rfl ?_
      refine xe_if_ne 30 dX6_addInn_19 (by decide) (fun c_19 => ?_) (fun c_19 => ?_)
      · replace Wq := Wq.1 c_19
        refine xe_iconst (-1) dX6_addInn_30 (by decide) ?_
        exact xe_iret .int dX6_addInn_31 rfl rfl ⟨_, _, rfl, rfl, Wq⟩
      · replace Wq := Wq.2 c_19
        refine xe_iload_n dX6_addInn_22 rfl ?_
        refine xe_if_ne 30 dX6_addInn_23 (by decide) (fun c_23 => ?_) (fun c_23 => ?_)
        · replace Wq := Wq.1 c_23
          refine xe_iconst (-1) dX6_addInn_30 (by decide) ?_
          exact xe_iret .int dX6_addInn_31 rfl rfl ⟨_, _, rfl, rfl, Wq⟩
        · replace Wq := Wq.2 c_23
          refine xe_iload_n dX6_addInn_26 rfl ?_
          refine xe_if_eq 91 dX6_addInn_27 (by decide) (fun c_27 => ?_) (fun c_27 => ?_)
          · replace Wq := Wq.1 c_27
            refine q_wk (ls := [some (q_O 6 0), none, none, none]) ⟨rfl, trivial⟩ ?_
            exact el_X6_addInn_91 hS  _ Wq
          · replace Wq := Wq.2 c_27
            refine xe_iconst (-1) dX6_addInn_30 (by decide) ?_
            exact xe_iret .int dX6_addInn_31 rfl rfl ⟨_, _, rfl, rfl, Wq⟩
  · replace Wq := Wq.2 c_6
    refine xe_iconst (-1) dX6_addInn_9 (by decide) ?_
    exact xe_iret .int dX6_addInn_10 rfl rfl ⟨_, _, rfl, rfl, Wq⟩
def wp_X6_hasInn (t p : Nat) (x1 : Int32) (a : qa) (post : Int32 → qa → Prop) : Prop := ((x1 < 0 → post 0 a) ∧ (¬ x1 < 0 → (((a 6 0 7) ≤ x1 → post 0 a) ∧ (¬ (a 6 0 7) ≤ x1 → post 1 a))))
set_option maxHeartbeats 4000000 in
theorem ct_X6_hasInn {g : q_G} {s : q_S} {t p : Nat} (hS : q_Sh t p s) {x1 : Int32} {a : qa} {post : Int32 → qa → Prop} (Wq : wp_X6_hasInn t p x1 a post) : q_Ct g mX6_hasInn (q_Rm 1 0 0) [q_O 6 0, q_I x1] (a, s) (q_kI s post) := by
  refine q_mk rfl rfl (Nat.le_of_ble_eq_true rfl) (q_cs rfl (q_cs rfl q_nil)) (fun hv => ?_)
  unfold wp_X6_hasInn at Wq
  refine xe_iload_n dX6_hasInn_0 rfl ?_
  refine xe_if_lt 16 dX6_hasInn_1 (by decide) (fun c_1 => ?_) (fun c_1 => ?_)
  · replace Wq := Wq.1 c_1
    refine xe_iconst 0 dX6_hasInn_16 (by decide) ?_
    exact xe_iret .boolean dX6_hasInn_17 rfl (by decide) ⟨_, _, rfl, rfl, Wq⟩
  · replace Wq := Wq.2 c_1
    refine xe_iload_n dX6_hasInn_4 rfl ?_
    refine xe_aload_n dX6_hasInn_5 rfl q_rvO ?_
    refine xe_geti dX6_hasInn_6 fX6_34 (fun _ _ => rfl) ?_
    refine xe_ic_ge 16 dX6_hasInn_9 (by decide) (fun c_9 => ?_) (fun c_9 => ?_)
    · replace Wq := Wq.1 c_9
      refine xe_iconst 0 dX6_hasInn_16 (by decide) ?_
      exact xe_iret .boolean dX6_hasInn_17 rfl (by decide) ⟨_, _, rfl, rfl, Wq⟩
    · replace Wq := Wq.2 c_9
      refine xe_iconst 1 dX6_hasInn_12 (by decide) ?_
      refine xe_goto 17 dX6_hasInn_13 (by decide) ?_
      exact xe_iret .boolean dX6_hasInn_17 rfl (by decide) ⟨_, _, rfl, rfl, Wq⟩
def wp_X6_hasLeg (t p : Nat) (x1 : Int32) (a : qa) (post : Int32 → qa → Prop) : Prop := ((x1 < 0 → post 0 a) ∧ (¬ x1 < 0 → ((((a 6 0 7) - 1) ≤ x1 → post 0 a) ∧ (¬ ((a 6 0 7) - 1) ≤ x1 → post 1 a))))
set_option maxHeartbeats 4000000 in
theorem ct_X6_hasLeg {g : q_G} {s : q_S} {t p : Nat} (hS : q_Sh t p s) {x1 : Int32} {a : qa} {post : Int32 → qa → Prop} (Wq : wp_X6_hasLeg t p x1 a post) : q_Ct g mX6_hasLeg (q_Rm 1 0 0) [q_O 6 0, q_I x1] (a, s) (q_kI s post) := by
  refine q_mk rfl rfl (Nat.le_of_ble_eq_true rfl) (q_cs rfl (q_cs rfl q_nil)) (fun hv => ?_)
  unfold wp_X6_hasLeg at Wq
  refine xe_iload_n dX6_hasLeg_0 rfl ?_
  refine xe_if_lt 18 dX6_hasLeg_1 (by decide) (fun c_1 => ?_) (fun c_1 => ?_)
  · replace Wq := Wq.1 c_1
    refine xe_iconst 0 dX6_hasLeg_18 (by decide) ?_
    exact xe_iret .boolean dX6_hasLeg_19 rfl (by decide) ⟨_, _, rfl, rfl, Wq⟩
  · replace Wq := Wq.2 c_1
    refine xe_iload_n dX6_hasLeg_4 rfl ?_
    refine xe_aload_n dX6_hasLeg_5 rfl q_rvO ?_
    refine xe_geti dX6_hasLeg_6 fX6_34 (fun _ _ => rfl) ?_
    refine xe_iconst 1 dX6_hasLeg_9 (by decide) ?_
    refine xe_isub dX6_hasLeg_10 ?_
    refine xe_ic_ge 18 dX6_hasLeg_11 (by decide) (fun c_11 => ?_) (fun c_11 => ?_)
    · replace Wq := Wq.1 c_11
      refine xe_iconst 0 dX6_hasLeg_18 (by decide) ?_
      exact xe_iret .boolean dX6_hasLeg_19 rfl (by decide) ⟨_, _, rfl, rfl, Wq⟩
    · replace Wq := Wq.2 c_11
      refine xe_iconst 1 dX6_hasLeg_14 (by decide) ?_
      refine xe_goto 19 dX6_hasLeg_15 (by decide) ?_
      exact xe_iret .boolean dX6_hasLeg_19 rfl (by decide) ⟨_, _, rfl, rfl, Wq⟩
def wl_X6_isShut_3 (t p : Nat) (post : Int32 → qa → Prop) : Nat → Int32 → Int32 → Int32 → Int32 → qa → Prop
  | 0 => fun _ _ _ _ _ => False
  | n + 1 => fun x1 x2 x3 x4 a => (((a 6 0 8) ≤ x4 → post 0 a) ∧ (¬ (a 6 0 8) ≤ x4 → ((60 ≤ x4 → post 0 a) ∧ (¬ 60 ≤ x4 → vp_in x4 60 ∧ ((¬ (a 28 0 x4.toNatClampNeg) = x1 → (wl_X6_isShut_3 t p post n) x1 x2 x3 (x4 + 1) a) ∧ ((a 28 0 x4.toNatClampNeg) = x1 → vp_in x4 60 ∧ ((x3 < (a 31 0 x4.toNatClampNeg) → (wl_X6_isShut_3 t p post n) x1 x2 x3 (x4 + 1) a) ∧ (¬ x3 < (a 31 0 x4.toNatClampNeg) → vp_in x4 60 ∧ ((x2 < (a 29 0 x4.toNatClampNeg) → (wl_X6_isShut_3 t p post n) x1 x2 x3 (x4 + 1) a) ∧ (¬ x2 < (a 29 0 x4.toNatClampNeg) → vp_in x4 60 ∧ (((a 30 0 x4.toNatClampNeg) < x2 → (wl_X6_isShut_3 t p post n) x1 x2 x3 (x4 + 1) a) ∧ (¬ (a 30 0 x4.toNatClampNeg) < x2 → post 1 a))))))))))))
def wp_X6_isShut (t p : Nat) (x1 : Int32) (x2 : Int32) (x3 : Int32) (a : qa) (post : Int32 → qa → Prop) : Prop := ∃ n_3, wl_X6_isShut_3 t p post n_3 x1 x2 x3 0 a
set_option maxHeartbeats 4000000 in
theorem el_X6_isShut_3 {g : q_G} {s : q_S} {t p : Nat} (hS : q_Sh t p s) {post : Int32 → qa → Prop} : ∀ (n : Nat) (x1 : Int32) (x2 : Int32) (x3 : Int32) (x4 : Int32) (a : qa), wl_X6_isShut_3 t p post n x1 x2 x3 x4 a → q_E g mX6_isShut (q_Rm 1 0 0) (q_kI s post) (0, 0) 3 [some (q_O 6 0), some (q_I x1), some (q_I x2), some (q_I x3), some (q_I x4)] [] (a, s) := by
  intro n
  induction n with
  | zero =>
    intro x1 x2 x3 x4 a Wq
    exact absurd Wq id
  | succ n ih =>
    intro x1 x2 x3 x4 a Wq
    unfold wl_X6_isShut_3 at Wq
    refine xe_iload dX6_isShut_3 rfl ?_
    refine xe_aload_n dX6_isShut_5 rfl q_rvO ?_
    refine xe_geti dX6_isShut_6 fX6_38 (fun _ _ => rfl) ?_
    refine xe_ic_ge 71 dX6_isShut_9 (by decide) (fun c_9 => ?_) (fun c_9 => ?_)
    · replace Wq := Wq.1 c_9
      refine xe_iconst 0 dX6_isShut_71 (by decide) ?_
      exact xe_iret .boolean dX6_isShut_72 rfl (by decide) ⟨_, _, rfl, rfl, Wq⟩
    · replace Wq := Wq.2 c_9
      refine xe_iload dX6_isShut_12 rfl ?_
      refine xe_bipush 60 dX6_isShut_14 (by decide) ?_
      refine xe_ic_ge 71 dX6_isShut_16 (by decide) (fun c_16 => ?_) (fun c_16 => ?_)
      · replace Wq := Wq.1 c_16
        refine xe_iconst 0 dX6_isShut_71 (by decide) ?_
        exact xe_iret .boolean dX6_isShut_72 rfl (by decide) ⟨_, _, rfl, rfl, Wq⟩
      · replace Wq := Wq.2 c_16
        refine xe_aload_n dX6_isShut_19 rfl q_rvO ?_
        refine xe_getr dX6_isShut_20 fX6_22 (fun _ _ => rfl) (q_sg hS rfl) ?_
        refine xe_iload dX6_isShut_23 rfl ?_
        obtain ⟨hj_25, Wq⟩ := Wq
        refine xe_iald dX6_isShut_25 rfl hj_25 ?_
        refine xe_iload_n dX6_isShut_26 rfl ?_
        refine xe_ic_ne 65 dX6_isShut_27 (by decide) (fun c_27 => ?_) (fun c_27 => ?_)
        · replace Wq := Wq.1 c_27
          refine xe_iinc (_ + 1) dX6_isShut_65 (by decide) rfl rfl ?_
          refine xe_goto 3 dX6_isShut_68 (by decide) ?_
          refine q_wk (ls := [some (q_O 6 0), some (q_I x1), some (q_I x2), some (q_I x3), some (q_I (x4 + 1))]) ⟨rfl, ⟨rfl, ⟨rfl, ⟨rfl, ⟨rfl, trivial⟩⟩⟩⟩⟩ ?_
          exact ih _ _ _ _ _ Wq
        · replace Wq := Wq.2 c_27
          refine xe_aload_n dX6_isShut_30 rfl q_rvO ?_
          refine xe_getr dX6_isShut_31 fX6_31 (fun _ _ => rfl) (q_sg hS rfl) ?_
          refine xe_iload dX6_isShut_34 rfl ?_
          obtain ⟨hj_36, Wq⟩ := Wq
          refine xe_iald dX6_isShut_36 rfl hj_36 ?_
          refine xe_iload_n dX6_isShut_37 rfl ?_
          refine xe_ic_gt 65 dX6_isShut_38 (by decide) (fun c_38 => ?_) (fun c_38 => ?_)
          · replace Wq := Wq.1 c_38
            refine xe_iinc (_ + 1) dX6_isShut_65 (by decide) rfl rfl ?_
            refine xe_goto 3 dX6_isShut_68 (by decide) ?_
            refine q_wk (ls := [some (q_O 6 0), some (q_I x1), some (q_I x2), some (q_I x3), some (q_I (x4 + 1))]) ⟨rfl, ⟨rfl, ⟨rfl, ⟨rfl, ⟨rfl, trivial⟩⟩⟩⟩⟩ ?_
            exact ih _ _ _ _ _ Wq
          · replace Wq := Wq.2 c_38
            refine xe_aload_n dX6_isShut_41 rfl q_rvO ?_
            refine xe_getr dX6_isShut_42 fX6_25 (fun _ _ => rfl) (q_sg hS rfl) ?_
            refine xe_iload dX6_isShut_45 rfl ?_
            obtain ⟨hj_47, Wq⟩ := Wq
            refine xe_iald dX6_isShut_47 rfl hj_47 ?_
            refine xe_iload_n dX6_isShut_48 rfl ?_
            refine xe_ic_gt 65 dX6_isShut_49 (by decide) (fun c_49 => ?_) (fun c_49 => ?_)
            · replace Wq := Wq.1 c_49
              refine xe_iinc (_ + 1) dX6_isShut_65 (by decide) rfl rfl ?_
              refine xe_goto 3 dX6_isShut_68 (by decide) ?_
              refine q_wk (ls := [some (q_O 6 0), some (q_I x1), some (q_I x2), some (q_I x3), some (q_I (x4 + 1))]) ⟨rfl, ⟨rfl, ⟨rfl, ⟨rfl, ⟨rfl, trivial⟩⟩⟩⟩⟩ ?_
              exact ih _ _ _ _ _ Wq
            · replace Wq := Wq.2 c_49
              refine xe_iload_n dX6_isShut_52 rfl ?_
              refine xe_aload_n dX6_isShut_53 rfl q_rvO ?_
              refine xe_getr dX6_isShut_54 fX6_28 (fun _ _ => rfl) (q_sg hS rfl) ?_
              refine xe_iload dX6_isShut_57 rfl ?_
              obtain ⟨hj_59, Wq⟩ := Wq
              refine xe_iald dX6_isShut_59 rfl hj_59 ?_
              refine xe_ic_gt 65 dX6_isShut_60 (by decide) (fun c_60 => ?_) (fun c_60 => ?_)
              · replace Wq := Wq.1 c_60
                refine xe_iinc (_ + 1) dX6_isShut_65 (by decide) rfl rfl ?_
                refine xe_goto 3 dX6_isShut_68 (by decide) ?_
                refine q_wk (ls := [some (q_O 6 0), some (q_I x1), some (q_I x2), some (q_I x3), some (q_I (x4 + 1))]) ⟨rfl, ⟨rfl, ⟨rfl, ⟨rfl, ⟨rfl, trivial⟩⟩⟩⟩⟩ ?_
                exact ih _ _ _ _ _ Wq
              · replace Wq := Wq.2 c_60
                refine xe_iconst 1 dX6_isShut_63 (by decide) ?_
                exact xe_iret .boolean dX6_isShut_64 rfl (by decide) ⟨_, _, rfl, rfl, Wq⟩
set_option maxHeartbeats 4000000 in
theorem ct_X6_isShut {g : q_G} {s : q_S} {t p : Nat} (hS : q_Sh t p s) {x1 : Int32} {x2 : Int32} {x3 : Int32} {a : qa} {post : Int32 → qa → Prop} (Wq : wp_X6_isShut t p x1 x2 x3 a post) : q_Ct g mX6_isShut (q_Rm 1 0 0) [q_O 6 0, q_I x1, q_I x2, q_I x3] (a, s) (q_kI s post) := by
  refine q_mk rfl rfl (Nat.le_of_ble_eq_true rfl) (q_cs rfl (q_cs rfl (q_cs rfl (q_cs rfl q_nil)))) (fun hv => ?_)
  unfold wp_X6_isShut at Wq
  refine xe_iconst 0 dX6_isShut_0 (by decide) ?_
  refine xe_istore dX6_isShut_1 (by decide) ?_
  obtain ⟨n_3, Wq⟩ := Wq
  refine q_wk (ls := [some (q_O 6 0), some (q_I x1), some (q_I x2), some (q_I x3), some (q_I 0)]) ⟨rfl, ⟨rfl, ⟨rfl, ⟨rfl, ⟨rfl, trivial⟩⟩⟩⟩⟩ ?_
  exact el_X6_isShut_3 hS n_3 _ _ _ _ _ Wq
def wl_X6_shutLegs_4 (t p : Nat) (post : Int32 → qa → Prop) : Nat → Int32 → Int32 → Int32 → qa → Prop
  | 0 => fun _ _ _ _ => False
  | n + 1 => fun x1 x2 x3 a => (((a 6 0 8) ≤ x3 → post x2 a) ∧ (¬ (a 6 0 8) ≤ x3 → ((60 ≤ x3 → post x2 a) ∧ (¬ 60 ≤ x3 → vp_in x3 60 ∧ ((x1 < (a 29 0 x3.toNatClampNeg) → (wl_X6_shutLegs_4 t p post n) x1 x2 (x3 + 1) a) ∧ (¬ x1 < (a 29 0 x3.toNatClampNeg) → vp_in x3 60 ∧ (((a 30 0 x3.toNatClampNeg) < x1 → (wl_X6_shutLegs_4 t p post n) x1 x2 (x3 + 1) a) ∧ (¬ (a 30 0 x3.toNatClampNeg) < x1 → vp_in x3 60 ∧ ((wl_X6_shutLegs_4 t p post n) x1 (x2 ||| (1 <<< ((a 28 0 x3.toNatClampNeg) &&& 31))) (x3 + 1) a)))))))))
def wp_X6_shutLegs (t p : Nat) (x1 : Int32) (a : qa) (post : Int32 → qa → Prop) : Prop := ∃ n_4, wl_X6_shutLegs_4 t p post n_4 x1 0 0 a
set_option maxHeartbeats 4000000 in
theorem el_X6_shutLegs_4 {g : q_G} {s : q_S} {t p : Nat} (hS : q_Sh t p s) {post : Int32 → qa → Prop} : ∀ (n : Nat) (x1 : Int32) (x2 : Int32) (x3 : Int32) (a : qa), wl_X6_shutLegs_4 t p post n x1 x2 x3 a → q_E g mX6_shutLegs (q_Rm 1 0 0) (q_kI s post) (0, 0) 4 [some (q_O 6 0), some (q_I x1), some (q_I x2), some (q_I x3)] [] (a, s) := by
  intro n
  induction n with
  | zero =>
    intro x1 x2 x3 a Wq
    exact absurd Wq id
  | succ n ih =>
    intro x1 x2 x3 a Wq
    unfold wl_X6_shutLegs_4 at Wq
    refine xe_iload_n dX6_shutLegs_4 rfl ?_
    refine xe_aload_n dX6_shutLegs_5 rfl q_rvO ?_
    refine xe_geti dX6_shutLegs_6 fX6_38 (fun _ _ => rfl) ?_
    refine xe_ic_ge 55 dX6_shutLegs_9 (by decide) (fun c_9 => ?_) (fun c_9 => ?_)
    · replace Wq := Wq.1 c_9
      refine xe_iload_n dX6_shutLegs_55 rfl ?_
      exact xe_iret .int dX6_shutLegs_56 rfl rfl ⟨_, _, rfl, rfl, Wq⟩
    · replace Wq := Wq.2 c_9
      refine xe_iload_n dX6_shutLegs_12 rfl ?_
      refine xe_bipush 60 dX6_shutLegs_13 (by decide) ?_
      refine xe_ic_ge 55 dX6_shutLegs_15 (by decide) (fun c_15 => ?_) (fun c_15 => ?_)
      · replace Wq := Wq.1 c_15
        refine xe_iload_n dX6_shutLegs_55 rfl ?_
        exact xe_iret .int dX6_shutLegs_56 rfl rfl ⟨_, _, rfl, rfl, Wq⟩
      · replace Wq := Wq.2 c_15
        refine xe_aload_n dX6_shutLegs_18 rfl q_rvO ?_
        refine xe_getr dX6_shutLegs_19 fX6_25 (fun _ _ => rfl) (q_sg hS rfl) ?_
        refine xe_iload_n dX6_shutLegs_22 rfl ?_
        obtain ⟨hj_23, Wq⟩ := Wq
        refine xe_iald dX6_shutLegs_23 rfl hj_23 ?_
        refine xe_iload_n dX6_shutLegs_24 rfl ?_
        refine xe_ic_gt 49 dX6_shutLegs_25 (by decide) (fun c_25 => ?_) (fun c_25 => ?_)
        · replace Wq := Wq.1 c_25
          refine xe_iinc (_ + 1) dX6_shutLegs_49 (by decide) rfl rfl ?_
          refine xe_goto 4 dX6_shutLegs_52 (by decide) ?_
          refine q_wk (ls := [some (q_O 6 0), some (q_I x1), some (q_I x2), some (q_I (x3 + 1))]) ⟨rfl, ⟨rfl, ⟨rfl, ⟨rfl, trivial⟩⟩⟩⟩ ?_
          exact ih _ _ _ _ Wq
        · replace Wq := Wq.2 c_25
          refine xe_iload_n dX6_shutLegs_28 rfl ?_
          refine xe_aload_n dX6_shutLegs_29 rfl q_rvO ?_
          refine xe_getr dX6_shutLegs_30 fX6_28 (fun _ _ => rfl) (q_sg hS rfl) ?_
          refine xe_iload_n dX6_shutLegs_33 rfl ?_
          obtain ⟨hj_34, Wq⟩ := Wq
          refine xe_iald dX6_shutLegs_34 rfl hj_34 ?_
          refine xe_ic_gt 49 dX6_shutLegs_35 (by decide) (fun c_35 => ?_) (fun c_35 => ?_)
          · replace Wq := Wq.1 c_35
            refine xe_iinc (_ + 1) dX6_shutLegs_49 (by decide) rfl rfl ?_
            refine xe_goto 4 dX6_shutLegs_52 (by decide) ?_
            refine q_wk (ls := [some (q_O 6 0), some (q_I x1), some (q_I x2), some (q_I (x3 + 1))]) ⟨rfl, ⟨rfl, ⟨rfl, ⟨rfl, trivial⟩⟩⟩⟩ ?_
            exact ih _ _ _ _ Wq
          · replace Wq := Wq.2 c_35
            refine xe_iload_n dX6_shutLegs_38 rfl ?_
            refine xe_iconst 1 dX6_shutLegs_39 (by decide) ?_
            refine xe_aload_n dX6_shutLegs_40 rfl q_rvO ?_
            refine xe_getr dX6_shutLegs_41 fX6_22 (fun _ _ => rfl) (q_sg hS rfl) ?_
            refine xe_iload_n dX6_shutLegs_44 rfl ?_
            obtain ⟨hj_45, Wq⟩ := Wq
            refine xe_iald dX6_shutLegs_45 rfl hj_45 ?_
            refine xe_ishl dX6_shutLegs_46 ?_
            refine xe_ior dX6_shutLegs_47 ?_
            refine xe_istore_n dX6_shutLegs_48 (by decide) ?_
            refine xe_iinc (_ + 1) dX6_shutLegs_49 (by decide) rfl rfl ?_
            refine xe_goto 4 dX6_shutLegs_52 (by decide) ?_
            refine q_wk (ls := [some (q_O 6 0), some (q_I x1), some (q_I (x2 ||| (1 <<< ((a 28 0 x3.toNatClampNeg) &&& 31)))), some (q_I (x3 + 1))]) ⟨rfl, ⟨rfl, ⟨rfl, ⟨rfl, trivial⟩⟩⟩⟩ ?_
            exact ih _ _ _ _ Wq
set_option maxHeartbeats 4000000 in
theorem ct_X6_shutLegs {g : q_G} {s : q_S} {t p : Nat} (hS : q_Sh t p s) {x1 : Int32} {a : qa} {post : Int32 → qa → Prop} (Wq : wp_X6_shutLegs t p x1 a post) : q_Ct g mX6_shutLegs (q_Rm 1 0 0) [q_O 6 0, q_I x1] (a, s) (q_kI s post) := by
  refine q_mk rfl rfl (Nat.le_of_ble_eq_true rfl) (q_cs rfl (q_cs rfl q_nil)) (fun hv => ?_)
  unfold wp_X6_shutLegs at Wq
  refine xe_iconst 0 dX6_shutLegs_0 (by decide) ?_
  refine xe_istore_n dX6_shutLegs_1 (by decide) ?_
  refine xe_iconst 0 dX6_shutLegs_2 (by decide) ?_
  refine xe_istore_n dX6_shutLegs_3 (by decide) ?_
  obtain ⟨n_4, Wq⟩ := Wq
  refine q_wk (ls := [some (q_O 6 0), some (q_I x1), some (q_I 0), some (q_I 0)]) ⟨rfl, ⟨rfl, ⟨rfl, ⟨rfl, trivial⟩⟩⟩⟩ ?_
  exact el_X6_shutLegs_4 hS n_4 _ _ _ _ Wq
def wp_X7_addByte (t p : Nat) (x1 : Int32) (a : qa) (post : qa → Prop) : Prop := ((400 ≤ (a 7 0 1) → post a) ∧ (¬ 400 ≤ (a 7 0 1) → vp_in (a 7 0 1) 400 ∧ post (qs (qs a 32 0 ((a 7 0 1).toNatClampNeg) x1) 7 0 1 ((a 7 0 1) + 1))))
set_option maxHeartbeats 4000000 in
theorem ct_X7_addByte {g : q_G} {s : q_S} {t p : Nat} (hS : q_Sh t p s) {x1 : Int32} {a : qa} {post : qa → Prop} (Wq : wp_X7_addByte t p x1 a post) : q_Ct g mX7_addByte (q_Rm 1 0 0) [q_O 7 0, q_I x1] (a, s) (q_kV s post) := by
  refine q_mk rfl rfl (Nat.le_of_ble_eq_true rfl) (q_cs rfl (q_cs rfl q_nil)) (fun hv => ?_)
  unfold wp_X7_addByte at Wq
  refine xe_aload_n dX7_addByte_0 rfl q_rvO ?_
  refine xe_geti dX7_addByte_1 fX7_15 (fun _ _ => rfl) ?_
  refine xe_sipush 400 dX7_addByte_4 (by decide) ?_
  refine xe_ic_ge 30 dX7_addByte_7 (by decide) (fun c_7 => ?_) (fun c_7 => ?_)
  · replace Wq := Wq.1 c_7
    exact xe_vret dX7_addByte_30 rfl ⟨_, rfl, rfl, Wq⟩
  · replace Wq := Wq.2 c_7
    refine xe_aload_n dX7_addByte_10 rfl q_rvO ?_
    refine xe_getr dX7_addByte_11 fX7_9 (fun _ _ => rfl) (q_sg hS rfl) ?_
    refine xe_aload_n dX7_addByte_14 rfl q_rvO ?_
    refine xe_geti dX7_addByte_15 fX7_15 (fun _ _ => rfl) ?_
    refine xe_iload_n dX7_addByte_18 rfl ?_
    obtain ⟨hj_19, Wq⟩ := Wq
    refine xf_iast dX7_addByte_19 rfl hj_19 ?_
    refine xe_aload_n dX7_addByte_20 rfl q_rvO ?_
    refine xe_dup dX7_addByte_21 rfl ?_
    refine xe_geti dX7_addByte_22 fX7_15 (fun _ _ => rfl) ?_
    refine xe_iconst 1 dX7_addByte_25 (by decide) ?_
    refine xe_iadd dX7_addByte_26 ?_
    refine xf_puti dX7_addByte_27 fX7_15 (fun q hq => Or.inl (by cases hq; rfl)) ⟨rfl, rfl⟩ (fun _ _ => rfl) ?_
    exact xe_vret dX7_addByte_30 rfl ⟨_, rfl, rfl, Wq⟩
def wp_X7_byteAt (t p : Nat) (x1 : Int32) (a : qa) (post : Int32 → qa → Prop) : Prop := ((x1 < 0 → post (-1) a) ∧ (¬ x1 < 0 → (((a 7 0 1) ≤ x1 → post (-1) a) ∧ (¬ (a 7 0 1) ≤ x1 → ((x1 < 400 → vp_in x1 400 ∧ post (a 32 0 x1.toNatClampNeg) a) ∧ (¬ x1 < 400 → post (-1) a))))))
set_option maxHeartbeats 4000000 in
theorem ct_X7_byteAt {g : q_G} {s : q_S} {t p : Nat} (hS : q_Sh t p s) {x1 : Int32} {a : qa} {post : Int32 → qa → Prop} (Wq : wp_X7_byteAt t p x1 a post) : q_Ct g mX7_byteAt (q_Rm 1 0 0) [q_O 7 0, q_I x1] (a, s) (q_kI s post) := by
  refine q_mk rfl rfl (Nat.le_of_ble_eq_true rfl) (q_cs rfl (q_cs rfl q_nil)) (fun hv => ?_)
  unfold wp_X7_byteAt at Wq
  refine xe_iload_n dX7_byteAt_0 rfl ?_
  refine xe_if_lt 19 dX7_byteAt_1 (by decide) (fun c_1 => ?_) (fun c_1 => ?_)
  · replace Wq := Wq.1 c_1
    refine xe_iconst (-1) dX7_byteAt_19 (by decide) ?_
    refine xe_goto 29 dX7_byteAt_20 (by decide) ?_
    exact xe_iret .int dX7_byteAt_29 rfl rfl ⟨_, _, rfl, rfl, Wq⟩
  · replace Wq := Wq.2 c_1
    refine xe_iload_n dX7_byteAt_4 rfl ?_
    refine xe_aload_n dX7_byteAt_5 rfl q_rvO ?_
    refine xe_geti dX7_byteAt_6 fX7_15 (fun _ _ => rfl) ?_
    refine xe_ic_ge 19 dX7_byteAt_9 (by decide) (fun c_9 => ?_) (fun c_9 => ?_)
    · replace Wq := Wq.1 c_9
      refine xe_iconst (-1) dX7_byteAt_19 (by decide) ?_
      refine xe_goto 29 dX7_byteAt_20 (by decide) ?_
      exact xe_iret .int dX7_byteAt_29 rfl rfl ⟨_, _, rfl, rfl, Wq⟩
    · replace Wq := Wq.2 c_9
      refine xe_iload_n dX7_byteAt_12 rfl ?_
      refine xe_sipush 400 dX7_byteAt_13 (by decide) ?_
      refine xe_ic_lt 23 dX7_byteAt_16 (by decide) (fun c_16 => ?_) (fun c_16 => ?_)
      · replace Wq := Wq.1 c_16
        refine xe_aload_n dX7_byteAt_23 rfl q_rvO ?_
        refine xe_getr dX7_byteAt_24 fX7_9 (fun _ _ => rfl) (q_sg hS rfl) ?_
        refine xe_iload_n dX7_byteAt_27 rfl ?_
        obtain ⟨hj_28, Wq⟩ := Wq
        refine xe_iald dX7_byteAt_28 rfl hj_28 ?_
        exact xe_iret .int dX7_byteAt_29 rfl rfl ⟨_, _, rfl, rfl, Wq⟩
      · replace Wq := Wq.2 c_16
        refine xe_iconst (-1) dX7_byteAt_19 (by decide) ?_
        refine xe_goto 29 dX7_byteAt_20 (by decide) ?_
        exact xe_iret .int dX7_byteAt_29 rfl rfl ⟨_, _, rfl, rfl, Wq⟩
def wp_X8_add (t p : Nat) (x1 : Int32) (x2 : Int32) (a : qa) (post : Int32 → qa → Prop) : Prop := ((400 < (a 8 0 4) → post x1 a) ∧ (¬ 400 < (a 8 0 4) → vp_in (a 8 0 4) 401 ∧ vp_in (a 8 0 4) 401 ∧ vp_in (a 8 0 4) 401 ∧ post x1 (qs (qs (qs (qs a 33 0 ((a 8 0 4).toNatClampNeg) x1) 34 0 ((a 8 0 4).toNatClampNeg) (a 8 0 5)) 35 0 ((a 8 0 4).toNatClampNeg) x2) 8 0 4 ((a 8 0 4) + 1))))
set_option maxHeartbeats 4000000 in
theorem ct_X8_add {g : q_G} {s : q_S} {t p : Nat} (hS : q_Sh t p s) {x1 : Int32} {x2 : Int32} {a : qa} {post : Int32 → qa → Prop} (Wq : wp_X8_add t p x1 x2 a post) : q_Ct g mX8_add (q_Rm 1 0 0) [q_O 8 0, q_I x1, q_I x2] (a, s) (q_kI s post) := by
  refine q_mk rfl rfl (Nat.le_of_ble_eq_true rfl) (q_cs rfl (q_cs rfl (q_cs rfl q_nil))) (fun hv => ?_)
  unfold wp_X8_add at Wq
  refine xe_aload_n dX8_add_0 rfl q_rvO ?_
  refine xe_geti dX8_add_1 fX8_21 (fun _ _ => rfl) ?_
  refine xe_sipush 400 dX8_add_4 (by decide) ?_
  refine xe_ic_gt 53 dX8_add_7 (by decide) (fun c_7 => ?_) (fun c_7 => ?_)
  · replace Wq := Wq.1 c_7
    refine xe_iload_n dX8_add_53 rfl ?_
    exact xe_iret .int dX8_add_54 rfl rfl ⟨_, _, rfl, rfl, Wq⟩
  · replace Wq := Wq.2 c_7
    refine xe_aload_n dX8_add_10 rfl q_rvO ?_
    refine xe_getr dX8_add_11 fX8_9 (fun _ _ => rfl) (q_sg hS rfl) ?_
    refine xe_aload_n dX8_add_14 rfl q_rvO ?_
    refine xe_geti dX8_add_15 fX8_21 (fun _ _ => rfl) ?_
    refine xe_iload_n dX8_add_18 rfl ?_
    obtain ⟨hj_19, Wq⟩ := Wq
    refine xf_iast dX8_add_19 rfl hj_19 ?_
    refine xe_aload_n dX8_add_20 rfl q_rvO ?_
    refine xe_getr dX8_add_21 fX8_15 (fun _ _ => rfl) (q_sg hS rfl) ?_
    refine xe_aload_n dX8_add_24 rfl q_rvO ?_
    refine xe_geti dX8_add_25 fX8_21 (fun _ _ => rfl) ?_
    refine xe_aload_n dX8_add_28 rfl q_rvO ?_
    refine xe_geti dX8_add_29 fX8_25 (fun _ _ => rfl) ?_
    obtain ⟨hj_32, Wq⟩ := Wq
    refine xf_iast dX8_add_32 rfl hj_32 ?_
    refine xe_aload_n dX8_add_33 rfl q_rvO ?_
    refine xe_getr dX8_add_34 fX8_18 (fun _ _ => rfl) (q_sg hS rfl) ?_
    refine xe_aload_n dX8_add_37 rfl q_rvO ?_
    refine xe_geti dX8_add_38 fX8_21 (fun _ _ => rfl) ?_
    refine xe_iload_n dX8_add_41 rfl ?_
    obtain ⟨hj_42, Wq⟩ := Wq
    refine xf_iast dX8_add_42 rfl hj_42 ?_
    refine xe_aload_n dX8_add_43 rfl q_rvO ?_
    refine xe_dup dX8_add_44 rfl ?_
    refine xe_geti dX8_add_45 fX8_21 (fun _ _ => rfl) ?_
    refine xe_iconst 1 dX8_add_48 (by decide) ?_
    refine xe_iadd dX8_add_49 ?_
    refine xf_puti dX8_add_50 fX8_21 (fun q hq => Or.inl (by cases hq; rfl)) ⟨rfl, rfl⟩ (fun _ _ => rfl) ?_
    refine xe_iload_n dX8_add_53 rfl ?_
    exact xe_iret .int dX8_add_54 rfl rfl ⟨_, _, rfl, rfl, Wq⟩
def wp_X8_isBlank (t p : Nat) (x0 : Int32) (a : qa) (post : Int32 → qa → Prop) : Prop := ((x0 = 32 → post 1 a) ∧ (¬ x0 = 32 → ((¬ x0 = 10 → post 0 a) ∧ (x0 = 10 → post 1 a))))
set_option maxHeartbeats 4000000 in
theorem ct_X8_isBlank {g : q_G} {s : q_S} {t p : Nat} (hS : q_Sh t p s) {x0 : Int32} {a : qa} {post : Int32 → qa → Prop} (Wq : wp_X8_isBlank t p x0 a post) : q_Ct g mX8_isBlank (q_Rm 1 0 0) [q_I x0] (a, s) (q_kI s post) := by
  refine q_mk rfl rfl (Nat.le_of_ble_eq_true rfl) (q_cs rfl q_nil) (fun hv => ?_)
  unfold wp_X8_isBlank at Wq
  refine xe_iload_n dX8_isBlank_0 rfl ?_
  refine xe_bipush 32 dX8_isBlank_1 (by decide) ?_
  refine xe_ic_eq 12 dX8_isBlank_3 (by decide) (fun c_3 => ?_) (fun c_3 => ?_)
  · replace Wq := Wq.1 c_3
    refine xe_iconst 1 dX8_isBlank_12 (by decide) ?_
    refine xe_goto 17 dX8_isBlank_13 (by decide) ?_
    exact xe_iret .boolean dX8_isBlank_17 rfl (by decide) ⟨_, _, rfl, rfl, Wq⟩
  · replace Wq := Wq.2 c_3
    refine xe_iload_n dX8_isBlank_6 rfl ?_
    refine xe_bipush 10 dX8_isBlank_7 (by decide) ?_
    refine xe_ic_ne 16 dX8_isBlank_9 (by decide) (fun c_9 => ?_) (fun c_9 => ?_)
    · replace Wq := Wq.1 c_9
      refine xe_iconst 0 dX8_isBlank_16 (by decide) ?_
      exact xe_iret .boolean dX8_isBlank_17 rfl (by decide) ⟨_, _, rfl, rfl, Wq⟩
    · replace Wq := Wq.2 c_9
      refine xe_iconst 1 dX8_isBlank_12 (by decide) ?_
      refine xe_goto 17 dX8_isBlank_13 (by decide) ?_
      exact xe_iret .boolean dX8_isBlank_17 rfl (by decide) ⟨_, _, rfl, rfl, Wq⟩
def wp_X8_isDigit (t p : Nat) (x0 : Int32) (a : qa) (post : Int32 → qa → Prop) : Prop := ((x0 < 48 → post 0 a) ∧ (¬ x0 < 48 → ((57 < x0 → post 0 a) ∧ (¬ 57 < x0 → post 1 a))))
set_option maxHeartbeats 4000000 in
theorem ct_X8_isDigit {g : q_G} {s : q_S} {t p : Nat} (hS : q_Sh t p s) {x0 : Int32} {a : qa} {post : Int32 → qa → Prop} (Wq : wp_X8_isDigit t p x0 a post) : q_Ct g mX8_isDigit (q_Rm 1 0 0) [q_I x0] (a, s) (q_kI s post) := by
  refine q_mk rfl rfl (Nat.le_of_ble_eq_true rfl) (q_cs rfl q_nil) (fun hv => ?_)
  unfold wp_X8_isDigit at Wq
  refine xe_iload_n dX8_isDigit_0 rfl ?_
  refine xe_bipush 48 dX8_isDigit_1 (by decide) ?_
  refine xe_ic_lt 16 dX8_isDigit_3 (by decide) (fun c_3 => ?_) (fun c_3 => ?_)
  · replace Wq := Wq.1 c_3
    refine xe_iconst 0 dX8_isDigit_16 (by decide) ?_
    exact xe_iret .boolean dX8_isDigit_17 rfl (by decide) ⟨_, _, rfl, rfl, Wq⟩
  · replace Wq := Wq.2 c_3
    refine xe_iload_n dX8_isDigit_6 rfl ?_
    refine xe_bipush 57 dX8_isDigit_7 (by decide) ?_
    refine xe_ic_gt 16 dX8_isDigit_9 (by decide) (fun c_9 => ?_) (fun c_9 => ?_)
    · replace Wq := Wq.1 c_9
      refine xe_iconst 0 dX8_isDigit_16 (by decide) ?_
      exact xe_iret .boolean dX8_isDigit_17 rfl (by decide) ⟨_, _, rfl, rfl, Wq⟩
    · replace Wq := Wq.2 c_9
      refine xe_iconst 1 dX8_isDigit_12 (by decide) ?_
      refine xe_goto 17 dX8_isDigit_13 (by decide) ?_
      exact xe_iret .boolean dX8_isDigit_17 rfl (by decide) ⟨_, _, rfl, rfl, Wq⟩
def wp_X8_isLetter (t p : Nat) (x0 : Int32) (a : qa) (post : Int32 → qa → Prop) : Prop := ((x0 < 97 → post 0 a) ∧ (¬ x0 < 97 → ((122 < x0 → post 0 a) ∧ (¬ 122 < x0 → post 1 a))))
set_option maxHeartbeats 4000000 in
theorem ct_X8_isLetter {g : q_G} {s : q_S} {t p : Nat} (hS : q_Sh t p s) {x0 : Int32} {a : qa} {post : Int32 → qa → Prop} (Wq : wp_X8_isLetter t p x0 a post) : q_Ct g mX8_isLetter (q_Rm 1 0 0) [q_I x0] (a, s) (q_kI s post) := by
  refine q_mk rfl rfl (Nat.le_of_ble_eq_true rfl) (q_cs rfl q_nil) (fun hv => ?_)
  unfold wp_X8_isLetter at Wq
  refine xe_iload_n dX8_isLetter_0 rfl ?_
  refine xe_bipush 97 dX8_isLetter_1 (by decide) ?_
  refine xe_ic_lt 16 dX8_isLetter_3 (by decide) (fun c_3 => ?_) (fun c_3 => ?_)
  · replace Wq := Wq.1 c_3
    refine xe_iconst 0 dX8_isLetter_16 (by decide) ?_
    exact xe_iret .boolean dX8_isLetter_17 rfl (by decide) ⟨_, _, rfl, rfl, Wq⟩
  · replace Wq := Wq.2 c_3
    refine xe_iload_n dX8_isLetter_6 rfl ?_
    refine xe_bipush 122 dX8_isLetter_7 (by decide) ?_
    refine xe_ic_gt 16 dX8_isLetter_9 (by decide) (fun c_9 => ?_) (fun c_9 => ?_)
    · replace Wq := Wq.1 c_9
      refine xe_iconst 0 dX8_isLetter_16 (by decide) ?_
      exact xe_iret .boolean dX8_isLetter_17 rfl (by decide) ⟨_, _, rfl, rfl, Wq⟩
    · replace Wq := Wq.2 c_9
      refine xe_iconst 1 dX8_isLetter_12 (by decide) ?_
      refine xe_goto 17 dX8_isLetter_13 (by decide) ?_
      exact xe_iret .boolean dX8_isLetter_17 rfl (by decide) ⟨_, _, rfl, rfl, Wq⟩
def wp_X8_signType (t p : Nat) (x0 : Int32) (a : qa) (post : Int32 → qa → Prop) : Prop := ((x0 = 45 → post 9 a) ∧ (x0 = 46 → post 1 a) ∧ (x0 = 47 → post 1 a) ∧ (x0 = 48 → post 1 a) ∧ (x0 = 49 → post 1 a) ∧ (x0 = 50 → post 1 a) ∧ (x0 = 51 → post 1 a) ∧ (x0 = 52 → post 1 a) ∧ (x0 = 53 → post 1 a) ∧ (x0 = 54 → post 1 a) ∧ (x0 = 55 → post 1 a) ∧ (x0 = 56 → post 1 a) ∧ (x0 = 57 → post 1 a) ∧ (x0 = 58 → post 7 a) ∧ (x0 = 59 → post 8 a) ∧ (x0 = 60 → post 6 a) ∧ (x0 = 61 → post 6 a) ∧ (x0 = 62 → post 6 a) ∧ (¬ x0 = 45 → ¬ x0 = 46 → ¬ x0 = 47 → ¬ x0 = 48 → ¬ x0 = 49 → ¬ x0 = 50 → ¬ x0 = 51 → ¬ x0 = 52 → ¬ x0 = 53 → ¬ x0 = 54 → ¬ x0 = 55 → ¬ x0 = 56 → ¬ x0 = 57 → ¬ x0 = 58 → ¬ x0 = 59 → ¬ x0 = 60 → ¬ x0 = 61 → ¬ x0 = 62 → post 1 a))
set_option maxHeartbeats 4000000 in
theorem ct_X8_signType {g : q_G} {s : q_S} {t p : Nat} (hS : q_Sh t p s) {x0 : Int32} {a : qa} {post : Int32 → qa → Prop} (Wq : wp_X8_signType t p x0 a post) : q_Ct g mX8_signType (q_Rm 1 0 0) [q_I x0] (a, s) (q_kI s post) := by
  refine q_mk rfl rfl (Nat.le_of_ble_eq_true rfl) (q_cs rfl q_nil) (fun hv => ?_)
  unfold wp_X8_signType at Wq
  refine xe_iload_n dX8_signType_0 rfl ?_
  by_cases e_1_45 : x0 = 45
  · replace Wq := Wq.1 e_1_45
    have e9 := q_toI e_1_45 (show (45 : Int32).toInt = 45 by decide)
    refine xe_swIn 97 dX8_signType_1 (by omega) (by omega) (by rw [e9]; rfl) (by decide) ?_
    refine xe_bipush 9 dX8_signType_97 (by decide) ?_
    exact xe_iret .int dX8_signType_99 rfl rfl ⟨_, _, rfl, rfl, Wq⟩
  by_cases e_1_46 : x0 = 46
  · replace Wq := Wq.2.1 e_1_46
    have e9 := q_toI e_1_46 (show (46 : Int32).toInt = 46 by decide)
    refine xe_swIn 100 dX8_signType_1 (by omega) (by omega) (by rw [e9]; rfl) (by decide) ?_
    refine xe_iconst 1 dX8_signType_100 (by decide) ?_
    exact xe_iret .int dX8_signType_101 rfl rfl ⟨_, _, rfl, rfl, Wq⟩
  by_cases e_1_47 : x0 = 47
  · replace Wq := Wq.2.2.1 e_1_47
    have e9 := q_toI e_1_47 (show (47 : Int32).toInt = 47 by decide)
    refine xe_swIn 100 dX8_signType_1 (by omega) (by omega) (by rw [e9]; rfl) (by decide) ?_
    refine xe_iconst 1 dX8_signType_100 (by decide) ?_
    exact xe_iret .int dX8_signType_101 rfl rfl ⟨_, _, rfl, rfl, Wq⟩
  by_cases e_1_48 : x0 = 48
  · replace Wq := Wq.2.2.2.1 e_1_48
    have e9 := q_toI e_1_48 (show (48 : Int32).toInt = 48 by decide)
    refine xe_swIn 100 dX8_signType_1 (by omega) (by omega) (by rw [e9]; rfl) (by decide) ?_
    refine xe_iconst 1 dX8_signType_100 (by decide) ?_
    exact xe_iret .int dX8_signType_101 rfl rfl ⟨_, _, rfl, rfl, Wq⟩
  by_cases e_1_49 : x0 = 49
  · replace Wq := Wq.2.2.2.2.1 e_1_49
    have e9 := q_toI e_1_49 (show (49 : Int32).toInt = 49 by decide)
    refine xe_swIn 100 dX8_signType_1 (by omega) (by omega) (by rw [e9]; rfl) (by decide) ?_
    refine xe_iconst 1 dX8_signType_100 (by decide) ?_
    exact xe_iret .int dX8_signType_101 rfl rfl ⟨_, _, rfl, rfl, Wq⟩
  by_cases e_1_50 : x0 = 50
  · replace Wq := Wq.2.2.2.2.2.1 e_1_50
    have e9 := q_toI e_1_50 (show (50 : Int32).toInt = 50 by decide)
    refine xe_swIn 100 dX8_signType_1 (by omega) (by omega) (by rw [e9]; rfl) (by decide) ?_
    refine xe_iconst 1 dX8_signType_100 (by decide) ?_
    exact xe_iret .int dX8_signType_101 rfl rfl ⟨_, _, rfl, rfl, Wq⟩
  by_cases e_1_51 : x0 = 51
  · replace Wq := Wq.2.2.2.2.2.2.1 e_1_51
    have e9 := q_toI e_1_51 (show (51 : Int32).toInt = 51 by decide)
    refine xe_swIn 100 dX8_signType_1 (by omega) (by omega) (by rw [e9]; rfl) (by decide) ?_
    refine xe_iconst 1 dX8_signType_100 (by decide) ?_
    exact xe_iret .int dX8_signType_101 rfl rfl ⟨_, _, rfl, rfl, Wq⟩
  by_cases e_1_52 : x0 = 52
  · replace Wq := Wq.2.2.2.2.2.2.2.1 e_1_52
    have e9 := q_toI e_1_52 (show (52 : Int32).toInt = 52 by decide)
    refine xe_swIn 100 dX8_signType_1 (by omega) (by omega) (by rw [e9]; rfl) (by decide) ?_
    refine xe_iconst 1 dX8_signType_100 (by decide) ?_
    exact xe_iret .int dX8_signType_101 rfl rfl ⟨_, _, rfl, rfl, Wq⟩
  by_cases e_1_53 : x0 = 53
  · replace Wq := Wq.2.2.2.2.2.2.2.2.1 e_1_53
    have e9 := q_toI e_1_53 (show (53 : Int32).toInt = 53 by decide)
    refine xe_swIn 100 dX8_signType_1 (by omega) (by omega) (by rw [e9]; rfl) (by decide) ?_
    refine xe_iconst 1 dX8_signType_100 (by decide) ?_
    exact xe_iret .int dX8_signType_101 rfl rfl ⟨_, _, rfl, rfl, Wq⟩
  by_cases e_1_54 : x0 = 54
  · replace Wq := Wq.2.2.2.2.2.2.2.2.2.1 e_1_54
    have e9 := q_toI e_1_54 (show (54 : Int32).toInt = 54 by decide)
    refine xe_swIn 100 dX8_signType_1 (by omega) (by omega) (by rw [e9]; rfl) (by decide) ?_
    refine xe_iconst 1 dX8_signType_100 (by decide) ?_
    exact xe_iret .int dX8_signType_101 rfl rfl ⟨_, _, rfl, rfl, Wq⟩
  by_cases e_1_55 : x0 = 55
  · replace Wq := Wq.2.2.2.2.2.2.2.2.2.2.1 e_1_55
    have e9 := q_toI e_1_55 (show (55 : Int32).toInt = 55 by decide)
    refine xe_swIn 100 dX8_signType_1 (by omega) (by omega) (by rw [e9]; rfl) (by decide) ?_
    refine xe_iconst 1 dX8_signType_100 (by decide) ?_
    exact xe_iret .int dX8_signType_101 rfl rfl ⟨_, _, rfl, rfl, Wq⟩
  by_cases e_1_56 : x0 = 56
  · replace Wq := Wq.2.2.2.2.2.2.2.2.2.2.2.1 e_1_56
    have e9 := q_toI e_1_56 (show (56 : Int32).toInt = 56 by decide)
    refine xe_swIn 100 dX8_signType_1 (by omega) (by omega) (by rw [e9]; rfl) (by decide) ?_
    refine xe_iconst 1 dX8_signType_100 (by decide) ?_
    exact xe_iret .int dX8_signType_101 rfl rfl ⟨_, _, rfl, rfl, Wq⟩
  by_cases e_1_57 : x0 = 57
  · replace Wq := Wq.2.2.2.2.2.2.2.2.2.2.2.2.1 e_1_57
    have e9 := q_toI e_1_57 (show (57 : Int32).toInt = 57 by decide)
    refine xe_swIn 100 dX8_signType_1 (by omega) (by omega) (by rw [e9]; rfl) (by decide) ?_
    refine xe_iconst 1 dX8_signType_100 (by decide) ?_
    exact xe_iret .int dX8_signType_101 rfl rfl ⟨_, _, rfl, rfl, Wq⟩
  by_cases e_1_58 : x0 = 58
  · replace Wq := Wq.2.2.2.2.2.2.2.2.2.2.2.2.2.1 e_1_58
    have e9 := q_toI e_1_58 (show (58 : Int32).toInt = 58 by decide)
    refine xe_swIn 91 dX8_signType_1 (by omega) (by omega) (by rw [e9]; rfl) (by decide) ?_
    refine xe_bipush 7 dX8_signType_91 (by decide) ?_
    exact xe_iret .int dX8_signType_93 rfl rfl ⟨_, _, rfl, rfl, Wq⟩
  by_cases e_1_59 : x0 = 59
  · replace Wq := Wq.2.2.2.2.2.2.2.2.2.2.2.2.2.2.1 e_1_59
    have e9 := q_toI e_1_59 (show (59 : Int32).toInt = 59 by decide)
    refine xe_swIn 94 dX8_signType_1 (by omega) (by omega) (by rw [e9]; rfl) (by decide) ?_
    refine xe_bipush 8 dX8_signType_94 (by decide) ?_
    exact xe_iret .int dX8_signType_96 rfl rfl ⟨_, _, rfl, rfl, Wq⟩
  by_cases e_1_60 : x0 = 60
  · replace Wq := Wq.2.2.2.2.2.2.2.2.2.2.2.2.2.2.2.1 e_1_60
    have e9 := q_toI e_1_60 (show (60 : Int32).toInt = 60 by decide)
    refine xe_swIn 88 dX8_signType_1 (by omega) (by omega) (by rw [e9]; rfl) (by decide) ?_
    refine xe_bipush 6 dX8_signType_88 (by decide) ?_
    exact xe_iret .int dX8_signType_90 rfl rfl ⟨_, _, rfl, rfl, Wq⟩
  by_cases e_1_61 : x0 = 61
  · replace Wq := Wq.2.2.2.2.2.2.2.2.2.2.2.2.2.2.2.2.1 e_1_61
    have e9 := q_toI e_1_61 (show (61 : Int32).toInt = 61 by decide)
    refine xe_swIn 88 dX8_signType_1 (by omega) (by omega) (by rw [e9]; rfl) (by decide) ?_
    refine xe_bipush 6 dX8_signType_88 (by decide) ?_
    exact xe_iret .int dX8_signType_90 rfl rfl ⟨_, _, rfl, rfl, Wq⟩
  by_cases e_1_62 : x0 = 62
  · replace Wq := Wq.2.2.2.2.2.2.2.2.2.2.2.2.2.2.2.2.2.1 e_1_62
    have e9 := q_toI e_1_62 (show (62 : Int32).toInt = 62 by decide)
    refine xe_swIn 88 dX8_signType_1 (by omega) (by omega) (by rw [e9]; rfl) (by decide) ?_
    refine xe_bipush 6 dX8_signType_88 (by decide) ?_
    exact xe_iret .int dX8_signType_90 rfl rfl ⟨_, _, rfl, rfl, Wq⟩
  replace Wq := Wq.2.2.2.2.2.2.2.2.2.2.2.2.2.2.2.2.2.2 e_1_45 e_1_46 e_1_47 e_1_48 e_1_49 e_1_50 e_1_51 e_1_52 e_1_53 e_1_54 e_1_55 e_1_56 e_1_57 e_1_58 e_1_59 e_1_60 e_1_61 e_1_62
  have z_0 := lv_neT e_1_45 (show (45 : Int32).toInt = 45 by decide)
  have z_1 := lv_neT e_1_46 (show (46 : Int32).toInt = 46 by decide)
  have z_2 := lv_neT e_1_47 (show (47 : Int32).toInt = 47 by decide)
  have z_3 := lv_neT e_1_48 (show (48 : Int32).toInt = 48 by decide)
  have z_4 := lv_neT e_1_49 (show (49 : Int32).toInt = 49 by decide)
  have z_5 := lv_neT e_1_50 (show (50 : Int32).toInt = 50 by decide)
  have z_6 := lv_neT e_1_51 (show (51 : Int32).toInt = 51 by decide)
  have z_7 := lv_neT e_1_52 (show (52 : Int32).toInt = 52 by decide)
  have z_8 := lv_neT e_1_53 (show (53 : Int32).toInt = 53 by decide)
  have z_9 := lv_neT e_1_54 (show (54 : Int32).toInt = 54 by decide)
  have z_10 := lv_neT e_1_55 (show (55 : Int32).toInt = 55 by decide)
  have z_11 := lv_neT e_1_56 (show (56 : Int32).toInt = 56 by decide)
  have z_12 := lv_neT e_1_57 (show (57 : Int32).toInt = 57 by decide)
  have z_13 := lv_neT e_1_58 (show (58 : Int32).toInt = 58 by decide)
  have z_14 := lv_neT e_1_59 (show (59 : Int32).toInt = 59 by decide)
  have z_15 := lv_neT e_1_60 (show (60 : Int32).toInt = 60 by decide)
  have z_16 := lv_neT e_1_61 (show (61 : Int32).toInt = 61 by decide)
  have z_17 := lv_neT e_1_62 (show (62 : Int32).toInt = 62 by decide)
  refine xe_swOut 100 dX8_signType_1 (by omega) (by decide) ?_
  refine xe_iconst 1 dX8_signType_100 (by decide) ?_
  exact xe_iret .int dX8_signType_101 rfl rfl ⟨_, _, rfl, rfl, Wq⟩
def wp_X5_take (t p : Nat) (x1 : Int32) (a : qa) (post : Int32 → qa → Prop) : Prop := (((a 5 0 2) = x1 → wp_X5_moveTo t p ((a 5 0 1) + 1) a (fun a21 => post 1 a21)) ∧ (¬ (a 5 0 2) = x1 → wp_X5_fail t p 1 a (fun r10 a10 => q_isb r10 ∧ post r10 a10)))
set_option maxHeartbeats 4000000 in
theorem ct_X5_take {g : q_G} {s : q_S} {t p : Nat} (hS : q_Sh t p s) {x1 : Int32} {a : qa} {post : Int32 → qa → Prop} (Wq : wp_X5_take t p x1 a post) : q_Ct g mX5_take (q_Rm 2 0 0) [q_O 5 0, q_I x1] (a, s) (q_kI s post) := by
  refine q_mk rfl rfl (Nat.le_of_ble_eq_true rfl) (q_cs rfl (q_cs rfl q_nil)) (fun hv => ?_)
  unfold wp_X5_take at Wq
  refine xe_aload_n dX5_take_0 rfl q_rvO ?_
  refine xe_geti dX5_take_1 fX5_15 (fun _ _ => rfl) ?_
  refine xe_iload_n dX5_take_4 rfl ?_
  refine xe_ic_eq 14 dX5_take_5 (by decide) (fun c_5 => ?_) (fun c_5 => ?_)
  · replace Wq := Wq.1 c_5
    refine xe_aload_n dX5_take_14 rfl q_rvO ?_
    refine xe_aload_n dX5_take_15 rfl q_rvO ?_
    refine xe_geti dX5_take_16 fX5_9 (fun _ _ => rfl) ?_
    refine xe_iconst 1 dX5_take_19 (by decide) ?_
    refine xe_iadd dX5_take_20 ?_
    refine xe_cv (y' := mX5_moveTo) dX5_take_21 (Or.inl lX5_44) tX5_moveTo rfl rfl (ct_X5_moveTo hS Wq) rfl rfl (Nat.le_of_ble_eq_true rfl) ⟨Nat.le_of_ble_eq_true rfl, Nat.le_of_ble_eq_true rfl⟩ ⟨Nat.le_of_ble_eq_true rfl, Nat.le_of_ble_eq_true rfl⟩ (fun v1 h1 hl1 hk1 hm1 => ?_)
    obtain ⟨a21, rfl, rfl, Wq⟩ := hk1
    refine xe_iconst 1 dX5_take_24 (by decide) ?_
    exact xe_iret .boolean dX5_take_25 rfl (by decide) ⟨_, _, rfl, rfl, Wq⟩
  · replace Wq := Wq.2 c_5
    refine xe_aload_n dX5_take_8 rfl q_rvO ?_
    refine xe_iconst 1 dX5_take_9 (by decide) ?_
    refine xe_cv (y' := mX5_fail) dX5_take_10 (Or.inl lX5_52) tX5_fail rfl rfl (ct_X5_fail hS Wq) rfl rfl (Nat.le_of_ble_eq_true rfl) ⟨Nat.le_of_ble_eq_true rfl, Nat.le_of_ble_eq_true rfl⟩ ⟨Nat.le_of_ble_eq_true rfl, Nat.le_of_ble_eq_true rfl⟩ (fun v1 h1 hl1 hk1 hm1 => ?_)
    obtain ⟨r10, a10, rfl, rfl, Wq⟩ := hk1
    obtain ⟨hj_13, Wq⟩ := Wq
    exact xe_iret .boolean dX5_take_13 rfl (q_bn2 hj_13).1 ⟨_, _, rfl, rfl, Wq⟩
def wp_X6_addTelling (t p : Nat) (x1 : Int32) (x2 : Int32) (x3 : Int32) (x4 : Int32) (a : qa) (post : Int32 → qa → Prop) : Prop := wp_X6_hasLeg t p x1 a (fun r2 a2 => ((r2 = 0 → post (-1) a2) ∧ (¬ r2 = 0 → wp_X10_isHour t p x2 a2 (fun r9 a9 => ((r9 = 0 → post (-1) a9) ∧ (¬ r9 = 0 → wp_X10_isHour t p x3 a9 (fun r16 a16 => ((r16 = 0 → post (-1) a16) ∧ (¬ r16 = 0 → ((x3 < x2 → post (-1) a16) ∧ (¬ x3 < x2 → (((a16 6 0 8) < 60 → vp_in (a16 6 0 8) 60 ∧ vp_in (a16 6 0 8) 60 ∧ vp_in (a16 6 0 8) 60 ∧ vp_in (a16 6 0 8) 60 ∧ post (((a16 6 0 8) + 1) - 1) (qs (qs (qs (qs (qs a16 28 0 ((a16 6 0 8).toNatClampNeg) x1) 29 0 ((a16 6 0 8).toNatClampNeg) x2) 30 0 ((a16 6 0 8).toNatClampNeg) x3) 31 0 ((a16 6 0 8).toNatClampNeg) x4) 6 0 8 ((a16 6 0 8) + 1))) ∧ (¬ (a16 6 0 8) < 60 → post (-1) a16)))))))))))))
set_option maxHeartbeats 4000000 in
theorem ct_X6_addTelling {g : q_G} {s : q_S} {t p : Nat} (hS : q_Sh t p s) {x1 : Int32} {x2 : Int32} {x3 : Int32} {x4 : Int32} {a : qa} {post : Int32 → qa → Prop} (Wq : wp_X6_addTelling t p x1 x2 x3 x4 a post) : q_Ct g mX6_addTelling (q_Rm 2 0 0) [q_O 6 0, q_I x1, q_I x2, q_I x3, q_I x4] (a, s) (q_kI s post) := by
  refine q_mk rfl rfl (Nat.le_of_ble_eq_true rfl) (q_cs rfl (q_cs rfl (q_cs rfl (q_cs rfl (q_cs rfl q_nil))))) (fun hv => ?_)
  unfold wp_X6_addTelling at Wq
  refine xe_aload_n dX6_addTelling_0 rfl q_rvO ?_
  refine xe_iload_n dX6_addTelling_1 rfl ?_
  refine xe_cv (y' := mX6_hasLeg) dX6_addTelling_2 (Or.inl lX6_41) tX6_hasLeg rfl rfl (ct_X6_hasLeg hS Wq) rfl rfl (Nat.le_of_ble_eq_true rfl) ⟨Nat.le_of_ble_eq_true rfl, Nat.le_of_ble_eq_true rfl⟩ ⟨Nat.le_of_ble_eq_true rfl, Nat.le_of_ble_eq_true rfl⟩ (fun v1 h1 hl1 hk1 hm1 => ?_)
  obtain ⟨r2, a2, rfl, rfl, Wq⟩ := hk1
  refine xe_if_eq 36 dX6_addTelling_5 (by decide) (fun c_5 => ?_) (fun c_5 => ?_)
  · replace Wq := Wq.1 c_5
    refine xe_iconst (-1) dX6_addTelling_36 (by decide) ?_
    exact xe_iret .int dX6_addTelling_37 rfl rfl ⟨_, _, rfl, rfl, Wq⟩
  · replace Wq := Wq.2 c_5
    refine xe_iload_n dX6_addTelling_8 rfl ?_
    refine xe_cs (y' := mX10_isHour) dX6_addTelling_9 (Or.inr ⟨_, lX6_45⟩) tX10_isHour (ct_X10_isHour hS Wq) rfl rfl (Nat.le_of_ble_eq_true rfl) ⟨Nat.le_of_ble_eq_true rfl, Nat.le_of_ble_eq_true rfl⟩ ⟨Nat.le_of_ble_eq_true rfl, Nat.le_of_ble_eq_true rfl⟩ (fun v1 h1 hl1 hk1 hm1 => ?_)
    obtain ⟨r9, a9, rfl, rfl, Wq⟩ := hk1
    refine xe_if_eq 36 dX6_addTelling_12 (by decide) (fun c_12 => ?_) (fun c_12 => ?_)
    · replace Wq := Wq.1 c_12
      refine xe_iconst (-1) dX6_addTelling_36 (by decide) ?_
      exact xe_iret .int dX6_addTelling_37 rfl rfl ⟨_, _, rfl, rfl, Wq⟩
    · replace Wq := Wq.2 c_12
      refine xe_iload_n dX6_addTelling_15 rfl ?_
      refine xe_cs (y' := mX10_isHour) dX6_addTelling_16 (Or.inr ⟨_, lX6_45⟩) tX10_isHour (ct_X10_isHour hS Wq) rfl rfl (Nat.le_of_ble_eq_true rfl) ⟨Nat.le_of_ble_eq_true rfl, Nat.le_of_ble_eq_true rfl⟩ ⟨Nat.le_of_ble_eq_true rfl, Nat.le_of_ble_eq_true rfl⟩ (fun v1 h1 hl1 hk1 hm1 => ?_)
      obtain ⟨r16, a16, rfl, rfl, Wq⟩ := hk1
      refine xe_if_eq 36 dX6_addTelling_19 (by decide) (fun c_19 => ?_) (fun c_19 => ?_)
      · replace Wq := Wq.1 c_19
        refine xe_iconst (-1) dX6_addTelling_36 (by decide) ?_
        exact xe_iret .int dX6_addTelling_37 rfl rfl ⟨_, _, rfl, rfl, Wq⟩
      · replace Wq := Wq.2 c_19
        refine xe_iload_n dX6_addTelling_22 rfl ?_
        refine xe_iload_n dX6_addTelling_23 rfl ?_
        refine xe_ic_gt 36 dX6_addTelling_24 (by decide) (fun c_24 => ?_) (fun c_24 => ?_)
        · replace Wq := Wq.1 c_24
          refine xe_iconst (-1) dX6_addTelling_36 (by decide) ?_
          exact xe_iret .int dX6_addTelling_37 rfl rfl ⟨_, _, rfl, rfl, Wq⟩
        · replace Wq := Wq.2 c_24
          refine xe_aload_n dX6_addTelling_27 rfl q_rvO ?_
          refine xe_geti dX6_addTelling_28 fX6_38 (fun _ _ => rfl) ?_
          refine xe_bipush 60 dX6_addTelling_31 (by decide) ?_
          refine xe_ic_lt 38 dX6_addTelling_33 (by decide) (fun c_33 => ?_) (fun c_33 => ?_)
          · replace Wq := Wq.1 c_33
            refine xe_aload_n dX6_addTelling_38 rfl q_rvO ?_
            refine xe_getr dX6_addTelling_39 fX6_22 (fun _ _ => rfl) (q_sg hS rfl) ?_
            refine xe_aload_n dX6_addTelling_42 rfl q_rvO ?_
            refine xe_geti dX6_addTelling_43 fX6_38 (fun _ _ => rfl) ?_
            refine xe_iload_n dX6_addTelling_46 rfl ?_
            obtain ⟨hj_47, Wq⟩ := Wq
            refine xf_iast dX6_addTelling_47 rfl hj_47 ?_
            refine xe_aload_n dX6_addTelling_48 rfl q_rvO ?_
            refine xe_getr dX6_addTelling_49 fX6_25 (fun _ _ => rfl) (q_sg hS rfl) ?_
            refine xe_aload_n dX6_addTelling_52 rfl q_rvO ?_
            refine xe_geti dX6_addTelling_53 fX6_38 (fun _ _ => rfl) ?_
            refine xe_iload_n dX6_addTelling_56 rfl ?_
            obtain ⟨hj_57, Wq⟩ := Wq
            refine xf_iast dX6_addTelling_57 rfl hj_57 ?_
            refine xe_aload_n dX6_addTelling_58 rfl q_rvO ?_
            refine xe_getr dX6_addTelling_59 fX6_28 (fun _ _ => rfl) (q_sg hS rfl) ?_
            refine xe_aload_n dX6_addTelling_62 rfl q_rvO ?_
            refine xe_geti dX6_addTelling_63 fX6_38 (fun _ _ => rfl) ?_
            refine xe_iload_n dX6_addTelling_66 rfl ?_
            obtain ⟨hj_67, Wq⟩ := Wq
            refine xf_iast dX6_addTelling_67 rfl hj_67 ?_
            refine xe_aload_n dX6_addTelling_68 rfl q_rvO ?_
            refine xe_getr dX6_addTelling_69 fX6_31 (fun _ _ => rfl) (q_sg hS rfl) ?_
            refine xe_aload_n dX6_addTelling_72 rfl q_rvO ?_
            refine xe_geti dX6_addTelling_73 fX6_38 (fun _ _ => rfl) ?_
            refine xe_iload dX6_addTelling_76 rfl ?_
            obtain ⟨hj_78, Wq⟩ := Wq
            refine xf_iast dX6_addTelling_78 rfl hj_78 ?_
            refine xe_aload_n dX6_addTelling_79 rfl q_rvO ?_
            refine xe_dup dX6_addTelling_80 rfl ?_
            refine xe_geti dX6_addTelling_81 fX6_38 (fun _ _ => rfl) ?_
            refine xe_iconst 1 dX6_addTelling_84 (by decide) ?_
            refine xe_iadd dX6_addTelling_85 ?_
            refine xf_puti dX6_addTelling_86 fX6_38 (fun q hq => Or.inl (by cases hq; rfl)) ⟨rfl, rfl⟩ (fun _ _ => rfl) ?_
            refine xe_aload_n dX6_addTelling_89 rfl q_rvO ?_
            refine xe_geti dX6_addTelling_90 fX6_38 (fun _ _ => rfl) ?_
            refine xe_iconst 1 dX6_addTelling_93 (by decide) ?_
            refine xe_isub dX6_addTelling_94 ?_
            exact xe_iret .int dX6_addTelling_95 rfl rfl ⟨_, _, rfl, rfl, Wq⟩
          · replace Wq := Wq.2 c_33
            refine xe_iconst (-1) dX6_addTelling_36 (by decide) ?_
            exact xe_iret .int dX6_addTelling_37 rfl rfl ⟨_, _, rfl, rfl, Wq⟩
def wp_X6_climbsOf (t p : Nat) (x1 : Int32) (a : qa) (post : Int32 → qa → Prop) : Prop := wp_X6_hasLeg t p x1 a (fun r2 a2 => ((r2 = 0 → post 0 a2) ∧ (¬ r2 = 0 → vp_in x1 6 ∧ post (a2 26 0 x1.toNatClampNeg) a2)))
set_option maxHeartbeats 4000000 in
theorem ct_X6_climbsOf {g : q_G} {s : q_S} {t p : Nat} (hS : q_Sh t p s) {x1 : Int32} {a : qa} {post : Int32 → qa → Prop} (Wq : wp_X6_climbsOf t p x1 a post) : q_Ct g mX6_climbsOf (q_Rm 2 0 0) [q_O 6 0, q_I x1] (a, s) (q_kI s post) := by
  refine q_mk rfl rfl (Nat.le_of_ble_eq_true rfl) (q_cs rfl (q_cs rfl q_nil)) (fun hv => ?_)
  unfold wp_X6_climbsOf at Wq
  refine xe_aload_n dX6_climbsOf_0 rfl q_rvO ?_
  refine xe_iload_n dX6_climbsOf_1 rfl ?_
  refine xe_cv (y' := mX6_hasLeg) dX6_climbsOf_2 (Or.inl lX6_41) tX6_hasLeg rfl rfl (ct_X6_hasLeg hS Wq) rfl rfl (Nat.le_of_ble_eq_true rfl) ⟨Nat.le_of_ble_eq_true rfl, Nat.le_of_ble_eq_true rfl⟩ ⟨Nat.le_of_ble_eq_true rfl, Nat.le_of_ble_eq_true rfl⟩ (fun v1 h1 hl1 hk1 hm1 => ?_)
  obtain ⟨r2, a2, rfl, rfl, Wq⟩ := hk1
  refine xe_if_eq 17 dX6_climbsOf_5 (by decide) (fun c_5 => ?_) (fun c_5 => ?_)
  · replace Wq := Wq.1 c_5
    refine xe_iconst 0 dX6_climbsOf_17 (by decide) ?_
    exact xe_iret .int dX6_climbsOf_18 rfl rfl ⟨_, _, rfl, rfl, Wq⟩
  · replace Wq := Wq.2 c_5
    refine xe_aload_n dX6_climbsOf_8 rfl q_rvO ?_
    refine xe_getr dX6_climbsOf_9 fX6_15 (fun _ _ => rfl) (q_sg hS rfl) ?_
    refine xe_iload_n dX6_climbsOf_12 rfl ?_
    obtain ⟨hj_13, Wq⟩ := Wq
    refine xe_iald dX6_climbsOf_13 rfl hj_13 ?_
    refine xe_goto 18 dX6_climbsOf_14 (by decide) ?_
    exact xe_iret .int dX6_climbsOf_18 rfl rfl ⟨_, _, rfl, rfl, Wq⟩
def wp_X6_hoursOf (t p : Nat) (x1 : Int32) (a : qa) (post : Int32 → qa → Prop) : Prop := wp_X6_hasLeg t p x1 a (fun r2 a2 => ((r2 = 0 → post 0 a2) ∧ (¬ r2 = 0 → vp_in x1 6 ∧ post (a2 25 0 x1.toNatClampNeg) a2)))
set_option maxHeartbeats 4000000 in
theorem ct_X6_hoursOf {g : q_G} {s : q_S} {t p : Nat} (hS : q_Sh t p s) {x1 : Int32} {a : qa} {post : Int32 → qa → Prop} (Wq : wp_X6_hoursOf t p x1 a post) : q_Ct g mX6_hoursOf (q_Rm 2 0 0) [q_O 6 0, q_I x1] (a, s) (q_kI s post) := by
  refine q_mk rfl rfl (Nat.le_of_ble_eq_true rfl) (q_cs rfl (q_cs rfl q_nil)) (fun hv => ?_)
  unfold wp_X6_hoursOf at Wq
  refine xe_aload_n dX6_hoursOf_0 rfl q_rvO ?_
  refine xe_iload_n dX6_hoursOf_1 rfl ?_
  refine xe_cv (y' := mX6_hasLeg) dX6_hoursOf_2 (Or.inl lX6_41) tX6_hasLeg rfl rfl (ct_X6_hasLeg hS Wq) rfl rfl (Nat.le_of_ble_eq_true rfl) ⟨Nat.le_of_ble_eq_true rfl, Nat.le_of_ble_eq_true rfl⟩ ⟨Nat.le_of_ble_eq_true rfl, Nat.le_of_ble_eq_true rfl⟩ (fun v1 h1 hl1 hk1 hm1 => ?_)
  obtain ⟨r2, a2, rfl, rfl, Wq⟩ := hk1
  refine xe_if_eq 17 dX6_hoursOf_5 (by decide) (fun c_5 => ?_) (fun c_5 => ?_)
  · replace Wq := Wq.1 c_5
    refine xe_iconst 0 dX6_hoursOf_17 (by decide) ?_
    exact xe_iret .int dX6_hoursOf_18 rfl rfl ⟨_, _, rfl, rfl, Wq⟩
  · replace Wq := Wq.2 c_5
    refine xe_aload_n dX6_hoursOf_8 rfl q_rvO ?_
    refine xe_getr dX6_hoursOf_9 fX6_9 (fun _ _ => rfl) (q_sg hS rfl) ?_
    refine xe_iload_n dX6_hoursOf_12 rfl ?_
    obtain ⟨hj_13, Wq⟩ := Wq
    refine xe_iald dX6_hoursOf_13 rfl hj_13 ?_
    refine xe_goto 18 dX6_hoursOf_14 (by decide) ?_
    exact xe_iret .int dX6_hoursOf_18 rfl rfl ⟨_, _, rfl, rfl, Wq⟩
def wp_X6_isLedge (t p : Nat) (x1 : Int32) (a : qa) (post : Int32 → qa → Prop) : Prop := wp_X6_hasLeg t p x1 a (fun r2 a2 => ((r2 = 0 → post 0 a2) ∧ (¬ r2 = 0 → vp_in x1 6 ∧ (((a2 27 0 x1.toNatClampNeg) = 0 → post 0 a2) ∧ (¬ (a2 27 0 x1.toNatClampNeg) = 0 → post 1 a2)))))
set_option maxHeartbeats 4000000 in
theorem ct_X6_isLedge {g : q_G} {s : q_S} {t p : Nat} (hS : q_Sh t p s) {x1 : Int32} {a : qa} {post : Int32 → qa → Prop} (Wq : wp_X6_isLedge t p x1 a post) : q_Ct g mX6_isLedge (q_Rm 2 0 0) [q_O 6 0, q_I x1] (a, s) (q_kI s post) := by
  refine q_mk rfl rfl (Nat.le_of_ble_eq_true rfl) (q_cs rfl (q_cs rfl q_nil)) (fun hv => ?_)
  unfold wp_X6_isLedge at Wq
  refine xe_aload_n dX6_isLedge_0 rfl q_rvO ?_
  refine xe_iload_n dX6_isLedge_1 rfl ?_
  refine xe_cv (y' := mX6_hasLeg) dX6_isLedge_2 (Or.inl lX6_41) tX6_hasLeg rfl rfl (ct_X6_hasLeg hS Wq) rfl rfl (Nat.le_of_ble_eq_true rfl) ⟨Nat.le_of_ble_eq_true rfl, Nat.le_of_ble_eq_true rfl⟩ ⟨Nat.le_of_ble_eq_true rfl, Nat.le_of_ble_eq_true rfl⟩ (fun v1 h1 hl1 hk1 hm1 => ?_)
  obtain ⟨r2, a2, rfl, rfl, Wq⟩ := hk1
  refine xe_if_eq 21 dX6_isLedge_5 (by decide) (fun c_5 => ?_) (fun c_5 => ?_)
  · replace Wq := Wq.1 c_5
    refine xe_iconst 0 dX6_isLedge_21 (by decide) ?_
    exact xe_iret .boolean dX6_isLedge_22 rfl (by decide) ⟨_, _, rfl, rfl, Wq⟩
  · replace Wq := Wq.2 c_5
    refine xe_aload_n dX6_isLedge_8 rfl q_rvO ?_
    refine xe_getr dX6_isLedge_9 fX6_18 (fun _ _ => rfl) (q_sg hS rfl) ?_
    refine xe_iload_n dX6_isLedge_12 rfl ?_
    obtain ⟨hj_13, Wq⟩ := Wq
    refine xe_zald dX6_isLedge_13 rfl hj_13 ?_
    refine xe_if_eq 21 dX6_isLedge_14 (by decide) (fun c_14 => ?_) (fun c_14 => ?_)
    · replace Wq := Wq.1 c_14
      refine xe_iconst 0 dX6_isLedge_21 (by decide) ?_
      exact xe_iret .boolean dX6_isLedge_22 rfl (by decide) ⟨_, _, rfl, rfl, Wq⟩
    · replace Wq := Wq.2 c_14
      refine xe_iconst 1 dX6_isLedge_17 (by decide) ?_
      refine xe_goto 22 dX6_isLedge_18 (by decide) ?_
      exact xe_iret .boolean dX6_isLedge_22 rfl (by decide) ⟨_, _, rfl, rfl, Wq⟩
def wp_X7_addNumber (t p : Nat) (x1 : Int32) (a : qa) (post : qa → Prop) : Prop := wp_X7_addByte t p (((x1).toUInt32 >>> ((24 : Int32).toUInt32 &&& Int32.toUInt32 31)).toInt32) a (fun a5 => wp_X7_addByte t p ((((x1).toUInt32 >>> ((16 : Int32).toUInt32 &&& Int32.toUInt32 31)).toInt32) &&& 255) a5 (fun a17 => wp_X7_addByte t p ((((x1).toUInt32 >>> ((8 : Int32).toUInt32 &&& Int32.toUInt32 31)).toInt32) &&& 255) a17 (fun a29 => wp_X7_addByte t p (x1 &&& 255) a29 (fun a38 => post a38))))
set_option maxHeartbeats 4000000 in
theorem ct_X7_addNumber {g : q_G} {s : q_S} {t p : Nat} (hS : q_Sh t p s) {x1 : Int32} {a : qa} {post : qa → Prop} (Wq : wp_X7_addNumber t p x1 a post) : q_Ct g mX7_addNumber (q_Rm 2 0 0) [q_O 7 0, q_I x1] (a, s) (q_kV s post) := by
  refine q_mk rfl rfl (Nat.le_of_ble_eq_true rfl) (q_cs rfl (q_cs rfl q_nil)) (fun hv => ?_)
  unfold wp_X7_addNumber at Wq
  refine xe_aload_n dX7_addNumber_0 rfl q_rvO ?_
  refine xe_iload_n dX7_addNumber_1 rfl ?_
  refine xe_bipush 24 dX7_addNumber_2 (by decide) ?_
  refine xe_iushr dX7_addNumber_4 ?_
  refine xe_cv (y' := mX7_addByte) dX7_addNumber_5 (Or.inl lX7_19) tX7_addByte rfl rfl (ct_X7_addByte hS Wq) rfl rfl (Nat.le_of_ble_eq_true rfl) ⟨Nat.le_of_ble_eq_true rfl, Nat.le_of_ble_eq_true rfl⟩ ⟨Nat.le_of_ble_eq_true rfl, Nat.le_of_ble_eq_true rfl⟩ (fun v1 h1 hl1 hk1 hm1 => ?_)
  obtain ⟨a5, rfl, rfl, Wq⟩ := hk1
  refine xe_aload_n dX7_addNumber_8 rfl q_rvO ?_
  refine xe_iload_n dX7_addNumber_9 rfl ?_
  refine xe_bipush 16 dX7_addNumber_10 (by decide) ?_
  refine xe_iushr dX7_addNumber_12 ?_
  refine xe_sipush 255 dX7_addNumber_13 (by decide) ?_
  refine xe_iand dX7_addNumber_16 ?_
  refine xe_cv (y' := mX7_addByte) dX7_addNumber_17 (Or.inl lX7_19) tX7_addByte rfl rfl (ct_X7_addByte hS Wq) rfl rfl (Nat.le_of_ble_eq_true rfl) ⟨Nat.le_of_ble_eq_true rfl, Nat.le_of_ble_eq_true rfl⟩ ⟨Nat.le_of_ble_eq_true rfl, Nat.le_of_ble_eq_true rfl⟩ (fun v1 h1 hl1 hk1 hm1 => ?_)
  obtain ⟨a17, rfl, rfl, Wq⟩ := hk1
  refine xe_aload_n dX7_addNumber_20 rfl q_rvO ?_
  refine xe_iload_n dX7_addNumber_21 rfl ?_
  refine xe_bipush 8 dX7_addNumber_22 (by decide) ?_
  refine xe_iushr dX7_addNumber_24 ?_
  refine xe_sipush 255 dX7_addNumber_25 (by decide) ?_
  refine xe_iand dX7_addNumber_28 ?_
  refine xe_cv (y' := mX7_addByte) dX7_addNumber_29 (Or.inl lX7_19) tX7_addByte rfl rfl (ct_X7_addByte hS Wq) rfl rfl (Nat.le_of_ble_eq_true rfl) ⟨Nat.le_of_ble_eq_true rfl, Nat.le_of_ble_eq_true rfl⟩ ⟨Nat.le_of_ble_eq_true rfl, Nat.le_of_ble_eq_true rfl⟩ (fun v1 h1 hl1 hk1 hm1 => ?_)
  obtain ⟨a29, rfl, rfl, Wq⟩ := hk1
  refine xe_aload_n dX7_addNumber_32 rfl q_rvO ?_
  refine xe_iload_n dX7_addNumber_33 rfl ?_
  refine xe_sipush 255 dX7_addNumber_34 (by decide) ?_
  refine xe_iand dX7_addNumber_37 ?_
  refine xe_cv (y' := mX7_addByte) dX7_addNumber_38 (Or.inl lX7_19) tX7_addByte rfl rfl (ct_X7_addByte hS Wq) rfl rfl (Nat.le_of_ble_eq_true rfl) ⟨Nat.le_of_ble_eq_true rfl, Nat.le_of_ble_eq_true rfl⟩ ⟨Nat.le_of_ble_eq_true rfl, Nat.le_of_ble_eq_true rfl⟩ (fun v1 h1 hl1 hk1 hm1 => ?_)
  obtain ⟨a38, rfl, rfl, Wq⟩ := hk1
  exact xe_vret dX7_addNumber_41 rfl ⟨_, rfl, rfl, Wq⟩
def wl_X8_cutNumber_71 (t p : Nat) (post : Int32 → qa → Prop) : Nat → Int32 → Int32 → qa → Prop
  | 0 => fun _ _ _ => False
  | n + 1 => fun x1 x2 a => (((a 8 0 6) ≤ x2 → wp_X8_add t p 2 x1 a (fun r105 a105 => post r105 a105)) ∧ (¬ (a 8 0 6) ≤ x2 → wp_X7_byteAt t p x2 a (fun r88 a88 => (wl_X8_cutNumber_71 t p post n) (((x1 * 10) + r88) - 48) (x2 + 1) a88)))
def wl_X8_cutNumber_44 (t p : Nat) (post : Int32 → qa → Prop) : qa → Prop := fun a => ((((a 8 0 6) - (a 8 0 5)) ≤ 4 → ∃ n_71, wl_X8_cutNumber_71 t p post n_71 0 (a 8 0 5) a) ∧ (¬ ((a 8 0 6) - (a 8 0 5)) ≤ 4 → wp_X8_add t p 1 0 a (fun r60 a60 => post r60 a60)))
def wl_X8_cutNumber_0 (t p : Nat) (post : Int32 → qa → Prop) : Nat → qa → Prop
  | 0 => fun _ => False
  | n + 1 => fun a => (((a 7 0 1) ≤ (a 8 0 6) → wl_X8_cutNumber_44 t p post  a) ∧ (¬ (a 7 0 1) ≤ (a 8 0 6) → wp_X7_byteAt t p (a 8 0 6) a (fun r22 a22 => wp_X8_isDigit t p r22 a22 (fun r25 a25 => ((r25 = 0 → wl_X8_cutNumber_44 t p post  a25) ∧ (¬ r25 = 0 → (wl_X8_cutNumber_0 t p post n)  (qs a25 8 0 6 ((a25 8 0 6) + 1))))))))
def wp_X8_cutNumber (t p : Nat) (a : qa) (post : Int32 → qa → Prop) : Prop := ∃ n_0, wl_X8_cutNumber_0 t p post n_0 a
set_option maxHeartbeats 4000000 in
theorem el_X8_cutNumber_71 {g : q_G} {s : q_S} {t p : Nat} (hS : q_Sh t p s) {post : Int32 → qa → Prop} : ∀ (n : Nat) (x1 : Int32) (x2 : Int32) (a : qa), wl_X8_cutNumber_71 t p post n x1 x2 a → q_E g mX8_cutNumber (q_Rm 2 0 0) (q_kI s post) (0, 0) 71 [some (q_O 8 0), some (q_I x1), some (q_I x2)] [] (a, s) := by
  intro n
  induction n with
  | zero =>
    intro x1 x2 a Wq
    exact absurd Wq id
  | succ n ih =>
    intro x1 x2 a Wq
    unfold wl_X8_cutNumber_71 at Wq
    refine xe_iload_n dX8_cutNumber_71 rfl ?_
    refine xe_aload_n dX8_cutNumber_72 rfl q_rvO ?_
    refine xe_geti dX8_cutNumber_73 fX8_28 (fun _ _ => rfl) ?_
    refine xe_ic_ge 102 dX8_cutNumber_76 (by decide) (fun c_76 => ?_) (fun c_76 => ?_)
    · replace Wq := Wq.1 c_76
      refine xe_aload_n dX8_cutNumber_102 rfl q_rvO ?_
      refine xe_iconst 2 dX8_cutNumber_103 (by decide) ?_
      refine xe_iload_n dX8_cutNumber_104 rfl ?_
      refine xe_cv (y' := mX8_add) dX8_cutNumber_105 (Or.inl lX8_50) tX8_add rfl rfl (ct_X8_add hS Wq) rfl rfl (Nat.le_of_ble_eq_true rfl) ⟨Nat.le_of_ble_eq_true rfl, Nat.le_of_ble_eq_true rfl⟩ ⟨Nat.le_of_ble_eq_true rfl, Nat.le_of_ble_eq_true rfl⟩ (fun v1 h1 hl1 hk1 hm1 => ?_)
      obtain ⟨r105, a105, rfl, rfl, Wq⟩ := hk1
      exact xe_iret .int dX8_cutNumber_108 rfl rfl ⟨_, _, rfl, rfl, Wq⟩
    · replace Wq := Wq.2 c_76
      refine xe_iload_n dX8_cutNumber_79 rfl ?_
      refine xe_bipush 10 dX8_cutNumber_80 (by decide) ?_
      refine xe_imul dX8_cutNumber_82 ?_
      refine xe_aload_n dX8_cutNumber_83 rfl q_rvO ?_
      refine xe_getr dX8_cutNumber_84 fX8_31 (fun _ _ => rfl) (q_sg hS rfl) ?_
      refine xe_iload_n dX8_cutNumber_87 rfl ?_
      refine xe_cv (y' := mX7_byteAt) dX8_cutNumber_88 (Or.inl lX8_42) tX7_byteAt rfl rfl (ct_X7_byteAt hS Wq) rfl rfl (Nat.le_of_ble_eq_true rfl) ⟨Nat.le_of_ble_eq_true rfl, Nat.le_of_ble_eq_true rfl⟩ ⟨Nat.le_of_ble_eq_true rfl, Nat.le_of_ble_eq_true rfl⟩ (fun v1 h1 hl1 hk1 hm1 => ?_)
      obtain ⟨r88, a88, rfl, rfl, Wq⟩ := hk1
      refine xe_iadd dX8_cutNumber_91 ?_
      refine xe_bipush 48 dX8_cutNumber_92 (by decide) ?_
      refine xe_isub dX8_cutNumber_94 ?_
      refine xe_istore_n dX8_cutNumber_95 (by decide) ?_
      refine xe_iinc (_ + 1) dX8_cutNumber_96 (by decide) rfl rfl ?_
      refine xe_goto 71 dX8_cutNumber_99 (by decide) ?_
      refine q_wk (ls := [some (q_O 8 0), some (q_I (((x1 * 10) + r88) - 48)), some (q_I (x2 + 1))]) ⟨rfl, ⟨rfl, ⟨rfl, trivial⟩⟩⟩ ?_
      exact ih _ _ _ Wq
set_option maxHeartbeats 4000000 in
theorem el_X8_cutNumber_44 {g : q_G} {s : q_S} {t p : Nat} (hS : q_Sh t p s) {post : Int32 → qa → Prop} : ∀ (a : qa), wl_X8_cutNumber_44 t p post a → q_E g mX8_cutNumber (q_Rm 2 0 0) (q_kI s post) (0, 0) 44 [some (q_O 8 0), none, none] [] (a, s) := by
  intro a Wq
  unfold wl_X8_cutNumber_44 at Wq
  refine xe_aload_n dX8_cutNumber_44 rfl q_rvO ?_
  refine xe_geti dX8_cutNumber_45 fX8_28 (fun _ _ => rfl) ?_
  refine xe_aload_n dX8_cutNumber_48 rfl q_rvO ?_
  refine xe_geti dX8_cutNumber_49 fX8_25 (fun _ _ => rfl) ?_
  refine xe_isub dX8_cutNumber_52 ?_
  refine xe_iconst 4 dX8_cutNumber_53 (by decide) ?_
  refine xe_ic_le 64 dX8_cutNumber_54 (by decide) (fun c_54 => ?_) (fun c_54 => ?_)
  · replace Wq := Wq.1 c_54
    refine xe_iconst 0 dX8_cutNumber_64 (by decide) ?_
    refine xe_istore_n dX8_cutNumber_65 (by decide) ?_
    refine xe_aload_n dX8_cutNumber_66 rfl q_rvO ?_
    refine xe_geti dX8_cutNumber_67 fX8_25 (fun _ _ => rfl) ?_
    refine xe_istore_n dX8_cutNumber_70 (by decide) ?_
    obtain ⟨n_71, Wq⟩ := Wq
    refine q_wk (ls := [some (q_O 8 0), some (q_I 0), some (q_I (a 8 0 5))]) ⟨rfl, ⟨rfl, ⟨rfl, trivial⟩⟩⟩ ?_
    exact el_X8_cutNumber_71 hS n_71 _ _ _ Wq
  · replace Wq := Wq.2 c_54
    refine xe_aload_n dX8_cutNumber_57 rfl q_rvO ?_
    refine xe_iconst 1 dX8_cutNumber_58 (by decide) ?_
    refine xe_iconst 0 dX8_cutNumber_59 (by decide) ?_
    refine xe_cv (y' := mX8_add) dX8_cutNumber_60 (Or.inl lX8_50) tX8_add rfl rfl (ct_X8_add hS Wq) rfl rfl (Nat.le_of_ble_eq_true rfl) ⟨Nat.le_of_ble_eq_true rfl, Nat.le_of_ble_eq_true rfl⟩ ⟨Nat.le_of_ble_eq_true rfl, Nat.le_of_ble_eq_true rfl⟩ (fun v1 h1 hl1 hk1 hm1 => ?_)
    obtain ⟨r60, a60, rfl, rfl, Wq⟩ := hk1
    exact xe_iret .int dX8_cutNumber_63 rfl rfl ⟨_, _, rfl, rfl, Wq⟩
set_option maxHeartbeats 4000000 in
theorem el_X8_cutNumber_0 {g : q_G} {s : q_S} {t p : Nat} (hS : q_Sh t p s) {post : Int32 → qa → Prop} : ∀ (n : Nat) (a : qa), wl_X8_cutNumber_0 t p post n a → q_E g mX8_cutNumber (q_Rm 2 0 0) (q_kI s post) (0, 0) 0 [some (q_O 8 0), none, none] [] (a, s) := by
  intro n
  induction n with
  | zero =>
    intro a Wq
    exact absurd Wq id
  | succ n ih =>
    intro a Wq
    unfold wl_X8_cutNumber_0 at Wq
    refine xe_aload_n dX8_cutNumber_0 rfl q_rvO ?_
    refine xe_geti dX8_cutNumber_1 fX8_28 (fun _ _ => rfl) ?_
    refine xe_aload_n dX8_cutNumber_4 rfl q_rvO ?_
    refine xe_getr dX8_cutNumber_5 fX8_31 (fun _ _ => rfl) (q_sg hS rfl) ?_
    refine xe_geti dX8_cutNumber_8 fX8_39 (fun _ _ => rfl) ?_
    refine xe_ic_ge 44 dX8_cutNumber_11 (by decide) (fun c_11 => ?_) (fun c_11 => ?_)
    · replace Wq := Wq.1 c_11
      refine q_wk (ls := [some (q_O 8 0), none, none]) ⟨rfl, trivial⟩ ?_
      exact el_X8_cutNumber_44 hS  _ Wq
    · replace Wq := Wq.2 c_11
      refine xe_aload_n dX8_cutNumber_14 rfl q_rvO ?_
      refine xe_getr dX8_cutNumber_15 fX8_31 (fun _ _ => rfl) (q_sg hS rfl) ?_
      refine xe_aload_n dX8_cutNumber_18 rfl q_rvO ?_
      refine xe_geti dX8_cutNumber_19 fX8_28 (fun _ _ => rfl) ?_
      refine xe_cv (y' := mX7_byteAt) dX8_cutNumber_22 (Or.inl lX8_42) tX7_byteAt rfl rfl (ct_X7_byteAt hS Wq) rfl rfl (Nat.le_of_ble_eq_true rfl) ⟨Nat.le_of_ble_eq_true rfl, Nat.le_of_ble_eq_true rfl⟩ ⟨Nat.le_of_ble_eq_true rfl, Nat.le_of_ble_eq_true rfl⟩ (fun v1 h1 hl1 hk1 hm1 => ?_)
      obtain ⟨r22, a22, rfl, rfl, Wq⟩ := hk1
      refine xe_cs (y' := mX8_isDigit) dX8_cutNumber_25 (Or.inl lX8_60) tX8_isDigit (ct_X8_isDigit hS Wq) rfl rfl (Nat.le_of_ble_eq_true rfl) ⟨Nat.le_of_ble_eq_true rfl, Nat.le_of_ble_eq_true rfl⟩ ⟨Nat.le_of_ble_eq_true rfl, Nat.le_of_ble_eq_true rfl⟩ (fun v1 h1 hl1 hk1 hm1 => ?_)
      obtain ⟨r25, a25, rfl, rfl, Wq⟩ := hk1
      refine xe_if_eq 44 dX8_cutNumber_28 (by decide) (fun c_28 => ?_) (fun c_28 => ?_)
      · replace Wq := Wq.1 c_28
        refine q_wk (ls := [some (q_O 8 0), none, none]) ⟨rfl, trivial⟩ ?_
        exact el_X8_cutNumber_44 hS  _ Wq
      · replace Wq := Wq.2 c_28
        refine xe_aload_n dX8_cutNumber_31 rfl q_rvO ?_
        refine xe_dup dX8_cutNumber_32 rfl ?_
        refine xe_geti dX8_cutNumber_33 fX8_28 (fun _ _ => rfl) ?_
        refine xe_iconst 1 dX8_cutNumber_36 (by decide) ?_
        refine xe_iadd dX8_cutNumber_37 ?_
        refine xf_puti dX8_cutNumber_38 fX8_28 (fun q hq => Or.inl (by cases hq; rfl)) ⟨rfl, rfl⟩ (fun _ _ => rfl) ?_
        refine xe_goto 0 dX8_cutNumber_41 (by decide) ?_
        refine q_wk (ls := [some (q_O 8 0), none, none]) ⟨rfl, trivial⟩ ?_
        exact ih  _ Wq
set_option maxHeartbeats 4000000 in
theorem ct_X8_cutNumber {g : q_G} {s : q_S} {t p : Nat} (hS : q_Sh t p s) {a : qa} {post : Int32 → qa → Prop} (Wq : wp_X8_cutNumber t p  a post) : q_Ct g mX8_cutNumber (q_Rm 2 0 0) [q_O 8 0] (a, s) (q_kI s post) := by
  refine q_mk rfl rfl (Nat.le_of_ble_eq_true rfl) (q_cs rfl q_nil) (fun hv => ?_)
  unfold wp_X8_cutNumber at Wq
  obtain ⟨n_0, Wq⟩ := Wq
  refine q_wk (ls := [some (q_O 8 0), none, none]) ⟨rfl, trivial⟩ ?_
  exact el_X8_cutNumber_0 hS n_0  _ Wq
def wl_X5_readAmount_46 (t p : Nat) (post : Int32 → qa → Prop) : Nat → Int32 → qa → Prop := fun z0 y1 a => wp_X0_addRule t p z0 y1 a (fun a46 => wp_X5_take t p 2 a46 (fun r51 a51 => ((r51 = 0 → post 0 a51) ∧ (¬ r51 = 0 → wp_X5_take t p 8 a51 (fun r60 a60 => ((r60 = 0 → post 0 a60) ∧ (¬ r60 = 0 → post 1 a60)))))))
def wl_X5_readAmount_29 (t p : Nat) (post : Int32 → qa → Prop) : Nat → Int32 → qa → Prop := fun o1 x2 a => ((x2 = 0 → wl_X5_readAmount_46 t p post o1 (a 5 0 3) a) ∧ (¬ x2 = 0 → wl_X5_readAmount_46 t p post o1 (-(a 5 0 3)) a))
def wl_X5_readAmount_14 (t p : Nat) (post : Int32 → qa → Prop) : Nat → Int32 → qa → Prop := fun o1 y0 a => ((y0 = 0 → wl_X5_readAmount_29 t p post o1 y0 a) ∧ (¬ y0 = 0 → wp_X5_moveTo t p ((a 5 0 1) + 1) a (fun a26 => wl_X5_readAmount_29 t p post o1 y0 a26)))
def wp_X5_readAmount (t p : Nat) (o1 : Nat) (a : qa) (post : Int32 → qa → Prop) : Prop := ((¬ (a 5 0 2) = 9 → wl_X5_readAmount_14 t p post o1 0 a) ∧ ((a 5 0 2) = 9 → wl_X5_readAmount_14 t p post o1 1 a))
set_option maxHeartbeats 4000000 in
theorem el_X5_readAmount_46 {g : q_G} {s : q_S} {t p : Nat} (hS : q_Sh t p s) {post : Int32 → qa → Prop} : ∀ (z0 : Nat) (y1 : Int32) (a : qa), wl_X5_readAmount_46 t p post z0 y1 a → q_E g mX5_readAmount (q_Rm 3 0 0) (q_kI s post) (0, 0) 46 [some (q_O 5 0), none, none] [(q_I y1), (q_O 0 z0)] (a, s) := by
  intro z0 y1 a Wq
  unfold wl_X5_readAmount_46 at Wq
  refine xe_cv (y' := mX0_addRule) dX5_readAmount_46 (Or.inl lX5_89) tX0_addRule rfl rfl (ct_X0_addRule hS Wq) rfl rfl (Nat.le_of_ble_eq_true rfl) ⟨Nat.le_of_ble_eq_true rfl, Nat.le_of_ble_eq_true rfl⟩ ⟨Nat.le_of_ble_eq_true rfl, Nat.le_of_ble_eq_true rfl⟩ (fun v1 h1 hl1 hk1 hm1 => ?_)
  obtain ⟨a46, rfl, rfl, Wq⟩ := hk1
  refine xe_aload_n dX5_readAmount_49 rfl q_rvO ?_
  refine xe_iconst 2 dX5_readAmount_50 (by decide) ?_
  refine xe_cv (y' := mX5_take) dX5_readAmount_51 (Or.inl lX5_76) tX5_take rfl rfl (ct_X5_take hS Wq) rfl rfl (Nat.le_of_ble_eq_true rfl) ⟨Nat.le_of_ble_eq_true rfl, Nat.le_of_ble_eq_true rfl⟩ ⟨Nat.le_of_ble_eq_true rfl, Nat.le_of_ble_eq_true rfl⟩ (fun v1 h1 hl1 hk1 hm1 => ?_)
  obtain ⟨r51, a51, rfl, rfl, Wq⟩ := hk1
  refine xe_if_eq 70 dX5_readAmount_54 (by decide) (fun c_54 => ?_) (fun c_54 => ?_)
  · replace Wq := Wq.1 c_54
    refine xe_iconst 0 dX5_readAmount_70 (by decide) ?_
    exact xe_iret .boolean dX5_readAmount_71 rfl (by decide) ⟨_, _, rfl, rfl, Wq⟩
  · replace Wq := Wq.2 c_54
    refine xe_aload_n dX5_readAmount_57 rfl q_rvO ?_
    refine xe_bipush 8 dX5_readAmount_58 (by decide) ?_
    refine xe_cv (y' := mX5_take) dX5_readAmount_60 (Or.inl lX5_76) tX5_take rfl rfl (ct_X5_take hS Wq) rfl rfl (Nat.le_of_ble_eq_true rfl) ⟨Nat.le_of_ble_eq_true rfl, Nat.le_of_ble_eq_true rfl⟩ ⟨Nat.le_of_ble_eq_true rfl, Nat.le_of_ble_eq_true rfl⟩ (fun v1 h1 hl1 hk1 hm1 => ?_)
    obtain ⟨r60, a60, rfl, rfl, Wq⟩ := hk1
    refine xe_if_eq 70 dX5_readAmount_63 (by decide) (fun c_63 => ?_) (fun c_63 => ?_)
    · replace Wq := Wq.1 c_63
      refine xe_iconst 0 dX5_readAmount_70 (by decide) ?_
      exact xe_iret .boolean dX5_readAmount_71 rfl (by decide) ⟨_, _, rfl, rfl, Wq⟩
    · replace Wq := Wq.2 c_63
      refine xe_iconst 1 dX5_readAmount_66 (by decide) ?_
      refine xe_goto 71 dX5_readAmount_67 (by decide) ?_
      exact xe_iret .boolean dX5_readAmount_71 rfl (by decide) ⟨_, _, rfl, rfl, Wq⟩
set_option maxHeartbeats 4000000 in
theorem el_X5_readAmount_29 {g : q_G} {s : q_S} {t p : Nat} (hS : q_Sh t p s) {post : Int32 → qa → Prop} : ∀ (o1 : Nat) (x2 : Int32) (a : qa), wl_X5_readAmount_29 t p post o1 x2 a → q_E g mX5_readAmount (q_Rm 3 0 0) (q_kI s post) (0, 0) 29 [some (q_O 5 0), some (q_O 0 o1), some (q_I x2)] [] (a, s) := by
  intro o1 x2 a Wq
  unfold wl_X5_readAmount_29 at Wq
  refine xe_aload_n dX5_readAmount_29 rfl q_rvO ?_
  refine xe_iload_n dX5_readAmount_30 rfl ?_
  refine xe_if_eq 42 dX5_readAmount_31 (by decide) (fun c_31 => ?_) (fun c_31 => ?_)
  · replace Wq := Wq.1 c_31
    refine xe_aload_n dX5_readAmount_42 rfl q_rvO ?_
    refine xe_geti dX5_readAmount_43 fX5_18 (fun _ _ => rfl) ?_
    refine q_wk (ls := [some (q_O 5 0), none, none]) ⟨rfl, trivial⟩ ?_
    exact el_X5_readAmount_46 hS _ _ _ Wq
  · replace Wq := Wq.2 c_31
    refine xe_aload_n dX5_readAmount_34 rfl q_rvO ?_
    refine xe_geti dX5_readAmount_35 fX5_18 (fun _ _ => rfl) ?_
    refine xe_ineg dX5_readAmount_38 ?_
    refine xe_goto 46 dX5_readAmount_39 (by decide) ?_
    refine q_wk (ls := [some (q_O 5 0), none, none]) ⟨rfl, trivial⟩ ?_
    exact el_X5_readAmount_46 hS _ _ _ Wq
set_option maxHeartbeats 4000000 in
theorem el_X5_readAmount_14 {g : q_G} {s : q_S} {t p : Nat} (hS : q_Sh t p s) {post : Int32 → qa → Prop} : ∀ (o1 : Nat) (y0 : Int32) (a : qa), wl_X5_readAmount_14 t p post o1 y0 a → q_E g mX5_readAmount (q_Rm 3 0 0) (q_kI s post) (0, 0) 14 [some (q_O 5 0), some (q_O 0 o1), none] [(q_I y0)] (a, s) := by
  intro o1 y0 a Wq
  unfold wl_X5_readAmount_14 at Wq
  refine xe_istore_n dX5_readAmount_14 (by decide) ?_
  refine xe_iload_n dX5_readAmount_15 rfl ?_
  refine xe_if_eq 29 dX5_readAmount_16 (by decide) (fun c_16 => ?_) (fun c_16 => ?_)
  · replace Wq := Wq.1 c_16
    refine q_wk (ls := [some (q_O 5 0), some (q_O 0 o1), some (q_I y0)]) ⟨rfl, ⟨rfl, ⟨rfl, trivial⟩⟩⟩ ?_
    exact el_X5_readAmount_29 hS _ _ _ Wq
  · replace Wq := Wq.2 c_16
    refine xe_aload_n dX5_readAmount_19 rfl q_rvO ?_
    refine xe_aload_n dX5_readAmount_20 rfl q_rvO ?_
    refine xe_geti dX5_readAmount_21 fX5_9 (fun _ _ => rfl) ?_
    refine xe_iconst 1 dX5_readAmount_24 (by decide) ?_
    refine xe_iadd dX5_readAmount_25 ?_
    refine xe_cv (y' := mX5_moveTo) dX5_readAmount_26 (Or.inl lX5_44) tX5_moveTo rfl rfl (ct_X5_moveTo hS Wq) rfl rfl (Nat.le_of_ble_eq_true rfl) ⟨Nat.le_of_ble_eq_true rfl, Nat.le_of_ble_eq_true rfl⟩ ⟨Nat.le_of_ble_eq_true rfl, Nat.le_of_ble_eq_true rfl⟩ (fun v1 h1 hl1 hk1 hm1 => ?_)
    obtain ⟨a26, rfl, rfl, Wq⟩ := hk1
    refine q_wk (ls := [some (q_O 5 0), some (q_O 0 o1), some (q_I y0)]) ⟨rfl, ⟨rfl, ⟨rfl, trivial⟩⟩⟩ ?_
    exact el_X5_readAmount_29 hS _ _ _ Wq
set_option maxHeartbeats 4000000 in
theorem ct_X5_readAmount {g : q_G} {s : q_S} {t p : Nat} (hS : q_Sh t p s) {o1 : Nat} {a : qa} {post : Int32 → qa → Prop} (Wq : wp_X5_readAmount t p o1 a post) : q_Ct g mX5_readAmount (q_Rm 3 0 0) [q_O 5 0, q_O 0 o1] (a, s) (q_kI s post) := by
  refine q_mk rfl rfl (Nat.le_of_ble_eq_true rfl) (q_cs rfl (q_cs rfl q_nil)) (fun hv => ?_)
  unfold wp_X5_readAmount at Wq
  refine xe_aload_n dX5_readAmount_0 rfl q_rvO ?_
  refine xe_geti dX5_readAmount_1 fX5_15 (fun _ _ => rfl) ?_
  refine xe_bipush 9 dX5_readAmount_4 (by decide) ?_
  refine xe_ic_ne 13 dX5_readAmount_6 (by decide) (fun c_6 => ?_) (fun c_6 => ?_)
  · replace Wq := Wq.1 c_6
    refine xe_iconst 0 dX5_readAmount_13 (by decide) ?_
    refine q_wk (ls := [some (q_O 5 0), some (q_O 0 o1), none]) ⟨rfl, ⟨rfl, trivial⟩⟩ ?_
    exact el_X5_readAmount_14 hS _ _ _ Wq
  · replace Wq := Wq.2 c_6
    refine xe_iconst 1 dX5_readAmount_9 (by decide) ?_
    refine xe_goto 14 dX5_readAmount_10 (by decide) ?_
    refine q_wk (ls := [some (q_O 5 0), some (q_O 0 o1), none]) ⟨rfl, ⟨rfl, trivial⟩⟩ ?_
    exact el_X5_readAmount_14 hS _ _ _ Wq
def wp_X5_readTerm (t p : Nat) (o1 : Nat) (a : qa) (post : Int32 → qa → Prop) : Prop := ((¬ (a 5 0 2) = 3 → wp_X5_take t p 4 a (fun r29 a29 => ((¬ r29 = 0 → wp_X5_take t p 6 a29 (fun r45 a45 => ((¬ r45 = 0 → wp_X0_addTerm t p o1 (a 5 0 3) (a29 5 0 3) (a45 5 0 3) a45 (fun a60 => wp_X5_take t p 2 a60 (fun r65 a65 => q_isb r65 ∧ post r65 a65))) ∧ (r45 = 0 → post 0 a45)))) ∧ (r29 = 0 → post 0 a29)))) ∧ ((a 5 0 2) = 3 → wp_X0_addTerm t p o1 3 61 (a 5 0 3) a (fun a18 => wp_X5_take t p 3 a18 (fun r23 a23 => q_isb r23 ∧ post r23 a23))))
set_option maxHeartbeats 4000000 in
theorem ct_X5_readTerm {g : q_G} {s : q_S} {t p : Nat} (hS : q_Sh t p s) {o1 : Nat} {a : qa} {post : Int32 → qa → Prop} (Wq : wp_X5_readTerm t p o1 a post) : q_Ct g mX5_readTerm (q_Rm 3 0 0) [q_O 5 0, q_O 0 o1] (a, s) (q_kI s post) := by
  refine q_mk rfl rfl (Nat.le_of_ble_eq_true rfl) (q_cs rfl (q_cs rfl q_nil)) (fun hv => ?_)
  unfold wp_X5_readTerm at Wq
  refine xe_aload_n dX5_readTerm_0 rfl q_rvO ?_
  refine xe_geti dX5_readTerm_1 fX5_18 (fun _ _ => rfl) ?_
  refine xe_istore_n dX5_readTerm_4 (by decide) ?_
  refine xe_aload_n dX5_readTerm_5 rfl q_rvO ?_
  refine xe_geti dX5_readTerm_6 fX5_15 (fun _ _ => rfl) ?_
  refine xe_iconst 3 dX5_readTerm_9 (by decide) ?_
  refine xe_ic_ne 27 dX5_readTerm_10 (by decide) (fun c_10 => ?_) (fun c_10 => ?_)
  · replace Wq := Wq.1 c_10
    refine xe_aload_n dX5_readTerm_27 rfl q_rvO ?_
    refine xe_iconst 4 dX5_readTerm_28 (by decide) ?_
    refine xe_cv (y' := mX5_take) dX5_readTerm_29 (Or.inl lX5_76) tX5_take rfl rfl (ct_X5_take hS Wq) rfl rfl (Nat.le_of_ble_eq_true rfl) ⟨Nat.le_of_ble_eq_true rfl, Nat.le_of_ble_eq_true rfl⟩ ⟨Nat.le_of_ble_eq_true rfl, Nat.le_of_ble_eq_true rfl⟩ (fun v1 h1 hl1 hk1 hm1 => ?_)
    obtain ⟨r29, a29, rfl, rfl, Wq⟩ := hk1
    refine xe_if_ne 37 dX5_readTerm_32 (by decide) (fun c_32 => ?_) (fun c_32 => ?_)
    · replace Wq := Wq.1 c_32
      refine xe_aload_n dX5_readTerm_37 rfl q_rvO ?_
      refine xe_geti dX5_readTerm_38 fX5_18 (fun _ _ => rfl) ?_
      refine xe_istore_n dX5_readTerm_41 (by decide) ?_
      refine xe_aload_n dX5_readTerm_42 rfl q_rvO ?_
      refine xe_bipush 6 dX5_readTerm_43 (by decide) ?_
      refine xe_cv (y' := mX5_take) dX5_readTerm_45 (Or.inl lX5_76) tX5_take rfl rfl (ct_X5_take hS Wq) rfl rfl (Nat.le_of_ble_eq_true rfl) ⟨Nat.le_of_ble_eq_true rfl, Nat.le_of_ble_eq_true rfl⟩ ⟨Nat.le_of_ble_eq_true rfl, Nat.le_of_ble_eq_true rfl⟩ (fun v1 h1 hl1 hk1 hm1 => ?_)
      obtain ⟨r45, a45, rfl, rfl, Wq⟩ := hk1
      refine xe_if_ne 53 dX5_readTerm_48 (by decide) (fun c_48 => ?_) (fun c_48 => ?_)
      · replace Wq := Wq.1 c_48
        refine xe_aload_n dX5_readTerm_53 rfl q_rvO ?_
        refine xe_iload_n dX5_readTerm_54 rfl ?_
        refine xe_iload_n dX5_readTerm_55 rfl ?_
        refine xe_aload_n dX5_readTerm_56 rfl q_rvO ?_
        refine xe_geti dX5_readTerm_57 fX5_18 (fun _ _ => rfl) ?_
        refine xe_cv (y' := mX0_addTerm) dX5_readTerm_60 (Or.inl lX5_85) tX0_addTerm rfl rfl (ct_X0_addTerm hS Wq) rfl rfl (Nat.le_of_ble_eq_true rfl) ⟨Nat.le_of_ble_eq_true rfl, Nat.le_of_ble_eq_true rfl⟩ ⟨Nat.le_of_ble_eq_true rfl, Nat.le_of_ble_eq_true rfl⟩ (fun v1 h1 hl1 hk1 hm1 => ?_)
        obtain ⟨a60, rfl, rfl, Wq⟩ := hk1
        refine xe_aload_n dX5_readTerm_63 rfl q_rvO ?_
        refine xe_iconst 2 dX5_readTerm_64 (by decide) ?_
        refine xe_cv (y' := mX5_take) dX5_readTerm_65 (Or.inl lX5_76) tX5_take rfl rfl (ct_X5_take hS Wq) rfl rfl (Nat.le_of_ble_eq_true rfl) ⟨Nat.le_of_ble_eq_true rfl, Nat.le_of_ble_eq_true rfl⟩ ⟨Nat.le_of_ble_eq_true rfl, Nat.le_of_ble_eq_true rfl⟩ (fun v1 h1 hl1 hk1 hm1 => ?_)
        obtain ⟨r65, a65, rfl, rfl, Wq⟩ := hk1
        obtain ⟨hj_68, Wq⟩ := Wq
        exact xe_iret .boolean dX5_readTerm_68 rfl (q_bn2 hj_68).1 ⟨_, _, rfl, rfl, Wq⟩
      · replace Wq := Wq.2 c_48
        refine xe_iconst 0 dX5_readTerm_51 (by decide) ?_
        exact xe_iret .boolean dX5_readTerm_52 rfl (by decide) ⟨_, _, rfl, rfl, Wq⟩
    · replace Wq := Wq.2 c_32
      refine xe_iconst 0 dX5_readTerm_35 (by decide) ?_
      exact xe_iret .boolean dX5_readTerm_36 rfl (by decide) ⟨_, _, rfl, rfl, Wq⟩
  · replace Wq := Wq.2 c_10
    refine xe_aload_n dX5_readTerm_13 rfl q_rvO ?_
    refine xe_iconst 3 dX5_readTerm_14 (by decide) ?_
    refine xe_bipush 61 dX5_readTerm_15 (by decide) ?_
    refine xe_iload_n dX5_readTerm_17 rfl ?_
    refine xe_cv (y' := mX0_addTerm) dX5_readTerm_18 (Or.inl lX5_85) tX0_addTerm rfl rfl (ct_X0_addTerm hS Wq) rfl rfl (Nat.le_of_ble_eq_true rfl) ⟨Nat.le_of_ble_eq_true rfl, Nat.le_of_ble_eq_true rfl⟩ ⟨Nat.le_of_ble_eq_true rfl, Nat.le_of_ble_eq_true rfl⟩ (fun v1 h1 hl1 hk1 hm1 => ?_)
    obtain ⟨a18, rfl, rfl, Wq⟩ := hk1
    refine xe_aload_n dX5_readTerm_21 rfl q_rvO ?_
    refine xe_iconst 3 dX5_readTerm_22 (by decide) ?_
    refine xe_cv (y' := mX5_take) dX5_readTerm_23 (Or.inl lX5_76) tX5_take rfl rfl (ct_X5_take hS Wq) rfl rfl (Nat.le_of_ble_eq_true rfl) ⟨Nat.le_of_ble_eq_true rfl, Nat.le_of_ble_eq_true rfl⟩ ⟨Nat.le_of_ble_eq_true rfl, Nat.le_of_ble_eq_true rfl⟩ (fun v1 h1 hl1 hk1 hm1 => ?_)
    obtain ⟨r23, a23, rfl, rfl, Wq⟩ := hk1
    obtain ⟨hj_26, Wq⟩ := Wq
    exact xe_iret .boolean dX5_readTerm_26 rfl (q_bn2 hj_26).1 ⟨_, _, rfl, rfl, Wq⟩
def wl_X5_readTerms_2 (t p : Nat) (post : Int32 → qa → Prop) : Nat → Nat → Int32 → qa → Prop
  | 0 => fun _ _ _ => False
  | n + 1 => fun o1 x2 a => ((4 ≤ x2 → wp_X5_isTermAhead t p  a (fun r45 a45 => ((r45 = 0 → wp_X5_fail t p 1 a45 (fun r56 a56 => q_isb r56 ∧ post r56 a56)) ∧ (¬ r45 = 0 → wp_X5_fail t p 2 a45 (fun r56 a56 => q_isb r56 ∧ post r56 a56))))) ∧ (¬ 4 ≤ x2 → wp_X5_readTerm t p o1 a (fun r9 a9 => ((¬ r9 = 0 → (((a9 5 0 2) = 5 → wp_X5_moveTo t p ((a9 5 0 1) + 1) a9 (fun a34 => (wl_X5_readTerms_2 t p post n) o1 (x2 + 1) a34)) ∧ (¬ (a9 5 0 2) = 5 → post 1 a9))) ∧ (r9 = 0 → post 0 a9)))))
def wp_X5_readTerms (t p : Nat) (o1 : Nat) (a : qa) (post : Int32 → qa → Prop) : Prop := ∃ n_2, wl_X5_readTerms_2 t p post n_2 o1 0 a
set_option maxHeartbeats 4000000 in
theorem el_X5_readTerms_2 {g : q_G} {s : q_S} {t p : Nat} (hS : q_Sh t p s) {post : Int32 → qa → Prop} : ∀ (n : Nat) (o1 : Nat) (x2 : Int32) (a : qa), wl_X5_readTerms_2 t p post n o1 x2 a → q_E g mX5_readTerms (q_Rm 4 0 0) (q_kI s post) (0, 0) 2 [some (q_O 5 0), some (q_O 0 o1), some (q_I x2)] [] (a, s) := by
  intro n
  induction n with
  | zero =>
    intro o1 x2 a Wq
    exact absurd Wq id
  | succ n ih =>
    intro o1 x2 a Wq
    unfold wl_X5_readTerms_2 at Wq
    refine xe_iload_n dX5_readTerms_2 rfl ?_
    refine xe_iconst 4 dX5_readTerms_3 (by decide) ?_
    refine xe_ic_ge 43 dX5_readTerms_4 (by decide) (fun c_4 => ?_) (fun c_4 => ?_)
    · replace Wq := Wq.1 c_4
      refine xe_aload_n dX5_readTerms_43 rfl q_rvO ?_
      refine xe_aload_n dX5_readTerms_44 rfl q_rvO ?_
      refine xe_cv (y' := mX5_isTermAhead) dX5_readTerms_45 (Or.inl lX5_48) tX5_isTermAhead rfl rfl (ct_X5_isTermAhead hS Wq) rfl rfl (Nat.le_of_ble_eq_true rfl) ⟨Nat.le_of_ble_eq_true rfl, Nat.le_of_ble_eq_true rfl⟩ ⟨Nat.le_of_ble_eq_true rfl, Nat.le_of_ble_eq_true rfl⟩ (fun v1 h1 hl1 hk1 hm1 => ?_)
      obtain ⟨r45, a45, rfl, rfl, Wq⟩ := hk1
      refine xe_if_eq 55 dX5_readTerms_48 (by decide) (fun c_48 => ?_) (fun c_48 => ?_)
      · replace Wq := Wq.1 c_48
        refine xe_iconst 1 dX5_readTerms_55 (by decide) ?_
        refine xe_cv (y' := mX5_fail) dX5_readTerms_56 (Or.inl lX5_52) tX5_fail rfl rfl (ct_X5_fail hS Wq) rfl rfl (Nat.le_of_ble_eq_true rfl) ⟨Nat.le_of_ble_eq_true rfl, Nat.le_of_ble_eq_true rfl⟩ ⟨Nat.le_of_ble_eq_true rfl, Nat.le_of_ble_eq_true rfl⟩ (fun v1 h1 hl1 hk1 hm1 => ?_)
        obtain ⟨r56, a56, rfl, rfl, Wq⟩ := hk1
        obtain ⟨hj_59, Wq⟩ := Wq
        exact xe_iret .boolean dX5_readTerms_59 rfl (q_bn2 hj_59).1 ⟨_, _, rfl, rfl, Wq⟩
      · replace Wq := Wq.2 c_48
        refine xe_iconst 2 dX5_readTerms_51 (by decide) ?_
        refine xe_goto 56 dX5_readTerms_52 (by decide) ?_
        refine xe_cv (y' := mX5_fail) dX5_readTerms_56 (Or.inl lX5_52) tX5_fail rfl rfl (ct_X5_fail hS Wq) rfl rfl (Nat.le_of_ble_eq_true rfl) ⟨Nat.le_of_ble_eq_true rfl, Nat.le_of_ble_eq_true rfl⟩ ⟨Nat.le_of_ble_eq_true rfl, Nat.le_of_ble_eq_true rfl⟩ (fun v1 h1 hl1 hk1 hm1 => ?_)
        obtain ⟨r56, a56, rfl, rfl, Wq⟩ := hk1
        obtain ⟨hj_59, Wq⟩ := Wq
        exact xe_iret .boolean dX5_readTerms_59 rfl (q_bn2 hj_59).1 ⟨_, _, rfl, rfl, Wq⟩
    · replace Wq := Wq.2 c_4
      refine xe_aload_n dX5_readTerms_7 rfl q_rvO ?_
      refine xe_aload_n dX5_readTerms_8 rfl q_rvO ?_
      refine xe_cv (y' := mX5_readTerm) dX5_readTerms_9 (Or.inl lX5_82) tX5_readTerm rfl rfl (ct_X5_readTerm hS Wq) rfl rfl (Nat.le_of_ble_eq_true rfl) ⟨Nat.le_of_ble_eq_true rfl, Nat.le_of_ble_eq_true rfl⟩ ⟨Nat.le_of_ble_eq_true rfl, Nat.le_of_ble_eq_true rfl⟩ (fun v1 h1 hl1 hk1 hm1 => ?_)
      obtain ⟨r9, a9, rfl, rfl, Wq⟩ := hk1
      refine xe_if_ne 17 dX5_readTerms_12 (by decide) (fun c_12 => ?_) (fun c_12 => ?_)
      · replace Wq := Wq.1 c_12
        refine xe_aload_n dX5_readTerms_17 rfl q_rvO ?_
        refine xe_geti dX5_readTerms_18 fX5_15 (fun _ _ => rfl) ?_
        refine xe_iconst 5 dX5_readTerms_21 (by decide) ?_
        refine xe_ic_eq 27 dX5_readTerms_22 (by decide) (fun c_22 => ?_) (fun c_22 => ?_)
        · replace Wq := Wq.1 c_22
          refine xe_aload_n dX5_readTerms_27 rfl q_rvO ?_
          refine xe_aload_n dX5_readTerms_28 rfl q_rvO ?_
          refine xe_geti dX5_readTerms_29 fX5_9 (fun _ _ => rfl) ?_
          refine xe_iconst 1 dX5_readTerms_32 (by decide) ?_
          refine xe_iadd dX5_readTerms_33 ?_
          refine xe_cv (y' := mX5_moveTo) dX5_readTerms_34 (Or.inl lX5_44) tX5_moveTo rfl rfl (ct_X5_moveTo hS Wq) rfl rfl (Nat.le_of_ble_eq_true rfl) ⟨Nat.le_of_ble_eq_true rfl, Nat.le_of_ble_eq_true rfl⟩ ⟨Nat.le_of_ble_eq_true rfl, Nat.le_of_ble_eq_true rfl⟩ (fun v1 h1 hl1 hk1 hm1 => ?_)
          obtain ⟨a34, rfl, rfl, Wq⟩ := hk1
          refine xe_iinc (_ + 1) dX5_readTerms_37 (by decide) rfl rfl ?_
          refine xe_goto 2 dX5_readTerms_40 (by decide) ?_
          refine q_wk (ls := [some (q_O 5 0), some (q_O 0 o1), some (q_I (x2 + 1))]) ⟨rfl, ⟨rfl, ⟨rfl, trivial⟩⟩⟩ ?_
          exact ih _ _ _ Wq
        · replace Wq := Wq.2 c_22
          refine xe_iconst 1 dX5_readTerms_25 (by decide) ?_
          exact xe_iret .boolean dX5_readTerms_26 rfl (by decide) ⟨_, _, rfl, rfl, Wq⟩
      · replace Wq := Wq.2 c_12
        refine xe_iconst 0 dX5_readTerms_15 (by decide) ?_
        exact xe_iret .boolean dX5_readTerms_16 rfl (by decide) ⟨_, _, rfl, rfl, Wq⟩
set_option maxHeartbeats 4000000 in
theorem ct_X5_readTerms {g : q_G} {s : q_S} {t p : Nat} (hS : q_Sh t p s) {o1 : Nat} {a : qa} {post : Int32 → qa → Prop} (Wq : wp_X5_readTerms t p o1 a post) : q_Ct g mX5_readTerms (q_Rm 4 0 0) [q_O 5 0, q_O 0 o1] (a, s) (q_kI s post) := by
  refine q_mk rfl rfl (Nat.le_of_ble_eq_true rfl) (q_cs rfl (q_cs rfl q_nil)) (fun hv => ?_)
  unfold wp_X5_readTerms at Wq
  refine xe_iconst 0 dX5_readTerms_0 (by decide) ?_
  refine xe_istore_n dX5_readTerms_1 (by decide) ?_
  obtain ⟨n_2, Wq⟩ := Wq
  refine q_wk (ls := [some (q_O 5 0), some (q_O 0 o1), some (q_I 0)]) ⟨rfl, ⟨rfl, ⟨rfl, trivial⟩⟩⟩ ?_
  exact el_X5_readTerms_2 hS n_2 _ _ _ Wq
def wl_X5_readRule_19 (t p : Nat) (post : Int32 → qa → Prop) : Nat → qa → Prop := fun o1 a => wp_X5_take t p 7 a (fun r22 a22 => ((r22 = 0 → post 0 a22) ∧ (¬ r22 = 0 → wp_X5_readAmount t p o1 a22 (fun r30 a30 => ((r30 = 0 → post 0 a30) ∧ (¬ r30 = 0 → post 1 a30))))))
def wp_X5_readRule (t p : Nat) (o1 : Nat) (a : qa) (post : Int32 → qa → Prop) : Prop := (((a 5 0 2) = 7 → wl_X5_readRule_19 t p post o1 a) ∧ (¬ (a 5 0 2) = 7 → wp_X5_readTerms t p o1 a (fun r11 a11 => ((¬ r11 = 0 → wl_X5_readRule_19 t p post o1 a11) ∧ (r11 = 0 → post 0 a11)))))
set_option maxHeartbeats 4000000 in
theorem el_X5_readRule_19 {g : q_G} {s : q_S} {t p : Nat} (hS : q_Sh t p s) {post : Int32 → qa → Prop} : ∀ (o1 : Nat) (a : qa), wl_X5_readRule_19 t p post o1 a → q_E g mX5_readRule (q_Rm 5 0 0) (q_kI s post) (0, 0) 19 [some (q_O 5 0), some (q_O 0 o1)] [] (a, s) := by
  intro o1 a Wq
  unfold wl_X5_readRule_19 at Wq
  refine xe_aload_n dX5_readRule_19 rfl q_rvO ?_
  refine xe_bipush 7 dX5_readRule_20 (by decide) ?_
  refine xe_cv (y' := mX5_take) dX5_readRule_22 (Or.inl lX5_76) tX5_take rfl rfl (ct_X5_take hS Wq) rfl rfl (Nat.le_of_ble_eq_true rfl) ⟨Nat.le_of_ble_eq_true rfl, Nat.le_of_ble_eq_true rfl⟩ ⟨Nat.le_of_ble_eq_true rfl, Nat.le_of_ble_eq_true rfl⟩ (fun v1 h1 hl1 hk1 hm1 => ?_)
  obtain ⟨r22, a22, rfl, rfl, Wq⟩ := hk1
  refine xe_if_eq 40 dX5_readRule_25 (by decide) (fun c_25 => ?_) (fun c_25 => ?_)
  · replace Wq := Wq.1 c_25
    refine xe_iconst 0 dX5_readRule_40 (by decide) ?_
    exact xe_iret .boolean dX5_readRule_41 rfl (by decide) ⟨_, _, rfl, rfl, Wq⟩
  · replace Wq := Wq.2 c_25
    refine xe_aload_n dX5_readRule_28 rfl q_rvO ?_
    refine xe_aload_n dX5_readRule_29 rfl q_rvO ?_
    refine xe_cv (y' := mX5_readAmount) dX5_readRule_30 (Or.inl lX5_79) tX5_readAmount rfl rfl (ct_X5_readAmount hS Wq) rfl rfl (Nat.le_of_ble_eq_true rfl) ⟨Nat.le_of_ble_eq_true rfl, Nat.le_of_ble_eq_true rfl⟩ ⟨Nat.le_of_ble_eq_true rfl, Nat.le_of_ble_eq_true rfl⟩ (fun v1 h1 hl1 hk1 hm1 => ?_)
    obtain ⟨r30, a30, rfl, rfl, Wq⟩ := hk1
    refine xe_if_eq 40 dX5_readRule_33 (by decide) (fun c_33 => ?_) (fun c_33 => ?_)
    · replace Wq := Wq.1 c_33
      refine xe_iconst 0 dX5_readRule_40 (by decide) ?_
      exact xe_iret .boolean dX5_readRule_41 rfl (by decide) ⟨_, _, rfl, rfl, Wq⟩
    · replace Wq := Wq.2 c_33
      refine xe_iconst 1 dX5_readRule_36 (by decide) ?_
      refine xe_goto 41 dX5_readRule_37 (by decide) ?_
      exact xe_iret .boolean dX5_readRule_41 rfl (by decide) ⟨_, _, rfl, rfl, Wq⟩
set_option maxHeartbeats 4000000 in
theorem ct_X5_readRule {g : q_G} {s : q_S} {t p : Nat} (hS : q_Sh t p s) {o1 : Nat} {a : qa} {post : Int32 → qa → Prop} (Wq : wp_X5_readRule t p o1 a post) : q_Ct g mX5_readRule (q_Rm 5 0 0) [q_O 5 0, q_O 0 o1] (a, s) (q_kI s post) := by
  refine q_mk rfl rfl (Nat.le_of_ble_eq_true rfl) (q_cs rfl (q_cs rfl q_nil)) (fun hv => ?_)
  unfold wp_X5_readRule at Wq
  refine xe_aload_n dX5_readRule_0 rfl q_rvO ?_
  refine xe_geti dX5_readRule_1 fX5_15 (fun _ _ => rfl) ?_
  refine xe_bipush 7 dX5_readRule_4 (by decide) ?_
  refine xe_ic_eq 19 dX5_readRule_6 (by decide) (fun c_6 => ?_) (fun c_6 => ?_)
  · replace Wq := Wq.1 c_6
    refine q_wk (ls := [some (q_O 5 0), some (q_O 0 o1)]) ⟨rfl, ⟨rfl, trivial⟩⟩ ?_
    exact el_X5_readRule_19 hS _ _ Wq
  · replace Wq := Wq.2 c_6
    refine xe_aload_n dX5_readRule_9 rfl q_rvO ?_
    refine xe_aload_n dX5_readRule_10 rfl q_rvO ?_
    refine xe_cv (y' := mX5_readTerms) dX5_readRule_11 (Or.inl lX5_73) tX5_readTerms rfl rfl (ct_X5_readTerms hS Wq) rfl rfl (Nat.le_of_ble_eq_true rfl) ⟨Nat.le_of_ble_eq_true rfl, Nat.le_of_ble_eq_true rfl⟩ ⟨Nat.le_of_ble_eq_true rfl, Nat.le_of_ble_eq_true rfl⟩ (fun v1 h1 hl1 hk1 hm1 => ?_)
    obtain ⟨r11, a11, rfl, rfl, Wq⟩ := hk1
    refine xe_if_ne 19 dX5_readRule_14 (by decide) (fun c_14 => ?_) (fun c_14 => ?_)
    · replace Wq := Wq.1 c_14
      refine q_wk (ls := [some (q_O 5 0), some (q_O 0 o1)]) ⟨rfl, ⟨rfl, trivial⟩⟩ ?_
      exact el_X5_readRule_19 hS _ _ Wq
    · replace Wq := Wq.2 c_14
      refine xe_iconst 0 dX5_readRule_17 (by decide) ?_
      exact xe_iret .boolean dX5_readRule_18 rfl (by decide) ⟨_, _, rfl, rfl, Wq⟩
def wl_X8_spells_20 (t p : Nat) (post : Int32 → qa → Prop) : Nat → Nat → Int32 → qa → Prop
  | 0 => fun _ _ _ => False
  | n + 1 => fun o1 x2 a => wp_J0_length_8abf5 t p o1 a (fun r22 a22 => ((r22 ≤ x2 → post 1 a22) ∧ (¬ r22 ≤ x2 → wp_X7_byteAt t p ((a22 8 0 5) + x2) a22 (fun r38 a38 => wp_J0_charAt_5068e t p o1 x2 a38 (fun r43 a43 => ((r38 = r43 → (wl_X8_spells_20 t p post n) o1 (x2 + 1) a43) ∧ (¬ r38 = r43 → post 0 a43)))))))
def wp_X8_spells (t p : Nat) (o1 : Nat) (a : qa) (post : Int32 → qa → Prop) : Prop := wp_J0_length_8abf5 t p o1 a (fun r10 a10 => ((((a 8 0 6) - (a 8 0 5)) = r10 → ∃ n_20, wl_X8_spells_20 t p post n_20 o1 0 a10) ∧ (¬ ((a 8 0 6) - (a 8 0 5)) = r10 → post 0 a10)))
set_option maxHeartbeats 4000000 in
theorem el_X8_spells_20 {g : q_G} {s : q_S} {t p : Nat} (hS : q_Sh t p s) (hX : q_gX g) {post : Int32 → qa → Prop} : ∀ (n : Nat) (o1 : Nat) (x2 : Int32) (a : qa), wl_X8_spells_20 t p post n o1 x2 a → q_E g mX8_spells (q_Rm 5 0 0) (q_kI s post) (0, 0) 20 [some (q_O 8 0), some (.inl (.ref (g.2.1.2 100 o1))), some (q_I x2)] [] (a, s) := by
  intro n
  induction n with
  | zero =>
    intro o1 x2 a Wq
    exact absurd Wq id
  | succ n ih =>
    intro o1 x2 a Wq
    unfold wl_X8_spells_20 at Wq
    refine xe_iload_n dX8_spells_20 rfl ?_
    refine xe_aload_n dX8_spells_21 rfl q_rvA ?_
    have hk_22 := Wq.1
    refine xe_cvS (y' := mJ0_length_8abf5) hX hk_22 dX8_spells_22 lX8_95 tJ0_length_8abf5 rfl (ct_J0_length_8abf5 hX Wq) rfl rfl (Nat.le_of_ble_eq_true rfl) ⟨Nat.le_of_ble_eq_true rfl, Nat.le_of_ble_eq_true rfl⟩ ⟨Nat.le_of_ble_eq_true rfl, Nat.le_of_ble_eq_true rfl⟩ (fun v1 h1 hl1 hk1 hm1 => ?_)
    obtain ⟨r22, a22, rfl, rfl, Wq⟩ := hk1
    refine xe_ic_ge 57 dX8_spells_25 (by decide) (fun c_25 => ?_) (fun c_25 => ?_)
    · replace Wq := Wq.1 c_25
      refine xe_iconst 1 dX8_spells_57 (by decide) ?_
      exact xe_iret .boolean dX8_spells_58 rfl (by decide) ⟨_, _, rfl, rfl, Wq⟩
    · replace Wq := Wq.2 c_25
      refine xe_aload_n dX8_spells_28 rfl q_rvO ?_
      refine xe_getr dX8_spells_29 fX8_31 (fun _ _ => rfl) (q_sg hS rfl) ?_
      refine xe_aload_n dX8_spells_32 rfl q_rvO ?_
      refine xe_geti dX8_spells_33 fX8_25 (fun _ _ => rfl) ?_
      refine xe_iload_n dX8_spells_36 rfl ?_
      refine xe_iadd dX8_spells_37 ?_
      refine xe_cv (y' := mX7_byteAt) dX8_spells_38 (Or.inl lX8_42) tX7_byteAt rfl rfl (ct_X7_byteAt hS Wq) rfl rfl (Nat.le_of_ble_eq_true rfl) ⟨Nat.le_of_ble_eq_true rfl, Nat.le_of_ble_eq_true rfl⟩ ⟨Nat.le_of_ble_eq_true rfl, Nat.le_of_ble_eq_true rfl⟩ (fun v1 h1 hl1 hk1 hm1 => ?_)
      obtain ⟨r38, a38, rfl, rfl, Wq⟩ := hk1
      refine xe_aload_n dX8_spells_41 rfl q_rvA ?_
      refine xe_iload_n dX8_spells_42 rfl ?_
      have hk_43 := Wq.1
      refine xe_cvS (y' := mJ0_charAt_5068e) hX hk_43 dX8_spells_43 lX8_100 tJ0_charAt_5068e rfl (ct_J0_charAt_5068e hX Wq) rfl rfl (Nat.le_of_ble_eq_true rfl) ⟨Nat.le_of_ble_eq_true rfl, Nat.le_of_ble_eq_true rfl⟩ ⟨Nat.le_of_ble_eq_true rfl, Nat.le_of_ble_eq_true rfl⟩ (fun v1 h1 hl1 hk1 hm1 => ?_)
      obtain ⟨r43, a43, rfl, rfl, Wq⟩ := hk1
      refine xe_ic_eq 51 dX8_spells_46 (by decide) (fun c_46 => ?_) (fun c_46 => ?_)
      · replace Wq := Wq.1 c_46
        refine xe_iinc (_ + 1) dX8_spells_51 (by decide) rfl rfl ?_
        refine xe_goto 20 dX8_spells_54 (by decide) ?_
        refine q_wk (ls := [some (q_O 8 0), some (.inl (.ref (g.2.1.2 100 o1))), some (q_I (x2 + 1))]) ⟨rfl, ⟨rfl, ⟨rfl, trivial⟩⟩⟩ ?_
        exact ih _ _ _ Wq
      · replace Wq := Wq.2 c_46
        refine xe_iconst 0 dX8_spells_49 (by decide) ?_
        exact xe_iret .boolean dX8_spells_50 rfl (by decide) ⟨_, _, rfl, rfl, Wq⟩
set_option maxHeartbeats 4000000 in
theorem ct_X8_spells {g : q_G} {s : q_S} {t p : Nat} (hS : q_Sh t p s) (hX : q_gX g) {o1 : Nat} {a : qa} {post : Int32 → qa → Prop} (Wq : wp_X8_spells t p o1 a post) : q_Ct g mX8_spells (q_Rm 5 0 0) [q_O 8 0, .inl (.ref (g.2.1.2 100 o1))] (a, s) (q_kI s post) := by
  refine q_mk rfl rfl (Nat.le_of_ble_eq_true rfl) (q_cs rfl (q_cs rfl q_nil)) (fun hv => ?_)
  unfold wp_X8_spells at Wq
  refine xe_aload_n dX8_spells_0 rfl q_rvO ?_
  refine xe_geti dX8_spells_1 fX8_28 (fun _ _ => rfl) ?_
  refine xe_aload_n dX8_spells_4 rfl q_rvO ?_
  refine xe_geti dX8_spells_5 fX8_25 (fun _ _ => rfl) ?_
  refine xe_isub dX8_spells_8 ?_
  refine xe_aload_n dX8_spells_9 rfl q_rvA ?_
  have hk_10 := Wq.1
  refine xe_cvS (y' := mJ0_length_8abf5) hX hk_10 dX8_spells_10 lX8_95 tJ0_length_8abf5 rfl (ct_J0_length_8abf5 hX Wq) rfl rfl (Nat.le_of_ble_eq_true rfl) ⟨Nat.le_of_ble_eq_true rfl, Nat.le_of_ble_eq_true rfl⟩ ⟨Nat.le_of_ble_eq_true rfl, Nat.le_of_ble_eq_true rfl⟩ (fun v1 h1 hl1 hk1 hm1 => ?_)
  obtain ⟨r10, a10, rfl, rfl, Wq⟩ := hk1
  refine xe_ic_eq 18 dX8_spells_13 (by decide) (fun c_13 => ?_) (fun c_13 => ?_)
  · replace Wq := Wq.1 c_13
    refine xe_iconst 0 dX8_spells_18 (by decide) ?_
    refine xe_istore_n dX8_spells_19 (by decide) ?_
    obtain ⟨n_20, Wq⟩ := Wq
    refine q_wk (ls := [some (q_O 8 0), some (.inl (.ref (g.2.1.2 100 o1))), some (q_I 0)]) ⟨rfl, ⟨rfl, ⟨rfl, trivial⟩⟩⟩ ?_
    exact el_X8_spells_20 hS hX n_20 _ _ _ Wq
  · replace Wq := Wq.2 c_13
    refine xe_iconst 0 dX8_spells_16 (by decide) ?_
    exact xe_iret .boolean dX8_spells_17 rfl (by decide) ⟨_, _, rfl, rfl, Wq⟩
def wp_X8_kindSpelt (t p : Nat) (a : qa) (post : Int32 → qa → Prop) : Prop := wp_X8_spells t p 1 a (fun r3 a3 => ((r3 = 0 → wp_X8_spells t p 2 a3 (fun r16 a16 => ((r16 = 0 → wp_X8_spells t p 3 a16 (fun r29 a29 => ((r29 = 0 → wp_X8_spells t p 4 a29 (fun r42 a42 => ((r42 = 0 → post (-1) a42) ∧ (¬ r42 = 0 → post 3 a42)))) ∧ (¬ r29 = 0 → post 2 a29)))) ∧ (¬ r16 = 0 → post 1 a16)))) ∧ (¬ r3 = 0 → post 0 a3)))
set_option maxHeartbeats 4000000 in
theorem ct_X8_kindSpelt {g : q_G} {s : q_S} {t p : Nat} (hS : q_Sh t p s) (hX : q_gX g) {a : qa} {post : Int32 → qa → Prop} (Wq : wp_X8_kindSpelt t p  a post) : q_Ct g mX8_kindSpelt (q_Rm 6 0 0) [q_O 8 0] (a, s) (q_kI s post) := by
  refine q_mk rfl rfl (Nat.le_of_ble_eq_true rfl) (q_cs rfl q_nil) (fun hv => ?_)
  unfold wp_X8_kindSpelt at Wq
  refine xe_aload_n dX8_kindSpelt_0 rfl q_rvO ?_
  refine xe_ldcS (k := 1) hX (by decide) ⟨rfl, rfl⟩ dX8_kindSpelt_1 ?_
  refine xe_cv (y' := mX8_spells) dX8_kindSpelt_3 (Or.inl lX8_71) tX8_spells rfl rfl (ct_X8_spells hS hX Wq) rfl rfl (Nat.le_of_ble_eq_true rfl) ⟨Nat.le_of_ble_eq_true rfl, Nat.le_of_ble_eq_true rfl⟩ ⟨Nat.le_of_ble_eq_true rfl, Nat.le_of_ble_eq_true rfl⟩ (fun v1 h1 hl1 hk1 hm1 => ?_)
  obtain ⟨r3, a3, rfl, rfl, Wq⟩ := hk1
  refine xe_if_eq 13 dX8_kindSpelt_6 (by decide) (fun c_6 => ?_) (fun c_6 => ?_)
  · replace Wq := Wq.1 c_6
    refine xe_aload_n dX8_kindSpelt_13 rfl q_rvO ?_
    refine xe_ldcS (k := 2) hX (by decide) ⟨rfl, rfl⟩ dX8_kindSpelt_14 ?_
    refine xe_cv (y' := mX8_spells) dX8_kindSpelt_16 (Or.inl lX8_71) tX8_spells rfl rfl (ct_X8_spells hS hX Wq) rfl rfl (Nat.le_of_ble_eq_true rfl) ⟨Nat.le_of_ble_eq_true rfl, Nat.le_of_ble_eq_true rfl⟩ ⟨Nat.le_of_ble_eq_true rfl, Nat.le_of_ble_eq_true rfl⟩ (fun v1 h1 hl1 hk1 hm1 => ?_)
    obtain ⟨r16, a16, rfl, rfl, Wq⟩ := hk1
    refine xe_if_eq 26 dX8_kindSpelt_19 (by decide) (fun c_19 => ?_) (fun c_19 => ?_)
    · replace Wq := Wq.1 c_19
      refine xe_aload_n dX8_kindSpelt_26 rfl q_rvO ?_
      refine xe_ldcS (k := 3) hX (by decide) ⟨rfl, rfl⟩ dX8_kindSpelt_27 ?_
      refine xe_cv (y' := mX8_spells) dX8_kindSpelt_29 (Or.inl lX8_71) tX8_spells rfl rfl (ct_X8_spells hS hX Wq) rfl rfl (Nat.le_of_ble_eq_true rfl) ⟨Nat.le_of_ble_eq_true rfl, Nat.le_of_ble_eq_true rfl⟩ ⟨Nat.le_of_ble_eq_true rfl, Nat.le_of_ble_eq_true rfl⟩ (fun v1 h1 hl1 hk1 hm1 => ?_)
      obtain ⟨r29, a29, rfl, rfl, Wq⟩ := hk1
      refine xe_if_eq 39 dX8_kindSpelt_32 (by decide) (fun c_32 => ?_) (fun c_32 => ?_)
      · replace Wq := Wq.1 c_32
        refine xe_aload_n dX8_kindSpelt_39 rfl q_rvO ?_
        refine xe_ldcS (k := 4) hX (by decide) ⟨rfl, rfl⟩ dX8_kindSpelt_40 ?_
        refine xe_cv (y' := mX8_spells) dX8_kindSpelt_42 (Or.inl lX8_71) tX8_spells rfl rfl (ct_X8_spells hS hX Wq) rfl rfl (Nat.le_of_ble_eq_true rfl) ⟨Nat.le_of_ble_eq_true rfl, Nat.le_of_ble_eq_true rfl⟩ ⟨Nat.le_of_ble_eq_true rfl, Nat.le_of_ble_eq_true rfl⟩ (fun v1 h1 hl1 hk1 hm1 => ?_)
        obtain ⟨r42, a42, rfl, rfl, Wq⟩ := hk1
        refine xe_if_eq 52 dX8_kindSpelt_45 (by decide) (fun c_45 => ?_) (fun c_45 => ?_)
        · replace Wq := Wq.1 c_45
          refine xe_iconst (-1) dX8_kindSpelt_52 (by decide) ?_
          exact xe_iret .int dX8_kindSpelt_53 rfl rfl ⟨_, _, rfl, rfl, Wq⟩
        · replace Wq := Wq.2 c_45
          refine xe_iconst 3 dX8_kindSpelt_48 (by decide) ?_
          refine xe_goto 53 dX8_kindSpelt_49 (by decide) ?_
          exact xe_iret .int dX8_kindSpelt_53 rfl rfl ⟨_, _, rfl, rfl, Wq⟩
      · replace Wq := Wq.2 c_32
        refine xe_iconst 2 dX8_kindSpelt_35 (by decide) ?_
        refine xe_goto 53 dX8_kindSpelt_36 (by decide) ?_
        exact xe_iret .int dX8_kindSpelt_53 rfl rfl ⟨_, _, rfl, rfl, Wq⟩
    · replace Wq := Wq.2 c_19
      refine xe_iconst 1 dX8_kindSpelt_22 (by decide) ?_
      refine xe_goto 53 dX8_kindSpelt_23 (by decide) ?_
      exact xe_iret .int dX8_kindSpelt_53 rfl rfl ⟨_, _, rfl, rfl, Wq⟩
  · replace Wq := Wq.2 c_6
    refine xe_iconst 0 dX8_kindSpelt_9 (by decide) ?_
    refine xe_goto 53 dX8_kindSpelt_10 (by decide) ?_
    exact xe_iret .int dX8_kindSpelt_53 rfl rfl ⟨_, _, rfl, rfl, Wq⟩
def wp_X8_measureSpelt (t p : Nat) (a : qa) (post : Int32 → qa → Prop) : Prop := wp_X8_spells t p 5 a (fun r3 a3 => ((r3 = 0 → wp_X8_spells t p 6 a3 (fun r16 a16 => ((r16 = 0 → wp_X8_spells t p 7 a16 (fun r29 a29 => ((r29 = 0 → post (-1) a29) ∧ (¬ r29 = 0 → post 2 a29)))) ∧ (¬ r16 = 0 → post 1 a16)))) ∧ (¬ r3 = 0 → post 0 a3)))
set_option maxHeartbeats 4000000 in
theorem ct_X8_measureSpelt {g : q_G} {s : q_S} {t p : Nat} (hS : q_Sh t p s) (hX : q_gX g) {a : qa} {post : Int32 → qa → Prop} (Wq : wp_X8_measureSpelt t p  a post) : q_Ct g mX8_measureSpelt (q_Rm 6 0 0) [q_O 8 0] (a, s) (q_kI s post) := by
  refine q_mk rfl rfl (Nat.le_of_ble_eq_true rfl) (q_cs rfl q_nil) (fun hv => ?_)
  unfold wp_X8_measureSpelt at Wq
  refine xe_aload_n dX8_measureSpelt_0 rfl q_rvO ?_
  refine xe_ldcS (k := 5) hX (by decide) ⟨rfl, rfl⟩ dX8_measureSpelt_1 ?_
  refine xe_cv (y' := mX8_spells) dX8_measureSpelt_3 (Or.inl lX8_71) tX8_spells rfl rfl (ct_X8_spells hS hX Wq) rfl rfl (Nat.le_of_ble_eq_true rfl) ⟨Nat.le_of_ble_eq_true rfl, Nat.le_of_ble_eq_true rfl⟩ ⟨Nat.le_of_ble_eq_true rfl, Nat.le_of_ble_eq_true rfl⟩ (fun v1 h1 hl1 hk1 hm1 => ?_)
  obtain ⟨r3, a3, rfl, rfl, Wq⟩ := hk1
  refine xe_if_eq 13 dX8_measureSpelt_6 (by decide) (fun c_6 => ?_) (fun c_6 => ?_)
  · replace Wq := Wq.1 c_6
    refine xe_aload_n dX8_measureSpelt_13 rfl q_rvO ?_
    refine xe_ldcS (k := 6) hX (by decide) ⟨rfl, rfl⟩ dX8_measureSpelt_14 ?_
    refine xe_cv (y' := mX8_spells) dX8_measureSpelt_16 (Or.inl lX8_71) tX8_spells rfl rfl (ct_X8_spells hS hX Wq) rfl rfl (Nat.le_of_ble_eq_true rfl) ⟨Nat.le_of_ble_eq_true rfl, Nat.le_of_ble_eq_true rfl⟩ ⟨Nat.le_of_ble_eq_true rfl, Nat.le_of_ble_eq_true rfl⟩ (fun v1 h1 hl1 hk1 hm1 => ?_)
    obtain ⟨r16, a16, rfl, rfl, Wq⟩ := hk1
    refine xe_if_eq 26 dX8_measureSpelt_19 (by decide) (fun c_19 => ?_) (fun c_19 => ?_)
    · replace Wq := Wq.1 c_19
      refine xe_aload_n dX8_measureSpelt_26 rfl q_rvO ?_
      refine xe_ldcS (k := 7) hX (by decide) ⟨rfl, rfl⟩ dX8_measureSpelt_27 ?_
      refine xe_cv (y' := mX8_spells) dX8_measureSpelt_29 (Or.inl lX8_71) tX8_spells rfl rfl (ct_X8_spells hS hX Wq) rfl rfl (Nat.le_of_ble_eq_true rfl) ⟨Nat.le_of_ble_eq_true rfl, Nat.le_of_ble_eq_true rfl⟩ ⟨Nat.le_of_ble_eq_true rfl, Nat.le_of_ble_eq_true rfl⟩ (fun v1 h1 hl1 hk1 hm1 => ?_)
      obtain ⟨r29, a29, rfl, rfl, Wq⟩ := hk1
      refine xe_if_eq 39 dX8_measureSpelt_32 (by decide) (fun c_32 => ?_) (fun c_32 => ?_)
      · replace Wq := Wq.1 c_32
        refine xe_iconst (-1) dX8_measureSpelt_39 (by decide) ?_
        exact xe_iret .int dX8_measureSpelt_40 rfl rfl ⟨_, _, rfl, rfl, Wq⟩
      · replace Wq := Wq.2 c_32
        refine xe_iconst 2 dX8_measureSpelt_35 (by decide) ?_
        refine xe_goto 40 dX8_measureSpelt_36 (by decide) ?_
        exact xe_iret .int dX8_measureSpelt_40 rfl rfl ⟨_, _, rfl, rfl, Wq⟩
    · replace Wq := Wq.2 c_19
      refine xe_iconst 1 dX8_measureSpelt_22 (by decide) ?_
      refine xe_goto 40 dX8_measureSpelt_23 (by decide) ?_
      exact xe_iret .int dX8_measureSpelt_40 rfl rfl ⟨_, _, rfl, rfl, Wq⟩
  · replace Wq := Wq.2 c_6
    refine xe_iconst 0 dX8_measureSpelt_9 (by decide) ?_
    refine xe_goto 40 dX8_measureSpelt_10 (by decide) ?_
    exact xe_iret .int dX8_measureSpelt_40 rfl rfl ⟨_, _, rfl, rfl, Wq⟩
def wl_X8_cutWord_44 (t p : Nat) (post : Int32 → qa → Prop) : qa → Prop := fun a => wp_X8_spells t p 0 a (fun r47 a47 => ((r47 = 0 → wp_X8_kindSpelt t p  a47 (fun r61 a61 => ((r61 = (-1) → wp_X8_measureSpelt t p  a61 (fun r78 a78 => ((¬ r78 = (-1) → wp_X8_add t p 4 r78 a78 (fun r94 a94 => post r94 a94)) ∧ (r78 = (-1) → wp_X8_add t p 1 r78 a78 (fun r94 a94 => post r94 a94))))) ∧ (¬ r61 = (-1) → wp_X8_add t p 3 r61 a61 (fun r73 a73 => post r73 a73))))) ∧ (¬ r47 = 0 → wp_X8_add t p 5 0 a47 (fun r56 a56 => post r56 a56))))
def wl_X8_cutWord_0 (t p : Nat) (post : Int32 → qa → Prop) : Nat → qa → Prop
  | 0 => fun _ => False
  | n + 1 => fun a => (((a 7 0 1) ≤ (a 8 0 6) → wl_X8_cutWord_44 t p post  a) ∧ (¬ (a 7 0 1) ≤ (a 8 0 6) → wp_X7_byteAt t p (a 8 0 6) a (fun r22 a22 => wp_X8_isLetter t p r22 a22 (fun r25 a25 => ((r25 = 0 → wl_X8_cutWord_44 t p post  a25) ∧ (¬ r25 = 0 → (wl_X8_cutWord_0 t p post n)  (qs a25 8 0 6 ((a25 8 0 6) + 1))))))))
def wp_X8_cutWord (t p : Nat) (a : qa) (post : Int32 → qa → Prop) : Prop := ∃ n_0, wl_X8_cutWord_0 t p post n_0 a
set_option maxHeartbeats 4000000 in
theorem el_X8_cutWord_44 {g : q_G} {s : q_S} {t p : Nat} (hS : q_Sh t p s) (hX : q_gX g) {post : Int32 → qa → Prop} : ∀ (a : qa), wl_X8_cutWord_44 t p post a → q_E g mX8_cutWord (q_Rm 7 0 0) (q_kI s post) (0, 0) 44 [some (q_O 8 0), none, none] [] (a, s) := by
  intro a Wq
  unfold wl_X8_cutWord_44 at Wq
  refine xe_aload_n dX8_cutWord_44 rfl q_rvO ?_
  refine xe_ldcS (k := 0) hX (by decide) ⟨rfl, rfl⟩ dX8_cutWord_45 ?_
  refine xe_cv (y' := mX8_spells) dX8_cutWord_47 (Or.inl lX8_71) tX8_spells rfl rfl (ct_X8_spells hS hX Wq) rfl rfl (Nat.le_of_ble_eq_true rfl) ⟨Nat.le_of_ble_eq_true rfl, Nat.le_of_ble_eq_true rfl⟩ ⟨Nat.le_of_ble_eq_true rfl, Nat.le_of_ble_eq_true rfl⟩ (fun v1 h1 hl1 hk1 hm1 => ?_)
  obtain ⟨r47, a47, rfl, rfl, Wq⟩ := hk1
  refine xe_if_eq 60 dX8_cutWord_50 (by decide) (fun c_50 => ?_) (fun c_50 => ?_)
  · replace Wq := Wq.1 c_50
    refine xe_aload_n dX8_cutWord_60 rfl q_rvO ?_
    refine xe_cv (y' := mX8_kindSpelt) dX8_cutWord_61 (Or.inl lX8_75) tX8_kindSpelt rfl rfl (ct_X8_kindSpelt hS hX Wq) rfl rfl (Nat.le_of_ble_eq_true rfl) ⟨Nat.le_of_ble_eq_true rfl, Nat.le_of_ble_eq_true rfl⟩ ⟨Nat.le_of_ble_eq_true rfl, Nat.le_of_ble_eq_true rfl⟩ (fun v1 h1 hl1 hk1 hm1 => ?_)
    obtain ⟨r61, a61, rfl, rfl, Wq⟩ := hk1
    refine xe_istore_n dX8_cutWord_64 (by decide) ?_
    refine xe_iload_n dX8_cutWord_65 rfl ?_
    refine xe_iconst (-1) dX8_cutWord_66 (by decide) ?_
    refine xe_ic_eq 77 dX8_cutWord_67 (by decide) (fun c_67 => ?_) (fun c_67 => ?_)
    · replace Wq := Wq.1 c_67
      refine xe_aload_n dX8_cutWord_77 rfl q_rvO ?_
      refine xe_cv (y' := mX8_measureSpelt) dX8_cutWord_78 (Or.inl lX8_78) tX8_measureSpelt rfl rfl (ct_X8_measureSpelt hS hX Wq) rfl rfl (Nat.le_of_ble_eq_true rfl) ⟨Nat.le_of_ble_eq_true rfl, Nat.le_of_ble_eq_true rfl⟩ ⟨Nat.le_of_ble_eq_true rfl, Nat.le_of_ble_eq_true rfl⟩ (fun v1 h1 hl1 hk1 hm1 => ?_)
      obtain ⟨r78, a78, rfl, rfl, Wq⟩ := hk1
      refine xe_istore_n dX8_cutWord_81 (by decide) ?_
      refine xe_aload_n dX8_cutWord_82 rfl q_rvO ?_
      refine xe_iload_n dX8_cutWord_83 rfl ?_
      refine xe_iconst (-1) dX8_cutWord_84 (by decide) ?_
      refine xe_ic_ne 92 dX8_cutWord_85 (by decide) (fun c_85 => ?_) (fun c_85 => ?_)
      · replace Wq := Wq.1 c_85
        refine xe_iconst 4 dX8_cutWord_92 (by decide) ?_
        refine xe_iload_n dX8_cutWord_93 rfl ?_
        refine xe_cv (y' := mX8_add) dX8_cutWord_94 (Or.inl lX8_50) tX8_add rfl rfl (ct_X8_add hS Wq) rfl rfl (Nat.le_of_ble_eq_true rfl) ⟨Nat.le_of_ble_eq_true rfl, Nat.le_of_ble_eq_true rfl⟩ ⟨Nat.le_of_ble_eq_true rfl, Nat.le_of_ble_eq_true rfl⟩ (fun v1 h1 hl1 hk1 hm1 => ?_)
        obtain ⟨r94, a94, rfl, rfl, Wq⟩ := hk1
        exact xe_iret .int dX8_cutWord_97 rfl rfl ⟨_, _, rfl, rfl, Wq⟩
      · replace Wq := Wq.2 c_85
        refine xe_iconst 1 dX8_cutWord_88 (by decide) ?_
        refine xe_goto 93 dX8_cutWord_89 (by decide) ?_
        refine xe_iload_n dX8_cutWord_93 rfl ?_
        refine xe_cv (y' := mX8_add) dX8_cutWord_94 (Or.inl lX8_50) tX8_add rfl rfl (ct_X8_add hS Wq) rfl rfl (Nat.le_of_ble_eq_true rfl) ⟨Nat.le_of_ble_eq_true rfl, Nat.le_of_ble_eq_true rfl⟩ ⟨Nat.le_of_ble_eq_true rfl, Nat.le_of_ble_eq_true rfl⟩ (fun v1 h1 hl1 hk1 hm1 => ?_)
        obtain ⟨r94, a94, rfl, rfl, Wq⟩ := hk1
        exact xe_iret .int dX8_cutWord_97 rfl rfl ⟨_, _, rfl, rfl, Wq⟩
    · replace Wq := Wq.2 c_67
      refine xe_aload_n dX8_cutWord_70 rfl q_rvO ?_
      refine xe_iconst 3 dX8_cutWord_71 (by decide) ?_
      refine xe_iload_n dX8_cutWord_72 rfl ?_
      refine xe_cv (y' := mX8_add) dX8_cutWord_73 (Or.inl lX8_50) tX8_add rfl rfl (ct_X8_add hS Wq) rfl rfl (Nat.le_of_ble_eq_true rfl) ⟨Nat.le_of_ble_eq_true rfl, Nat.le_of_ble_eq_true rfl⟩ ⟨Nat.le_of_ble_eq_true rfl, Nat.le_of_ble_eq_true rfl⟩ (fun v1 h1 hl1 hk1 hm1 => ?_)
      obtain ⟨r73, a73, rfl, rfl, Wq⟩ := hk1
      exact xe_iret .int dX8_cutWord_76 rfl rfl ⟨_, _, rfl, rfl, Wq⟩
  · replace Wq := Wq.2 c_50
    refine xe_aload_n dX8_cutWord_53 rfl q_rvO ?_
    refine xe_iconst 5 dX8_cutWord_54 (by decide) ?_
    refine xe_iconst 0 dX8_cutWord_55 (by decide) ?_
    refine xe_cv (y' := mX8_add) dX8_cutWord_56 (Or.inl lX8_50) tX8_add rfl rfl (ct_X8_add hS Wq) rfl rfl (Nat.le_of_ble_eq_true rfl) ⟨Nat.le_of_ble_eq_true rfl, Nat.le_of_ble_eq_true rfl⟩ ⟨Nat.le_of_ble_eq_true rfl, Nat.le_of_ble_eq_true rfl⟩ (fun v1 h1 hl1 hk1 hm1 => ?_)
    obtain ⟨r56, a56, rfl, rfl, Wq⟩ := hk1
    exact xe_iret .int dX8_cutWord_59 rfl rfl ⟨_, _, rfl, rfl, Wq⟩
set_option maxHeartbeats 4000000 in
theorem el_X8_cutWord_0 {g : q_G} {s : q_S} {t p : Nat} (hS : q_Sh t p s) (hX : q_gX g) {post : Int32 → qa → Prop} : ∀ (n : Nat) (a : qa), wl_X8_cutWord_0 t p post n a → q_E g mX8_cutWord (q_Rm 7 0 0) (q_kI s post) (0, 0) 0 [some (q_O 8 0), none, none] [] (a, s) := by
  intro n
  induction n with
  | zero =>
    intro a Wq
    exact absurd Wq id
  | succ n ih =>
    intro a Wq
    unfold wl_X8_cutWord_0 at Wq
    refine xe_aload_n dX8_cutWord_0 rfl q_rvO ?_
    refine xe_geti dX8_cutWord_1 fX8_28 (fun _ _ => rfl) ?_
    refine xe_aload_n dX8_cutWord_4 rfl q_rvO ?_
    refine xe_getr dX8_cutWord_5 fX8_31 (fun _ _ => rfl) (q_sg hS rfl) ?_
    refine xe_geti dX8_cutWord_8 fX8_39 (fun _ _ => rfl) ?_
    refine xe_ic_ge 44 dX8_cutWord_11 (by decide) (fun c_11 => ?_) (fun c_11 => ?_)
    · replace Wq := Wq.1 c_11
      refine q_wk (ls := [some (q_O 8 0), none, none]) ⟨rfl, trivial⟩ ?_
      exact el_X8_cutWord_44 hS hX  _ Wq
    · replace Wq := Wq.2 c_11
      refine xe_aload_n dX8_cutWord_14 rfl q_rvO ?_
      refine xe_getr dX8_cutWord_15 fX8_31 (fun _ _ => rfl) (q_sg hS rfl) ?_
      refine xe_aload_n dX8_cutWord_18 rfl q_rvO ?_
      refine xe_geti dX8_cutWord_19 fX8_28 (fun _ _ => rfl) ?_
      refine xe_cv (y' := mX7_byteAt) dX8_cutWord_22 (Or.inl lX8_42) tX7_byteAt rfl rfl (ct_X7_byteAt hS Wq) rfl rfl (Nat.le_of_ble_eq_true rfl) ⟨Nat.le_of_ble_eq_true rfl, Nat.le_of_ble_eq_true rfl⟩ ⟨Nat.le_of_ble_eq_true rfl, Nat.le_of_ble_eq_true rfl⟩ (fun v1 h1 hl1 hk1 hm1 => ?_)
      obtain ⟨r22, a22, rfl, rfl, Wq⟩ := hk1
      refine xe_cs (y' := mX8_isLetter) dX8_cutWord_25 (Or.inl lX8_54) tX8_isLetter (ct_X8_isLetter hS Wq) rfl rfl (Nat.le_of_ble_eq_true rfl) ⟨Nat.le_of_ble_eq_true rfl, Nat.le_of_ble_eq_true rfl⟩ ⟨Nat.le_of_ble_eq_true rfl, Nat.le_of_ble_eq_true rfl⟩ (fun v1 h1 hl1 hk1 hm1 => ?_)
      obtain ⟨r25, a25, rfl, rfl, Wq⟩ := hk1
      refine xe_if_eq 44 dX8_cutWord_28 (by decide) (fun c_28 => ?_) (fun c_28 => ?_)
      · replace Wq := Wq.1 c_28
        refine q_wk (ls := [some (q_O 8 0), none, none]) ⟨rfl, trivial⟩ ?_
        exact el_X8_cutWord_44 hS hX  _ Wq
      · replace Wq := Wq.2 c_28
        refine xe_aload_n dX8_cutWord_31 rfl q_rvO ?_
        refine xe_dup dX8_cutWord_32 rfl ?_
        refine xe_geti dX8_cutWord_33 fX8_28 (fun _ _ => rfl) ?_
        refine xe_iconst 1 dX8_cutWord_36 (by decide) ?_
        refine xe_iadd dX8_cutWord_37 ?_
        refine xf_puti dX8_cutWord_38 fX8_28 (fun q hq => Or.inl (by cases hq; rfl)) ⟨rfl, rfl⟩ (fun _ _ => rfl) ?_
        refine xe_goto 0 dX8_cutWord_41 (by decide) ?_
        refine q_wk (ls := [some (q_O 8 0), none, none]) ⟨rfl, trivial⟩ ?_
        exact ih  _ Wq
set_option maxHeartbeats 4000000 in
theorem ct_X8_cutWord {g : q_G} {s : q_S} {t p : Nat} (hS : q_Sh t p s) (hX : q_gX g) {a : qa} {post : Int32 → qa → Prop} (Wq : wp_X8_cutWord t p  a post) : q_Ct g mX8_cutWord (q_Rm 7 0 0) [q_O 8 0] (a, s) (q_kI s post) := by
  refine q_mk rfl rfl (Nat.le_of_ble_eq_true rfl) (q_cs rfl q_nil) (fun hv => ?_)
  unfold wp_X8_cutWord at Wq
  obtain ⟨n_0, Wq⟩ := Wq
  refine q_wk (ls := [some (q_O 8 0), none, none]) ⟨rfl, trivial⟩ ?_
  exact el_X8_cutWord_0 hS hX n_0  _ Wq
def wl_X8_cutToken_83 (t p : Nat) (post : Int32 → qa → Prop) : Int32 → Int32 → qa → Prop := fun x1 y1 a => ((¬ x1 = (-1) → wp_X8_isLetter t p x1 (qs a 8 0 6 y1) (fun r99 a99 => ((r99 = 0 → wp_X8_isDigit t p x1 a99 (fun r111 a111 => ((r111 = 0 → wp_X8_signType t p x1 a111 (fun r126 a126 => wp_X8_add t p r126 x1 a126 (fun r130 a130 => post r130 a130))) ∧ (¬ r111 = 0 → wp_X8_cutNumber t p  a111 (fun r118 a118 => post r118 a118))))) ∧ (¬ r99 = 0 → wp_X8_cutWord t p  a99 (fun r106 a106 => post r106 a106))))) ∧ (x1 = (-1) → wp_X8_add t p 0 0 (qs a 8 0 6 y1) (fun r94 a94 => post r94 a94)))
def wl_X8_cutToken_52 (t p : Nat) (post : Int32 → qa → Prop) : qa → Prop := fun a => wp_X7_byteAt t p (a 8 0 5) a (fun r60 a60 => ((¬ r60 = (-1) → wl_X8_cutToken_83 t p post r60 ((a60 8 0 5) + 1) a60) ∧ (r60 = (-1) → wl_X8_cutToken_83 t p post r60 (a60 8 0 5) a60)))
def wl_X8_cutToken_8 (t p : Nat) (post : Int32 → qa → Prop) : Nat → qa → Prop
  | 0 => fun _ => False
  | n + 1 => fun a => (((a 7 0 1) ≤ (a 8 0 5) → wl_X8_cutToken_52 t p post  a) ∧ (¬ (a 7 0 1) ≤ (a 8 0 5) → wp_X7_byteAt t p (a 8 0 5) a (fun r30 a30 => wp_X8_isBlank t p r30 a30 (fun r33 a33 => ((r33 = 0 → wl_X8_cutToken_52 t p post  a33) ∧ (¬ r33 = 0 → (wl_X8_cutToken_8 t p post n)  (qs a33 8 0 5 ((a33 8 0 5) + 1))))))))
def wp_X8_cutToken (t p : Nat) (a : qa) (post : Int32 → qa → Prop) : Prop := ∃ n_8, wl_X8_cutToken_8 t p post n_8 (qs a 8 0 5 (a 8 0 6))
set_option maxHeartbeats 4000000 in
theorem el_X8_cutToken_83 {g : q_G} {s : q_S} {t p : Nat} (hS : q_Sh t p s) (hX : q_gX g) {post : Int32 → qa → Prop} : ∀ (x1 : Int32) (y1 : Int32) (a : qa), wl_X8_cutToken_83 t p post x1 y1 a → q_E g mX8_cutToken (q_Rm 8 0 0) (q_kI s post) (0, 0) 83 [some (q_O 8 0), some (q_I x1)] [(q_I y1), (q_O 8 0)] (a, s) := by
  intro x1 y1 a Wq
  unfold wl_X8_cutToken_83 at Wq
  refine xf_puti dX8_cutToken_83 fX8_28 (fun q hq => Or.inl (by cases hq; rfl)) ⟨rfl, rfl⟩ (fun _ _ => rfl) ?_
  refine xe_iload_n dX8_cutToken_86 rfl ?_
  refine xe_iconst (-1) dX8_cutToken_87 (by decide) ?_
  refine xe_ic_ne 98 dX8_cutToken_88 (by decide) (fun c_88 => ?_) (fun c_88 => ?_)
  · replace Wq := Wq.1 c_88
    refine xe_iload_n dX8_cutToken_98 rfl ?_
    refine xe_cs (y' := mX8_isLetter) dX8_cutToken_99 (Or.inl lX8_54) tX8_isLetter (ct_X8_isLetter hS Wq) rfl rfl (Nat.le_of_ble_eq_true rfl) ⟨Nat.le_of_ble_eq_true rfl, Nat.le_of_ble_eq_true rfl⟩ ⟨Nat.le_of_ble_eq_true rfl, Nat.le_of_ble_eq_true rfl⟩ (fun v1 h1 hl1 hk1 hm1 => ?_)
    obtain ⟨r99, a99, rfl, rfl, Wq⟩ := hk1
    refine xe_if_eq 110 dX8_cutToken_102 (by decide) (fun c_102 => ?_) (fun c_102 => ?_)
    · replace Wq := Wq.1 c_102
      refine xe_iload_n dX8_cutToken_110 rfl ?_
      refine xe_cs (y' := mX8_isDigit) dX8_cutToken_111 (Or.inl lX8_60) tX8_isDigit (ct_X8_isDigit hS Wq) rfl rfl (Nat.le_of_ble_eq_true rfl) ⟨Nat.le_of_ble_eq_true rfl, Nat.le_of_ble_eq_true rfl⟩ ⟨Nat.le_of_ble_eq_true rfl, Nat.le_of_ble_eq_true rfl⟩ (fun v1 h1 hl1 hk1 hm1 => ?_)
      obtain ⟨r111, a111, rfl, rfl, Wq⟩ := hk1
      refine xe_if_eq 124 dX8_cutToken_114 (by decide) (fun c_114 => ?_) (fun c_114 => ?_)
      · replace Wq := Wq.1 c_114
        refine xe_aload_n dX8_cutToken_124 rfl q_rvO ?_
        refine xe_iload_n dX8_cutToken_125 rfl ?_
        refine xe_cs (y' := mX8_signType) dX8_cutToken_126 (Or.inl lX8_66) tX8_signType (ct_X8_signType hS Wq) rfl rfl (Nat.le_of_ble_eq_true rfl) ⟨Nat.le_of_ble_eq_true rfl, Nat.le_of_ble_eq_true rfl⟩ ⟨Nat.le_of_ble_eq_true rfl, Nat.le_of_ble_eq_true rfl⟩ (fun v1 h1 hl1 hk1 hm1 => ?_)
        obtain ⟨r126, a126, rfl, rfl, Wq⟩ := hk1
        refine xe_iload_n dX8_cutToken_129 rfl ?_
        refine xe_cv (y' := mX8_add) dX8_cutToken_130 (Or.inl lX8_50) tX8_add rfl rfl (ct_X8_add hS Wq) rfl rfl (Nat.le_of_ble_eq_true rfl) ⟨Nat.le_of_ble_eq_true rfl, Nat.le_of_ble_eq_true rfl⟩ ⟨Nat.le_of_ble_eq_true rfl, Nat.le_of_ble_eq_true rfl⟩ (fun v1 h1 hl1 hk1 hm1 => ?_)
        obtain ⟨r130, a130, rfl, rfl, Wq⟩ := hk1
        exact xe_iret .int dX8_cutToken_133 rfl rfl ⟨_, _, rfl, rfl, Wq⟩
      · replace Wq := Wq.2 c_114
        refine xe_aload_n dX8_cutToken_117 rfl q_rvO ?_
        refine xe_cv (y' := mX8_cutNumber) dX8_cutToken_118 (Or.inl lX8_63) tX8_cutNumber rfl rfl (ct_X8_cutNumber hS Wq) rfl rfl (Nat.le_of_ble_eq_true rfl) ⟨Nat.le_of_ble_eq_true rfl, Nat.le_of_ble_eq_true rfl⟩ ⟨Nat.le_of_ble_eq_true rfl, Nat.le_of_ble_eq_true rfl⟩ (fun v1 h1 hl1 hk1 hm1 => ?_)
        obtain ⟨r118, a118, rfl, rfl, Wq⟩ := hk1
        refine xe_goto 133 dX8_cutToken_121 (by decide) ?_
        exact xe_iret .int dX8_cutToken_133 rfl rfl ⟨_, _, rfl, rfl, Wq⟩
    · replace Wq := Wq.2 c_102
      refine xe_aload_n dX8_cutToken_105 rfl q_rvO ?_
      refine xe_cv (y' := mX8_cutWord) dX8_cutToken_106 (Or.inl lX8_57) tX8_cutWord rfl rfl (ct_X8_cutWord hS hX Wq) rfl rfl (Nat.le_of_ble_eq_true rfl) ⟨Nat.le_of_ble_eq_true rfl, Nat.le_of_ble_eq_true rfl⟩ ⟨Nat.le_of_ble_eq_true rfl, Nat.le_of_ble_eq_true rfl⟩ (fun v1 h1 hl1 hk1 hm1 => ?_)
      obtain ⟨r106, a106, rfl, rfl, Wq⟩ := hk1
      exact xe_iret .int dX8_cutToken_109 rfl rfl ⟨_, _, rfl, rfl, Wq⟩
  · replace Wq := Wq.2 c_88
    refine xe_aload_n dX8_cutToken_91 rfl q_rvO ?_
    refine xe_iconst 0 dX8_cutToken_92 (by decide) ?_
    refine xe_iconst 0 dX8_cutToken_93 (by decide) ?_
    refine xe_cv (y' := mX8_add) dX8_cutToken_94 (Or.inl lX8_50) tX8_add rfl rfl (ct_X8_add hS Wq) rfl rfl (Nat.le_of_ble_eq_true rfl) ⟨Nat.le_of_ble_eq_true rfl, Nat.le_of_ble_eq_true rfl⟩ ⟨Nat.le_of_ble_eq_true rfl, Nat.le_of_ble_eq_true rfl⟩ (fun v1 h1 hl1 hk1 hm1 => ?_)
    obtain ⟨r94, a94, rfl, rfl, Wq⟩ := hk1
    exact xe_iret .int dX8_cutToken_97 rfl rfl ⟨_, _, rfl, rfl, Wq⟩
set_option maxHeartbeats 4000000 in
theorem el_X8_cutToken_52 {g : q_G} {s : q_S} {t p : Nat} (hS : q_Sh t p s) (hX : q_gX g) {post : Int32 → qa → Prop} : ∀ (a : qa), wl_X8_cutToken_52 t p post a → q_E g mX8_cutToken (q_Rm 8 0 0) (q_kI s post) (0, 0) 52 [some (q_O 8 0), none] [] (a, s) := by
  intro a Wq
  unfold wl_X8_cutToken_52 at Wq
  refine xe_aload_n dX8_cutToken_52 rfl q_rvO ?_
  refine xe_getr dX8_cutToken_53 fX8_31 (fun _ _ => rfl) (q_sg hS rfl) ?_
  refine xe_aload_n dX8_cutToken_56 rfl q_rvO ?_
  refine xe_geti dX8_cutToken_57 fX8_25 (fun _ _ => rfl) ?_
  refine xe_cv (y' := mX7_byteAt) dX8_cutToken_60 (Or.inl lX8_42) tX7_byteAt rfl rfl (ct_X7_byteAt hS Wq) rfl rfl (Nat.le_of_ble_eq_true rfl) ⟨Nat.le_of_ble_eq_true rfl, Nat.le_of_ble_eq_true rfl⟩ ⟨Nat.le_of_ble_eq_true rfl, Nat.le_of_ble_eq_true rfl⟩ (fun v1 h1 hl1 hk1 hm1 => ?_)
  obtain ⟨r60, a60, rfl, rfl, Wq⟩ := hk1
  refine xe_istore_n dX8_cutToken_63 (by decide) ?_
  refine xe_aload_n dX8_cutToken_64 rfl q_rvO ?_
  refine xe_iload_n dX8_cutToken_65 rfl ?_
  refine xe_iconst (-1) dX8_cutToken_66 (by decide) ?_
  refine xe_ic_ne 77 dX8_cutToken_67 (by decide) (fun c_67 => ?_) (fun c_67 => ?_)
  · replace Wq := Wq.1 c_67
    refine xe_aload_n dX8_cutToken_77 rfl q_rvO ?_
    refine xe_geti dX8_cutToken_78 fX8_25 (fun _ _ => rfl) ?_
    refine xe_iconst 1 dX8_cutToken_81 (by decide) ?_
    refine xe_iadd dX8_cutToken_82 ?_
    refine q_wk (ls := [some (q_O 8 0), some (q_I r60)]) ⟨rfl, ⟨rfl, trivial⟩⟩ ?_
    exact el_X8_cutToken_83 hS hX _ _ _ Wq
  · replace Wq := Wq.2 c_67
    refine xe_aload_n dX8_cutToken_70 rfl q_rvO ?_
    refine xe_geti dX8_cutToken_71 fX8_25 (fun _ _ => rfl) ?_
    refine xe_goto 83 dX8_cutToken_74 (by decide) ?_
    refine q_wk (ls := [some (q_O 8 0), some (q_I r60)]) ⟨rfl, ⟨rfl, trivial⟩⟩ ?_
    exact el_X8_cutToken_83 hS hX _ _ _ Wq
set_option maxHeartbeats 4000000 in
theorem el_X8_cutToken_8 {g : q_G} {s : q_S} {t p : Nat} (hS : q_Sh t p s) (hX : q_gX g) {post : Int32 → qa → Prop} : ∀ (n : Nat) (a : qa), wl_X8_cutToken_8 t p post n a → q_E g mX8_cutToken (q_Rm 8 0 0) (q_kI s post) (0, 0) 8 [some (q_O 8 0), none] [] (a, s) := by
  intro n
  induction n with
  | zero =>
    intro a Wq
    exact absurd Wq id
  | succ n ih =>
    intro a Wq
    unfold wl_X8_cutToken_8 at Wq
    refine xe_aload_n dX8_cutToken_8 rfl q_rvO ?_
    refine xe_geti dX8_cutToken_9 fX8_25 (fun _ _ => rfl) ?_
    refine xe_aload_n dX8_cutToken_12 rfl q_rvO ?_
    refine xe_getr dX8_cutToken_13 fX8_31 (fun _ _ => rfl) (q_sg hS rfl) ?_
    refine xe_geti dX8_cutToken_16 fX8_39 (fun _ _ => rfl) ?_
    refine xe_ic_ge 52 dX8_cutToken_19 (by decide) (fun c_19 => ?_) (fun c_19 => ?_)
    · replace Wq := Wq.1 c_19
      refine q_wk (ls := [some (q_O 8 0), none]) ⟨rfl, trivial⟩ ?_
      exact el_X8_cutToken_52 hS hX  _ Wq
    · replace Wq := Wq.2 c_19
      refine xe_aload_n dX8_cutToken_22 rfl q_rvO ?_
      refine xe_getr dX8_cutToken_23 fX8_31 (fun _ _ => rfl) (q_sg hS rfl) ?_
      refine xe_aload_n dX8_cutToken_26 rfl q_rvO ?_
      refine xe_geti dX8_cutToken_27 fX8_25 (fun _ _ => rfl) ?_
      refine xe_cv (y' := mX7_byteAt) dX8_cutToken_30 (Or.inl lX8_42) tX7_byteAt rfl rfl (ct_X7_byteAt hS Wq) rfl rfl (Nat.le_of_ble_eq_true rfl) ⟨Nat.le_of_ble_eq_true rfl, Nat.le_of_ble_eq_true rfl⟩ ⟨Nat.le_of_ble_eq_true rfl, Nat.le_of_ble_eq_true rfl⟩ (fun v1 h1 hl1 hk1 hm1 => ?_)
      obtain ⟨r30, a30, rfl, rfl, Wq⟩ := hk1
      refine xe_cs (y' := mX8_isBlank) dX8_cutToken_33 (Or.inl lX8_46) tX8_isBlank (ct_X8_isBlank hS Wq) rfl rfl (Nat.le_of_ble_eq_true rfl) ⟨Nat.le_of_ble_eq_true rfl, Nat.le_of_ble_eq_true rfl⟩ ⟨Nat.le_of_ble_eq_true rfl, Nat.le_of_ble_eq_true rfl⟩ (fun v1 h1 hl1 hk1 hm1 => ?_)
      obtain ⟨r33, a33, rfl, rfl, Wq⟩ := hk1
      refine xe_if_eq 52 dX8_cutToken_36 (by decide) (fun c_36 => ?_) (fun c_36 => ?_)
      · replace Wq := Wq.1 c_36
        refine q_wk (ls := [some (q_O 8 0), none]) ⟨rfl, trivial⟩ ?_
        exact el_X8_cutToken_52 hS hX  _ Wq
      · replace Wq := Wq.2 c_36
        refine xe_aload_n dX8_cutToken_39 rfl q_rvO ?_
        refine xe_dup dX8_cutToken_40 rfl ?_
        refine xe_geti dX8_cutToken_41 fX8_25 (fun _ _ => rfl) ?_
        refine xe_iconst 1 dX8_cutToken_44 (by decide) ?_
        refine xe_iadd dX8_cutToken_45 ?_
        refine xf_puti dX8_cutToken_46 fX8_25 (fun q hq => Or.inl (by cases hq; rfl)) ⟨rfl, rfl⟩ (fun _ _ => rfl) ?_
        refine xe_goto 8 dX8_cutToken_49 (by decide) ?_
        refine q_wk (ls := [some (q_O 8 0), none]) ⟨rfl, trivial⟩ ?_
        exact ih  _ Wq
set_option maxHeartbeats 4000000 in
theorem ct_X8_cutToken {g : q_G} {s : q_S} {t p : Nat} (hS : q_Sh t p s) (hX : q_gX g) {a : qa} {post : Int32 → qa → Prop} (Wq : wp_X8_cutToken t p  a post) : q_Ct g mX8_cutToken (q_Rm 8 0 0) [q_O 8 0] (a, s) (q_kI s post) := by
  refine q_mk rfl rfl (Nat.le_of_ble_eq_true rfl) (q_cs rfl q_nil) (fun hv => ?_)
  unfold wp_X8_cutToken at Wq
  refine xe_aload_n dX8_cutToken_0 rfl q_rvO ?_
  refine xe_aload_n dX8_cutToken_1 rfl q_rvO ?_
  refine xe_geti dX8_cutToken_2 fX8_28 (fun _ _ => rfl) ?_
  refine xf_puti dX8_cutToken_5 fX8_25 (fun q hq => Or.inl (by cases hq; rfl)) ⟨rfl, rfl⟩ (fun _ _ => rfl) ?_
  obtain ⟨n_8, Wq⟩ := Wq
  refine q_wk (ls := [some (q_O 8 0), none]) ⟨rfl, trivial⟩ ?_
  exact el_X8_cutToken_8 hS hX n_8  _ Wq
def wl_X8_cutTape_14 (t p : Nat) (post : qa → Prop) : Nat → Int32 → Int32 → qa → Prop
  | 0 => fun _ _ _ => False
  | n + 1 => fun x1 x2 a => ((400 < x2 → post a) ∧ (¬ 400 < x2 → ((x1 = 0 → post a) ∧ (¬ x1 = 0 → wp_X8_cutToken t p  a (fun r26 a26 => (wl_X8_cutTape_14 t p post n) r26 (x2 + 1) a26)))))
def wp_X8_cutTape (t p : Nat) (a : qa) (post : qa → Prop) : Prop := ∃ n_14, wl_X8_cutTape_14 t p post n_14 1 0 (qs (qs a 8 0 4 0) 8 0 6 0)
set_option maxHeartbeats 4000000 in
theorem el_X8_cutTape_14 {g : q_G} {s : q_S} {t p : Nat} (hS : q_Sh t p s) (hX : q_gX g) {post : qa → Prop} : ∀ (n : Nat) (x1 : Int32) (x2 : Int32) (a : qa), wl_X8_cutTape_14 t p post n x1 x2 a → q_E g mX8_cutTape (q_Rm 9 0 0) (q_kV s post) (0, 0) 14 [some (q_O 8 0), some (q_I x1), some (q_I x2)] [] (a, s) := by
  intro n
  induction n with
  | zero =>
    intro x1 x2 a Wq
    exact absurd Wq id
  | succ n ih =>
    intro x1 x2 a Wq
    unfold wl_X8_cutTape_14 at Wq
    refine xe_iload_n dX8_cutTape_14 rfl ?_
    refine xe_sipush 400 dX8_cutTape_15 (by decide) ?_
    refine xe_ic_gt 36 dX8_cutTape_18 (by decide) (fun c_18 => ?_) (fun c_18 => ?_)
    · replace Wq := Wq.1 c_18
      exact xe_vret dX8_cutTape_36 rfl ⟨_, rfl, rfl, Wq⟩
    · replace Wq := Wq.2 c_18
      refine xe_iload_n dX8_cutTape_21 rfl ?_
      refine xe_if_eq 36 dX8_cutTape_22 (by decide) (fun c_22 => ?_) (fun c_22 => ?_)
      · replace Wq := Wq.1 c_22
        exact xe_vret dX8_cutTape_36 rfl ⟨_, rfl, rfl, Wq⟩
      · replace Wq := Wq.2 c_22
        refine xe_aload_n dX8_cutTape_25 rfl q_rvO ?_
        refine xe_cv (y' := mX8_cutToken) dX8_cutTape_26 (Or.inl lX8_35) tX8_cutToken rfl rfl (ct_X8_cutToken hS hX Wq) rfl rfl (Nat.le_of_ble_eq_true rfl) ⟨Nat.le_of_ble_eq_true rfl, Nat.le_of_ble_eq_true rfl⟩ ⟨Nat.le_of_ble_eq_true rfl, Nat.le_of_ble_eq_true rfl⟩ (fun v1 h1 hl1 hk1 hm1 => ?_)
        obtain ⟨r26, a26, rfl, rfl, Wq⟩ := hk1
        refine xe_istore_n dX8_cutTape_29 (by decide) ?_
        refine xe_iinc (_ + 1) dX8_cutTape_30 (by decide) rfl rfl ?_
        refine xe_goto 14 dX8_cutTape_33 (by decide) ?_
        refine q_wk (ls := [some (q_O 8 0), some (q_I r26), some (q_I (x2 + 1))]) ⟨rfl, ⟨rfl, ⟨rfl, trivial⟩⟩⟩ ?_
        exact ih _ _ _ Wq
set_option maxHeartbeats 4000000 in
theorem ct_X8_cutTape {g : q_G} {s : q_S} {t p : Nat} (hS : q_Sh t p s) (hX : q_gX g) {a : qa} {post : qa → Prop} (Wq : wp_X8_cutTape t p  a post) : q_Ct g mX8_cutTape (q_Rm 9 0 0) [q_O 8 0] (a, s) (q_kV s post) := by
  refine q_mk rfl rfl (Nat.le_of_ble_eq_true rfl) (q_cs rfl q_nil) (fun hv => ?_)
  unfold wp_X8_cutTape at Wq
  refine xe_aload_n dX8_cutTape_0 rfl q_rvO ?_
  refine xe_iconst 0 dX8_cutTape_1 (by decide) ?_
  refine xf_puti dX8_cutTape_2 fX8_21 (fun q hq => Or.inl (by cases hq; rfl)) ⟨rfl, rfl⟩ (fun _ _ => rfl) ?_
  refine xe_aload_n dX8_cutTape_5 rfl q_rvO ?_
  refine xe_iconst 0 dX8_cutTape_6 (by decide) ?_
  refine xf_puti dX8_cutTape_7 fX8_28 (fun q hq => Or.inl (by cases hq; rfl)) ⟨rfl, rfl⟩ (fun _ _ => rfl) ?_
  refine xe_iconst 1 dX8_cutTape_10 (by decide) ?_
  refine xe_istore_n dX8_cutTape_11 (by decide) ?_
  refine xe_iconst 0 dX8_cutTape_12 (by decide) ?_
  refine xe_istore_n dX8_cutTape_13 (by decide) ?_
  obtain ⟨n_14, Wq⟩ := Wq
  refine q_wk (ls := [some (q_O 8 0), some (q_I 1), some (q_I 0)]) ⟨rfl, ⟨rfl, ⟨rfl, trivial⟩⟩⟩ ?_
  exact el_X8_cutTape_14 hS hX n_14 _ _ _ Wq
def wl_X5_readInto_72 (t p : Nat) (J30 : Nat → Int32 → Int32 → qa → Prop) (post : Int32 → qa → Prop) : Nat → Int32 → qa → Prop := fun o1 x3 a => ((¬ x3 = 20 → wp_X5_readRule t p o1 a (fun r89 a89 => J30 o1 r89 (x3 + 1) a89)) ∧ (x3 = 20 → wp_X5_fail t p 2 a (fun r80 a80 => J30 o1 r80 (x3 + 1) a80)))
def wl_X5_readInto_30 (t p : Nat) (post : Int32 → qa → Prop) : Nat → Nat → Int32 → Int32 → qa → Prop
  | 0 => fun _ _ _ _ => False
  | n + 1 => fun o1 x2 x3 a => ((x2 = 0 → post (a 5 0 4) a) ∧ (¬ x2 = 0 → (((a 5 0 2) = 0 → post (a 5 0 4) a) ∧ (¬ (a 5 0 2) = 0 → ((20 < x3 → post (a 5 0 4) a) ∧ (¬ 20 < x3 → (((a 5 0 2) = 7 → wl_X5_readInto_72 t p (wl_X5_readInto_30 t p post n) post o1 x3 a) ∧ (¬ (a 5 0 2) = 7 → wp_X5_isTermAhead t p  a (fun r57 a57 => ((¬ r57 = 0 → wl_X5_readInto_72 t p (wl_X5_readInto_30 t p post n) post o1 x3 a57) ∧ (r57 = 0 → wp_X5_fail t p 1 a57 (fun r65 a65 => (wl_X5_readInto_30 t p post n) o1 r65 (x3 + 1) a65))))))))))))
def wp_X5_readInto (t p : Nat) (o1 : Nat) (a : qa) (post : Int32 → qa → Prop) : Prop := wp_X0_clear t p o1 (qs (qs a 5 0 4 0) 5 0 5 (-1)) (fun a11 => wp_X8_cutTape t p  a11 (fun a18 => wp_X5_moveTo t p 0 a18 (fun a23 => ∃ n_30, wl_X5_readInto_30 t p post n_30 o1 1 0 a23)))
set_option maxHeartbeats 4000000 in
theorem el_X5_readInto_72 {g : q_G} {s : q_S} {t p : Nat} (hS : q_Sh t p s) (hX : q_gX g) {post : Int32 → qa → Prop} {J30 : Nat → Int32 → Int32 → qa → Prop} (hJ30 : ∀ (o1 : Nat) (x2 : Int32) (x3 : Int32) (a : qa), J30 o1 x2 x3 a → q_E g mX5_readInto (q_Rm 10 0 0) (q_kI s post) (0, 0) 30 [some (q_O 5 0), some (q_O 0 o1), some (q_I x2), some (q_I x3)] [] (a, s)) : ∀ (o1 : Nat) (x3 : Int32) (a : qa), wl_X5_readInto_72 t p J30 post o1 x3 a → q_E g mX5_readInto (q_Rm 10 0 0) (q_kI s post) (0, 0) 72 [some (q_O 5 0), some (q_O 0 o1), none, some (q_I x3)] [] (a, s) := by
  intro o1 x3 a Wq
  unfold wl_X5_readInto_72 at Wq
  refine xe_iload_n dX5_readInto_72 rfl ?_
  refine xe_bipush 20 dX5_readInto_73 (by decide) ?_
  refine xe_ic_ne 87 dX5_readInto_75 (by decide) (fun c_75 => ?_) (fun c_75 => ?_)
  · replace Wq := Wq.1 c_75
    refine xe_aload_n dX5_readInto_87 rfl q_rvO ?_
    refine xe_aload_n dX5_readInto_88 rfl q_rvO ?_
    refine xe_cv (y' := mX5_readRule) dX5_readInto_89 (Or.inl lX5_56) tX5_readRule rfl rfl (ct_X5_readRule hS Wq) rfl rfl (Nat.le_of_ble_eq_true rfl) ⟨Nat.le_of_ble_eq_true rfl, Nat.le_of_ble_eq_true rfl⟩ ⟨Nat.le_of_ble_eq_true rfl, Nat.le_of_ble_eq_true rfl⟩ (fun v1 h1 hl1 hk1 hm1 => ?_)
    obtain ⟨r89, a89, rfl, rfl, Wq⟩ := hk1
    refine xe_istore_n dX5_readInto_92 (by decide) ?_
    refine xe_iinc (_ + 1) dX5_readInto_93 (by decide) rfl rfl ?_
    refine xe_goto 30 dX5_readInto_96 (by decide) ?_
    refine q_wk (ls := [some (q_O 5 0), some (q_O 0 o1), some (q_I r89), some (q_I (x3 + 1))]) ⟨rfl, ⟨rfl, ⟨rfl, ⟨rfl, trivial⟩⟩⟩⟩ ?_
    exact hJ30 _ _ _ _ Wq
  · replace Wq := Wq.2 c_75
    refine xe_aload_n dX5_readInto_78 rfl q_rvO ?_
    refine xe_iconst 2 dX5_readInto_79 (by decide) ?_
    refine xe_cv (y' := mX5_fail) dX5_readInto_80 (Or.inl lX5_52) tX5_fail rfl rfl (ct_X5_fail hS Wq) rfl rfl (Nat.le_of_ble_eq_true rfl) ⟨Nat.le_of_ble_eq_true rfl, Nat.le_of_ble_eq_true rfl⟩ ⟨Nat.le_of_ble_eq_true rfl, Nat.le_of_ble_eq_true rfl⟩ (fun v1 h1 hl1 hk1 hm1 => ?_)
    obtain ⟨r80, a80, rfl, rfl, Wq⟩ := hk1
    refine xe_istore_n dX5_readInto_83 (by decide) ?_
    refine xe_goto 93 dX5_readInto_84 (by decide) ?_
    refine xe_iinc (_ + 1) dX5_readInto_93 (by decide) rfl rfl ?_
    refine xe_goto 30 dX5_readInto_96 (by decide) ?_
    refine q_wk (ls := [some (q_O 5 0), some (q_O 0 o1), some (q_I r80), some (q_I (x3 + 1))]) ⟨rfl, ⟨rfl, ⟨rfl, ⟨rfl, trivial⟩⟩⟩⟩ ?_
    exact hJ30 _ _ _ _ Wq
set_option maxHeartbeats 4000000 in
theorem el_X5_readInto_30 {g : q_G} {s : q_S} {t p : Nat} (hS : q_Sh t p s) (hX : q_gX g) {post : Int32 → qa → Prop} : ∀ (n : Nat) (o1 : Nat) (x2 : Int32) (x3 : Int32) (a : qa), wl_X5_readInto_30 t p post n o1 x2 x3 a → q_E g mX5_readInto (q_Rm 10 0 0) (q_kI s post) (0, 0) 30 [some (q_O 5 0), some (q_O 0 o1), some (q_I x2), some (q_I x3)] [] (a, s) := by
  intro n
  induction n with
  | zero =>
    intro o1 x2 x3 a Wq
    exact absurd Wq id
  | succ n ih =>
    intro o1 x2 x3 a Wq
    unfold wl_X5_readInto_30 at Wq
    refine xe_iload_n dX5_readInto_30 rfl ?_
    refine xe_if_eq 99 dX5_readInto_31 (by decide) (fun c_31 => ?_) (fun c_31 => ?_)
    · replace Wq := Wq.1 c_31
      refine xe_aload_n dX5_readInto_99 rfl q_rvO ?_
      refine xe_geti dX5_readInto_100 fX5_21 (fun _ _ => rfl) ?_
      exact xe_iret .int dX5_readInto_103 rfl rfl ⟨_, _, rfl, rfl, Wq⟩
    · replace Wq := Wq.2 c_31
      refine xe_aload_n dX5_readInto_34 rfl q_rvO ?_
      refine xe_geti dX5_readInto_35 fX5_15 (fun _ _ => rfl) ?_
      refine xe_if_eq 99 dX5_readInto_38 (by decide) (fun c_38 => ?_) (fun c_38 => ?_)
      · replace Wq := Wq.1 c_38
        refine xe_aload_n dX5_readInto_99 rfl q_rvO ?_
        refine xe_geti dX5_readInto_100 fX5_21 (fun _ _ => rfl) ?_
        exact xe_iret .int dX5_readInto_103 rfl rfl ⟨_, _, rfl, rfl, Wq⟩
      · replace Wq := Wq.2 c_38
        refine xe_iload_n dX5_readInto_41 rfl ?_
        refine xe_bipush 20 dX5_readInto_42 (by decide) ?_
        refine xe_ic_gt 99 dX5_readInto_44 (by decide) (fun c_44 => ?_) (fun c_44 => ?_)
        · replace Wq := Wq.1 c_44
          refine xe_aload_n dX5_readInto_99 rfl q_rvO ?_
          refine xe_geti dX5_readInto_100 fX5_21 (fun _ _ => rfl) ?_
          exact xe_iret .int dX5_readInto_103 rfl rfl ⟨_, _, rfl, rfl, Wq⟩
        · replace Wq := Wq.2 c_44
          refine xe_aload_n dX5_readInto_47 rfl q_rvO ?_
          refine xe_geti dX5_readInto_48 fX5_15 (fun _ _ => rfl) ?_
          refine xe_bipush 7 dX5_readInto_51 (by decide) ?_
          refine xe_ic_eq 72 dX5_readInto_53 (by decide) (fun c_53 => ?_) (fun c_53 => ?_)
          · replace Wq := Wq.1 c_53
            refine q_wk (ls := [some (q_O 5 0), some (q_O 0 o1), none, some (q_I x3)]) ⟨rfl, ⟨rfl, ⟨rfl, trivial⟩⟩⟩ ?_
            exact el_X5_readInto_72 hS hX ih _ _ _ Wq
          · replace Wq := Wq.2 c_53
            refine xe_aload_n dX5_readInto_56 rfl q_rvO ?_
            refine xe_cv (y' := mX5_isTermAhead) dX5_readInto_57 (Or.inl lX5_48) tX5_isTermAhead rfl rfl (ct_X5_isTermAhead hS Wq) rfl rfl (Nat.le_of_ble_eq_true rfl) ⟨Nat.le_of_ble_eq_true rfl, Nat.le_of_ble_eq_true rfl⟩ ⟨Nat.le_of_ble_eq_true rfl, Nat.le_of_ble_eq_true rfl⟩ (fun v1 h1 hl1 hk1 hm1 => ?_)
            obtain ⟨r57, a57, rfl, rfl, Wq⟩ := hk1
            refine xe_if_ne 72 dX5_readInto_60 (by decide) (fun c_60 => ?_) (fun c_60 => ?_)
            · replace Wq := Wq.1 c_60
              refine q_wk (ls := [some (q_O 5 0), some (q_O 0 o1), none, some (q_I x3)]) ⟨rfl, ⟨rfl, ⟨rfl, trivial⟩⟩⟩ ?_
              exact el_X5_readInto_72 hS hX ih _ _ _ Wq
            · replace Wq := Wq.2 c_60
              refine xe_aload_n dX5_readInto_63 rfl q_rvO ?_
              refine xe_iconst 1 dX5_readInto_64 (by decide) ?_
              refine xe_cv (y' := mX5_fail) dX5_readInto_65 (Or.inl lX5_52) tX5_fail rfl rfl (ct_X5_fail hS Wq) rfl rfl (Nat.le_of_ble_eq_true rfl) ⟨Nat.le_of_ble_eq_true rfl, Nat.le_of_ble_eq_true rfl⟩ ⟨Nat.le_of_ble_eq_true rfl, Nat.le_of_ble_eq_true rfl⟩ (fun v1 h1 hl1 hk1 hm1 => ?_)
              obtain ⟨r65, a65, rfl, rfl, Wq⟩ := hk1
              refine xe_istore_n dX5_readInto_68 (by decide) ?_
              refine xe_goto 93 dX5_readInto_69 (by decide) ?_
              refine xe_iinc (_ + 1) dX5_readInto_93 (by decide) rfl rfl ?_
              refine xe_goto 30 dX5_readInto_96 (by decide) ?_
              refine q_wk (ls := [some (q_O 5 0), some (q_O 0 o1), some (q_I r65), some (q_I (x3 + 1))]) ⟨rfl, ⟨rfl, ⟨rfl, ⟨rfl, trivial⟩⟩⟩⟩ ?_
              exact ih _ _ _ _ Wq
set_option maxHeartbeats 4000000 in
theorem ct_X5_readInto {g : q_G} {s : q_S} {t p : Nat} (hS : q_Sh t p s) (hX : q_gX g) {o1 : Nat} {a : qa} {post : Int32 → qa → Prop} (Wq : wp_X5_readInto t p o1 a post) : q_Ct g mX5_readInto (q_Rm 10 0 0) [q_O 5 0, q_O 0 o1] (a, s) (q_kI s post) := by
  refine q_mk rfl rfl (Nat.le_of_ble_eq_true rfl) (q_cs rfl (q_cs rfl q_nil)) (fun hv => ?_)
  unfold wp_X5_readInto at Wq
  refine xe_aload_n dX5_readInto_0 rfl q_rvO ?_
  refine xe_iconst 0 dX5_readInto_1 (by decide) ?_
  refine xf_puti dX5_readInto_2 fX5_21 (fun q hq => Or.inl (by cases hq; rfl)) ⟨rfl, rfl⟩ (fun _ _ => rfl) ?_
  refine xe_aload_n dX5_readInto_5 rfl q_rvO ?_
  refine xe_iconst (-1) dX5_readInto_6 (by decide) ?_
  refine xf_puti dX5_readInto_7 fX5_24 (fun q hq => Or.inl (by cases hq; rfl)) ⟨rfl, rfl⟩ (fun _ _ => rfl) ?_
  refine xe_aload_n dX5_readInto_10 rfl q_rvO ?_
  refine xe_cv (y' := mX0_clear) dX5_readInto_11 (Or.inl lX5_36) tX0_clear rfl rfl (ct_X0_clear hS Wq) rfl rfl (Nat.le_of_ble_eq_true rfl) ⟨Nat.le_of_ble_eq_true rfl, Nat.le_of_ble_eq_true rfl⟩ ⟨Nat.le_of_ble_eq_true rfl, Nat.le_of_ble_eq_true rfl⟩ (fun v1 h1 hl1 hk1 hm1 => ?_)
  obtain ⟨a11, rfl, rfl, Wq⟩ := hk1
  refine xe_aload_n dX5_readInto_14 rfl q_rvO ?_
  refine xe_getr dX5_readInto_15 fX5_32 (fun _ _ => rfl) (q_sg hS rfl) ?_
  refine xe_cv (y' := mX8_cutTape) dX5_readInto_18 (Or.inl lX5_41) tX8_cutTape rfl rfl (ct_X8_cutTape hS hX Wq) rfl rfl (Nat.le_of_ble_eq_true rfl) ⟨Nat.le_of_ble_eq_true rfl, Nat.le_of_ble_eq_true rfl⟩ ⟨Nat.le_of_ble_eq_true rfl, Nat.le_of_ble_eq_true rfl⟩ (fun v1 h1 hl1 hk1 hm1 => ?_)
  obtain ⟨a18, rfl, rfl, Wq⟩ := hk1
  refine xe_aload_n dX5_readInto_21 rfl q_rvO ?_
  refine xe_iconst 0 dX5_readInto_22 (by decide) ?_
  refine xe_cv (y' := mX5_moveTo) dX5_readInto_23 (Or.inl lX5_44) tX5_moveTo rfl rfl (ct_X5_moveTo hS Wq) rfl rfl (Nat.le_of_ble_eq_true rfl) ⟨Nat.le_of_ble_eq_true rfl, Nat.le_of_ble_eq_true rfl⟩ ⟨Nat.le_of_ble_eq_true rfl, Nat.le_of_ble_eq_true rfl⟩ (fun v1 h1 hl1 hk1 hm1 => ?_)
  obtain ⟨a23, rfl, rfl, Wq⟩ := hk1
  refine xe_iconst 1 dX5_readInto_26 (by decide) ?_
  refine xe_istore_n dX5_readInto_27 (by decide) ?_
  refine xe_iconst 0 dX5_readInto_28 (by decide) ?_
  refine xe_istore_n dX5_readInto_29 (by decide) ?_
  obtain ⟨n_30, Wq⟩ := Wq
  refine q_wk (ls := [some (q_O 5 0), some (q_O 0 o1), some (q_I 1), some (q_I 0)]) ⟨rfl, ⟨rfl, ⟨rfl, ⟨rfl, trivial⟩⟩⟩⟩ ?_
  exact el_X5_readInto_30 hS hX n_30 _ _ _ _ Wq
