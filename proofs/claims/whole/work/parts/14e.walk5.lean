def wl_X11_bargainOf_4 (t p : Nat) (post : Int32 → qa → Prop) : Nat → Int32 → Int32 → Int32 → qa → Prop
  | 0 => fun _ _ _ _ => False
  | n + 1 => fun x1 x2 x3 a => (((a 11 0 50) ≤ x3 → post x2 a) ∧ (¬ (a 11 0 50) ≤ x3 → vp_in x3 11 ∧ vp_in x1 100 ∧ (((a 62 0 x1.toNatClampNeg) < (a 72 0 x3.toNatClampNeg) → (wl_X11_bargainOf_4 t p post n) x1 x2 (x3 + 1) a) ∧ (¬ (a 62 0 x1.toNatClampNeg) < (a 72 0 x3.toNatClampNeg) → (wl_X11_bargainOf_4 t p post n) x1 x3 (x3 + 1) a))))
def wp_X11_bargainOf (t p : Nat) (x1 : Int32) (a : qa) (post : Int32 → qa → Prop) : Prop := ∃ n_4, wl_X11_bargainOf_4 t p post n_4 x1 (-1) 0 a
set_option maxHeartbeats 4000000 in
theorem el_X11_bargainOf_4 {g : q_G} {s : q_S} {t p : Nat} (hS : q_Sh t p s) {post : Int32 → qa → Prop} : ∀ (n : Nat) (x1 : Int32) (x2 : Int32) (x3 : Int32) (a : qa), wl_X11_bargainOf_4 t p post n x1 x2 x3 a → q_E g mX11_bargainOf (q_Rm 1 0 0) (q_kI s post) (0, 0) 4 [some (q_O 11 0), some (q_I x1), some (q_I x2), some (q_I x3)] [] (a, s) := by
  intro n
  induction n with
  | zero =>
    intro x1 x2 x3 a Wq
    exact absurd Wq id
  | succ n ih =>
    intro x1 x2 x3 a Wq
    unfold wl_X11_bargainOf_4 at Wq
    refine xe_iload_n dX11_bargainOf_4 rfl ?_
    refine xe_aload_n dX11_bargainOf_5 rfl q_rvO ?_
    refine xe_geti dX11_bargainOf_6 fX11_313 (fun _ _ => rfl) ?_
    refine xe_ic_ge 35 dX11_bargainOf_9 (by decide) (fun c_9 => ?_) (fun c_9 => ?_)
    · replace Wq := Wq.1 c_9
      refine xe_iload_n dX11_bargainOf_35 rfl ?_
      exact xe_iret .int dX11_bargainOf_36 rfl rfl ⟨_, _, rfl, rfl, Wq⟩
    · replace Wq := Wq.2 c_9
      refine xe_aload_n dX11_bargainOf_12 rfl q_rvO ?_
      refine xe_getr dX11_bargainOf_13 fX11_115 (fun _ _ => rfl) (q_sg hS rfl) ?_
      refine xe_iload_n dX11_bargainOf_16 rfl ?_
      obtain ⟨hj_17, Wq⟩ := Wq
      refine xe_iald dX11_bargainOf_17 rfl hj_17 ?_
      refine xe_aload_n dX11_bargainOf_18 rfl q_rvO ?_
      refine xe_getr dX11_bargainOf_19 fX11_81 (fun _ _ => rfl) (q_sg hS rfl) ?_
      refine xe_iload_n dX11_bargainOf_22 rfl ?_
      obtain ⟨hj_23, Wq⟩ := Wq
      refine xe_iald dX11_bargainOf_23 rfl hj_23 ?_
      refine xe_ic_gt 29 dX11_bargainOf_24 (by decide) (fun c_24 => ?_) (fun c_24 => ?_)
      · replace Wq := Wq.1 c_24
        refine xe_iinc (_ + 1) dX11_bargainOf_29 (by decide) rfl rfl ?_
        refine xe_goto 4 dX11_bargainOf_32 (by decide) ?_
        refine q_wk (ls := [some (q_O 11 0), some (q_I x1), some (q_I x2), some (q_I (x3 + 1))]) ⟨rfl, ⟨rfl, ⟨rfl, ⟨rfl, trivial⟩⟩⟩⟩ ?_
        exact ih _ _ _ _ Wq
      · replace Wq := Wq.2 c_24
        refine xe_iload_n dX11_bargainOf_27 rfl ?_
        refine xe_istore_n dX11_bargainOf_28 (by decide) ?_
        refine xe_iinc (_ + 1) dX11_bargainOf_29 (by decide) rfl rfl ?_
        refine xe_goto 4 dX11_bargainOf_32 (by decide) ?_
        refine q_wk (ls := [some (q_O 11 0), some (q_I x1), some (q_I x3), some (q_I (x3 + 1))]) ⟨rfl, ⟨rfl, ⟨rfl, ⟨rfl, trivial⟩⟩⟩⟩ ?_
        exact ih _ _ _ _ Wq
set_option maxHeartbeats 4000000 in
theorem ct_X11_bargainOf {g : q_G} {s : q_S} {t p : Nat} (hS : q_Sh t p s) {x1 : Int32} {a : qa} {post : Int32 → qa → Prop} (Wq : wp_X11_bargainOf t p x1 a post) : q_Ct g mX11_bargainOf (q_Rm 1 0 0) [q_O 11 0, q_I x1] (a, s) (q_kI s post) := by
  refine q_mk rfl rfl (Nat.le_of_ble_eq_true rfl) (q_cs rfl (q_cs rfl q_nil)) (fun hv => ?_)
  unfold wp_X11_bargainOf at Wq
  refine xe_iconst (-1) dX11_bargainOf_0 (by decide) ?_
  refine xe_istore_n dX11_bargainOf_1 (by decide) ?_
  refine xe_iconst 0 dX11_bargainOf_2 (by decide) ?_
  refine xe_istore_n dX11_bargainOf_3 (by decide) ?_
  obtain ⟨n_4, Wq⟩ := Wq
  refine q_wk (ls := [some (q_O 11 0), some (q_I x1), some (q_I (-1)), some (q_I 0)]) ⟨rfl, ⟨rfl, ⟨rfl, ⟨rfl, trivial⟩⟩⟩⟩ ?_
  exact el_X11_bargainOf_4 hS n_4 _ _ _ _ Wq
def wp_X11_change (t p : Nat) (x1 : Int32) (x2 : Int32) (a : qa) (post : qa → Prop) : Prop := vp_in (a 11 0 31) 700 ∧ vp_in (a 11 0 31) 700 ∧ vp_in (a 11 0 31) 700 ∧ post (qs (qs (qs (qs a 65 0 ((a 11 0 31).toNatClampNeg) x1) 66 0 ((a 11 0 31).toNatClampNeg) (a 11 0 1)) 67 0 ((a 11 0 31).toNatClampNeg) x2) 11 0 31 ((a 11 0 31) + 1))
set_option maxHeartbeats 4000000 in
theorem ct_X11_change {g : q_G} {s : q_S} {t p : Nat} (hS : q_Sh t p s) {x1 : Int32} {x2 : Int32} {a : qa} {post : qa → Prop} (Wq : wp_X11_change t p x1 x2 a post) : q_Ct g mX11_change (q_Rm 1 0 0) [q_O 11 0, q_I x1, q_I x2] (a, s) (q_kV s post) := by
  refine q_mk rfl rfl (Nat.le_of_ble_eq_true rfl) (q_cs rfl (q_cs rfl (q_cs rfl q_nil))) (fun hv => ?_)
  unfold wp_X11_change at Wq
  refine xe_aload_n dX11_change_0 rfl q_rvO ?_
  refine xe_getr dX11_change_1 fX11_90 (fun _ _ => rfl) (q_sg hS rfl) ?_
  refine xe_aload_n dX11_change_4 rfl q_rvO ?_
  refine xe_geti dX11_change_5 fX11_162 (fun _ _ => rfl) ?_
  refine xe_iload_n dX11_change_8 rfl ?_
  obtain ⟨hj_9, Wq⟩ := Wq
  refine xf_iast dX11_change_9 rfl hj_9 ?_
  refine xe_aload_n dX11_change_10 rfl q_rvO ?_
  refine xe_getr dX11_change_11 fX11_93 (fun _ _ => rfl) (q_sg hS rfl) ?_
  refine xe_aload_n dX11_change_14 rfl q_rvO ?_
  refine xe_geti dX11_change_15 fX11_162 (fun _ _ => rfl) ?_
  refine xe_aload_n dX11_change_18 rfl q_rvO ?_
  refine xe_geti dX11_change_19 fX11_150 (fun _ _ => rfl) ?_
  obtain ⟨hj_22, Wq⟩ := Wq
  refine xf_iast dX11_change_22 rfl hj_22 ?_
  refine xe_aload_n dX11_change_23 rfl q_rvO ?_
  refine xe_getr dX11_change_24 fX11_96 (fun _ _ => rfl) (q_sg hS rfl) ?_
  refine xe_aload_n dX11_change_27 rfl q_rvO ?_
  refine xe_geti dX11_change_28 fX11_162 (fun _ _ => rfl) ?_
  refine xe_iload_n dX11_change_31 rfl ?_
  obtain ⟨hj_32, Wq⟩ := Wq
  refine xf_iast dX11_change_32 rfl hj_32 ?_
  refine xe_aload_n dX11_change_33 rfl q_rvO ?_
  refine xe_dup dX11_change_34 rfl ?_
  refine xe_geti dX11_change_35 fX11_162 (fun _ _ => rfl) ?_
  refine xe_iconst 1 dX11_change_38 (by decide) ?_
  refine xe_iadd dX11_change_39 ?_
  refine xf_puti dX11_change_40 fX11_162 (fun q hq => Or.inl (by cases hq; rfl)) ⟨rfl, rfl⟩ (fun _ _ => rfl) ?_
  exact xe_vret dX11_change_43 rfl ⟨_, rfl, rfl, Wq⟩
def wp_X11_end (t p : Nat) (x1 : Int32) (a : qa) (post : Int32 → qa → Prop) : Prop := ((x1 < 0 → post (-1) (qs a 11 0 0 0)) ∧ (¬ x1 < 0 → ((x1 ≤ (a 11 0 42) → post x1 (qs (qs a 11 0 0 0) 11 0 42 x1)) ∧ (¬ x1 ≤ (a 11 0 42) → post (-1) (qs a 11 0 0 0)))))
set_option maxHeartbeats 4000000 in
theorem ct_X11_end {g : q_G} {s : q_S} {t p : Nat} (hS : q_Sh t p s) {x1 : Int32} {a : qa} {post : Int32 → qa → Prop} (Wq : wp_X11_end t p x1 a post) : q_Ct g mX11_end (q_Rm 1 0 0) [q_O 11 0, q_I x1] (a, s) (q_kI s post) := by
  refine q_mk rfl rfl (Nat.le_of_ble_eq_true rfl) (q_cs rfl (q_cs rfl q_nil)) (fun hv => ?_)
  unfold wp_X11_end at Wq
  refine xe_aload_n dX11_end_0 rfl q_rvO ?_
  refine xe_iconst 0 dX11_end_1 (by decide) ?_
  refine xf_puti dX11_end_2 fX11_1 (fun q hq => Or.inl (by cases hq; rfl)) ⟨rfl, rfl⟩ (fun _ _ => rfl) ?_
  refine xe_iload_n dX11_end_5 rfl ?_
  refine xe_if_lt 17 dX11_end_6 (by decide) (fun c_6 => ?_) (fun c_6 => ?_)
  · replace Wq := Wq.1 c_6
    refine xe_iconst (-1) dX11_end_17 (by decide) ?_
    exact xe_iret .int dX11_end_18 rfl rfl ⟨_, _, rfl, rfl, Wq⟩
  · replace Wq := Wq.2 c_6
    refine xe_iload_n dX11_end_9 rfl ?_
    refine xe_aload_n dX11_end_10 rfl q_rvO ?_
    refine xe_geti dX11_end_11 fX11_230 (fun _ _ => rfl) ?_
    refine xe_ic_le 19 dX11_end_14 (by decide) (fun c_14 => ?_) (fun c_14 => ?_)
    · replace Wq := Wq.1 c_14
      refine xe_aload_n dX11_end_19 rfl q_rvO ?_
      refine xe_iload_n dX11_end_20 rfl ?_
      refine xf_puti dX11_end_21 fX11_230 (fun q hq => Or.inl (by cases hq; rfl)) ⟨rfl, rfl⟩ (fun _ _ => rfl) ?_
      refine xe_iload_n dX11_end_24 rfl ?_
      exact xe_iret .int dX11_end_25 rfl rfl ⟨_, _, rfl, rfl, Wq⟩
    · replace Wq := Wq.2 c_14
      refine xe_iconst (-1) dX11_end_17 (by decide) ?_
      exact xe_iret .int dX11_end_18 rfl rfl ⟨_, _, rfl, rfl, Wq⟩
def wp_X11_fails (t p : Nat) (x1 : Int32) (a : qa) (post : qa → Prop) : Prop := (((a 11 0 47) = 0 → post (qs (qs a 11 0 47 x1) 11 0 48 (a 11 0 44))) ∧ (¬ (a 11 0 47) = 0 → post a))
set_option maxHeartbeats 4000000 in
theorem ct_X11_fails {g : q_G} {s : q_S} {t p : Nat} (hS : q_Sh t p s) {x1 : Int32} {a : qa} {post : qa → Prop} (Wq : wp_X11_fails t p x1 a post) : q_Ct g mX11_fails (q_Rm 1 0 0) [q_O 11 0, q_I x1] (a, s) (q_kV s post) := by
  refine q_mk rfl rfl (Nat.le_of_ble_eq_true rfl) (q_cs rfl (q_cs rfl q_nil)) (fun hv => ?_)
  unfold wp_X11_fails at Wq
  refine xe_aload_n dX11_fails_0 rfl q_rvO ?_
  refine xe_geti dX11_fails_1 fX11_264 (fun _ _ => rfl) ?_
  refine xe_if_eq 8 dX11_fails_4 (by decide) (fun c_4 => ?_) (fun c_4 => ?_)
  · replace Wq := Wq.1 c_4
    refine xe_aload_n dX11_fails_8 rfl q_rvO ?_
    refine xe_iload_n dX11_fails_9 rfl ?_
    refine xf_puti dX11_fails_10 fX11_264 (fun q hq => Or.inl (by cases hq; rfl)) ⟨rfl, rfl⟩ (fun _ _ => rfl) ?_
    refine xe_aload_n dX11_fails_13 rfl q_rvO ?_
    refine xe_aload_n dX11_fails_14 rfl q_rvO ?_
    refine xe_geti dX11_fails_15 fX11_236 (fun _ _ => rfl) ?_
    refine xf_puti dX11_fails_18 fX11_267 (fun q hq => Or.inl (by cases hq; rfl)) ⟨rfl, rfl⟩ (fun _ _ => rfl) ?_
    exact xe_vret dX11_fails_21 rfl ⟨_, rfl, rfl, Wq⟩
  · replace Wq := Wq.2 c_4
    exact xe_vret dX11_fails_7 rfl ⟨_, rfl, rfl, Wq⟩
def wl_X11_feed_76 (t p : Nat) (J23 : Int32 → Int32 → Int32 → Int32 → Int32 → Int32 → qa → Prop) (post : Int32 → qa → Prop) : Int32 → Int32 → Int32 → Int32 → Int32 → Int32 → Int32 → qa → Prop := fun x1 x2 x3 x4 x5 x6 y0 a => vp_in (a 11 0 42) 400 ∧ (J23 x1 x2 x3 x4 x5 (x6 + 1) (qs (qs a 71 0 ((a 11 0 42).toNatClampNeg) (vp_nar .byte ((y0 >>> ((24 - (8 * (x6 - x6 / 4 * 4))) &&& 31)).toInt8.toInt32))) 11 0 42 ((a 11 0 42) + 1)))
def wl_X11_feed_23 (t p : Nat) (post : Int32 → qa → Prop) : Nat → Int32 → Int32 → Int32 → Int32 → Int32 → Int32 → qa → Prop
  | 0 => fun _ _ _ _ _ _ _ => False
  | n + 1 => fun x1 x2 x3 x4 x5 x6 a => ((20 ≤ x6 → post (a 11 0 42) a) ∧ (¬ 20 ≤ x6 → ((4 ≤ x6 → ((8 ≤ x6 → ((12 ≤ x6 → ((16 ≤ x6 → wl_X11_feed_76 t p (wl_X11_feed_23 t p post n) post x1 x2 x3 x4 x5 x6 x5 a) ∧ (¬ 16 ≤ x6 → wl_X11_feed_76 t p (wl_X11_feed_23 t p post n) post x1 x2 x3 x4 x5 x6 x4 a))) ∧ (¬ 12 ≤ x6 → wl_X11_feed_76 t p (wl_X11_feed_23 t p post n) post x1 x2 x3 x4 x5 x6 x3 a))) ∧ (¬ 8 ≤ x6 → wl_X11_feed_76 t p (wl_X11_feed_23 t p post n) post x1 x2 x3 x4 x5 x6 x2 a))) ∧ (¬ 4 ≤ x6 → wl_X11_feed_76 t p (wl_X11_feed_23 t p post n) post x1 x2 x3 x4 x5 x6 x1 a))))
def wp_X11_feed (t p : Nat) (x1 : Int32) (x2 : Int32) (x3 : Int32) (x4 : Int32) (x5 : Int32) (a : qa) (post : Int32 → qa → Prop) : Prop := ((((a 11 0 42) + 20) ≤ 400 → ∃ n_23, wl_X11_feed_23 t p post n_23 x1 x2 x3 x4 x5 0 (qs a 11 0 0 0)) ∧ (¬ ((a 11 0 42) + 20) ≤ 400 → post (-1) (qs a 11 0 0 0)))
set_option maxHeartbeats 4000000 in
theorem el_X11_feed_76 {g : q_G} {s : q_S} {t p : Nat} (hS : q_Sh t p s) {post : Int32 → qa → Prop} {J23 : Int32 → Int32 → Int32 → Int32 → Int32 → Int32 → qa → Prop} (hJ23 : ∀ (x1 : Int32) (x2 : Int32) (x3 : Int32) (x4 : Int32) (x5 : Int32) (x6 : Int32) (a : qa), J23 x1 x2 x3 x4 x5 x6 a → q_E g mX11_feed (q_Rm 1 0 0) (q_kI s post) (0, 0) 23 [some (q_O 11 0), some (q_I x1), some (q_I x2), some (q_I x3), some (q_I x4), some (q_I x5), some (q_I x6), none] [] (a, s)) : ∀ (x1 : Int32) (x2 : Int32) (x3 : Int32) (x4 : Int32) (x5 : Int32) (x6 : Int32) (y0 : Int32) (a : qa), wl_X11_feed_76 t p J23 post x1 x2 x3 x4 x5 x6 y0 a → q_E g mX11_feed (q_Rm 1 0 0) (q_kI s post) (0, 0) 76 [some (q_O 11 0), some (q_I x1), some (q_I x2), some (q_I x3), some (q_I x4), some (q_I x5), some (q_I x6), none] [(q_I y0)] (a, s) := by
  intro x1 x2 x3 x4 x5 x6 y0 a Wq
  unfold wl_X11_feed_76 at Wq
  refine xe_istore dX11_feed_76 (by decide) ?_
  refine xe_aload_n dX11_feed_78 rfl q_rvO ?_
  refine xe_getr dX11_feed_79 fX11_108 (fun _ _ => rfl) (q_sg hS rfl) ?_
  refine xe_aload_n dX11_feed_82 rfl q_rvO ?_
  refine xe_geti dX11_feed_83 fX11_230 (fun _ _ => rfl) ?_
  refine xe_iload dX11_feed_86 rfl ?_
  refine xe_bipush 24 dX11_feed_88 (by decide) ?_
  refine xe_bipush 8 dX11_feed_90 (by decide) ?_
  refine xe_iload dX11_feed_92 rfl ?_
  refine xe_iconst 4 dX11_feed_94 (by decide) ?_
  refine xe_irem dX11_feed_95 (by decide) ?_
  refine xe_imul dX11_feed_96 ?_
  refine xe_isub dX11_feed_97 ?_
  refine xe_ishr dX11_feed_98 ?_
  refine xe_i2b dX11_feed_99 ?_
  obtain ⟨hj_100, Wq⟩ := Wq
  refine xf_bast dX11_feed_100 rfl hj_100 ?_
  refine xe_aload_n dX11_feed_101 rfl q_rvO ?_
  refine xe_dup dX11_feed_102 rfl ?_
  refine xe_geti dX11_feed_103 fX11_230 (fun _ _ => rfl) ?_
  refine xe_iconst 1 dX11_feed_106 (by decide) ?_
  refine xe_iadd dX11_feed_107 ?_
  refine xf_puti dX11_feed_108 fX11_230 (fun q hq => Or.inl (by cases hq; rfl)) ⟨rfl, rfl⟩ (fun _ _ => rfl) ?_
  refine xe_iinc (_ + 1) dX11_feed_111 (by decide) rfl rfl ?_
  refine xe_goto 23 dX11_feed_114 (by decide) ?_
  refine q_wk (ls := [some (q_O 11 0), some (q_I x1), some (q_I x2), some (q_I x3), some (q_I x4), some (q_I x5), some (q_I (x6 + 1)), none]) ⟨rfl, ⟨rfl, ⟨rfl, ⟨rfl, ⟨rfl, ⟨rfl, ⟨rfl, trivial⟩⟩⟩⟩⟩⟩⟩ ?_
  exact hJ23 _ _ _ _ _ _ _ Wq
set_option maxHeartbeats 4000000 in
theorem el_X11_feed_23 {g : q_G} {s : q_S} {t p : Nat} (hS : q_Sh t p s) {post : Int32 → qa → Prop} : ∀ (n : Nat) (x1 : Int32) (x2 : Int32) (x3 : Int32) (x4 : Int32) (x5 : Int32) (x6 : Int32) (a : qa), wl_X11_feed_23 t p post n x1 x2 x3 x4 x5 x6 a → q_E g mX11_feed (q_Rm 1 0 0) (q_kI s post) (0, 0) 23 [some (q_O 11 0), some (q_I x1), some (q_I x2), some (q_I x3), some (q_I x4), some (q_I x5), some (q_I x6), none] [] (a, s) := by
  intro n
  induction n with
  | zero =>
    intro x1 x2 x3 x4 x5 x6 a Wq
    exact absurd Wq id
  | succ n ih =>
    intro x1 x2 x3 x4 x5 x6 a Wq
    unfold wl_X11_feed_23 at Wq
    refine xe_iload dX11_feed_23 rfl ?_
    refine xe_bipush 20 dX11_feed_25 (by decide) ?_
    refine xe_ic_ge 117 dX11_feed_27 (by decide) (fun c_27 => ?_) (fun c_27 => ?_)
    · replace Wq := Wq.1 c_27
      refine xe_aload_n dX11_feed_117 rfl q_rvO ?_
      refine xe_geti dX11_feed_118 fX11_230 (fun _ _ => rfl) ?_
      exact xe_iret .int dX11_feed_121 rfl rfl ⟨_, _, rfl, rfl, Wq⟩
    · replace Wq := Wq.2 c_27
      refine xe_iload dX11_feed_30 rfl ?_
      refine xe_iconst 4 dX11_feed_32 (by decide) ?_
      refine xe_ic_ge 40 dX11_feed_33 (by decide) (fun c_33 => ?_) (fun c_33 => ?_)
      · replace Wq := Wq.1 c_33
        refine xe_iload dX11_feed_40 rfl ?_
        refine xe_bipush 8 dX11_feed_42 (by decide) ?_
        refine xe_ic_ge 51 dX11_feed_44 (by decide) (fun c_44 => ?_) (fun c_44 => ?_)
        · replace Wq := Wq.1 c_44
          refine xe_iload dX11_feed_51 rfl ?_
          refine xe_bipush 12 dX11_feed_53 (by decide) ?_
          refine xe_ic_ge 62 dX11_feed_55 (by decide) (fun c_55 => ?_) (fun c_55 => ?_)
          · replace Wq := Wq.1 c_55
            refine xe_iload dX11_feed_62 rfl ?_
            refine xe_bipush 16 dX11_feed_64 (by decide) ?_
            refine xe_ic_ge 74 dX11_feed_66 (by decide) (fun c_66 => ?_) (fun c_66 => ?_)
            · replace Wq := Wq.1 c_66
              refine xe_iload dX11_feed_74 rfl ?_
              refine q_wk (ls := [some (q_O 11 0), some (q_I x1), some (q_I x2), some (q_I x3), some (q_I x4), some (q_I x5), some (q_I x6), none]) ⟨rfl, ⟨rfl, ⟨rfl, ⟨rfl, ⟨rfl, ⟨rfl, ⟨rfl, trivial⟩⟩⟩⟩⟩⟩⟩ ?_
              exact el_X11_feed_76 hS ih _ _ _ _ _ _ _ _ Wq
            · replace Wq := Wq.2 c_66
              refine xe_iload dX11_feed_69 rfl ?_
              refine xe_goto 76 dX11_feed_71 (by decide) ?_
              refine q_wk (ls := [some (q_O 11 0), some (q_I x1), some (q_I x2), some (q_I x3), some (q_I x4), some (q_I x5), some (q_I x6), none]) ⟨rfl, ⟨rfl, ⟨rfl, ⟨rfl, ⟨rfl, ⟨rfl, ⟨rfl, trivial⟩⟩⟩⟩⟩⟩⟩ ?_
              exact el_X11_feed_76 hS ih _ _ _ _ _ _ _ _ Wq
          · replace Wq := Wq.2 c_55
            refine xe_iload_n dX11_feed_58 rfl ?_
            refine xe_goto 76 dX11_feed_59 (by decide) ?_
            refine q_wk (ls := [some (q_O 11 0), some (q_I x1), some (q_I x2), some (q_I x3), some (q_I x4), some (q_I x5), some (q_I x6), none]) ⟨rfl, ⟨rfl, ⟨rfl, ⟨rfl, ⟨rfl, ⟨rfl, ⟨rfl, trivial⟩⟩⟩⟩⟩⟩⟩ ?_
            exact el_X11_feed_76 hS ih _ _ _ _ _ _ _ _ Wq
        · replace Wq := Wq.2 c_44
          refine xe_iload_n dX11_feed_47 rfl ?_
          refine xe_goto 76 dX11_feed_48 (by decide) ?_
          refine q_wk (ls := [some (q_O 11 0), some (q_I x1), some (q_I x2), some (q_I x3), some (q_I x4), some (q_I x5), some (q_I x6), none]) ⟨rfl, ⟨rfl, ⟨rfl, ⟨rfl, ⟨rfl, ⟨rfl, ⟨rfl, trivial⟩⟩⟩⟩⟩⟩⟩ ?_
          exact el_X11_feed_76 hS ih _ _ _ _ _ _ _ _ Wq
      · replace Wq := Wq.2 c_33
        refine xe_iload_n dX11_feed_36 rfl ?_
        refine xe_goto 76 dX11_feed_37 (by decide) ?_
        refine q_wk (ls := [some (q_O 11 0), some (q_I x1), some (q_I x2), some (q_I x3), some (q_I x4), some (q_I x5), some (q_I x6), none]) ⟨rfl, ⟨rfl, ⟨rfl, ⟨rfl, ⟨rfl, ⟨rfl, ⟨rfl, trivial⟩⟩⟩⟩⟩⟩⟩ ?_
        exact el_X11_feed_76 hS ih _ _ _ _ _ _ _ _ Wq
set_option maxHeartbeats 4000000 in
theorem ct_X11_feed {g : q_G} {s : q_S} {t p : Nat} (hS : q_Sh t p s) {x1 : Int32} {x2 : Int32} {x3 : Int32} {x4 : Int32} {x5 : Int32} {a : qa} {post : Int32 → qa → Prop} (Wq : wp_X11_feed t p x1 x2 x3 x4 x5 a post) : q_Ct g mX11_feed (q_Rm 1 0 0) [q_O 11 0, q_I x1, q_I x2, q_I x3, q_I x4, q_I x5] (a, s) (q_kI s post) := by
  refine q_mk rfl rfl (Nat.le_of_ble_eq_true rfl) (q_cs rfl (q_cs rfl (q_cs rfl (q_cs rfl (q_cs rfl (q_cs rfl q_nil)))))) (fun hv => ?_)
  unfold wp_X11_feed at Wq
  refine xe_aload_n dX11_feed_0 rfl q_rvO ?_
  refine xe_iconst 0 dX11_feed_1 (by decide) ?_
  refine xf_puti dX11_feed_2 fX11_1 (fun q hq => Or.inl (by cases hq; rfl)) ⟨rfl, rfl⟩ (fun _ _ => rfl) ?_
  refine xe_aload_n dX11_feed_5 rfl q_rvO ?_
  refine xe_geti dX11_feed_6 fX11_230 (fun _ _ => rfl) ?_
  refine xe_bipush 20 dX11_feed_9 (by decide) ?_
  refine xe_iadd dX11_feed_11 ?_
  refine xe_sipush 400 dX11_feed_12 (by decide) ?_
  refine xe_ic_le 20 dX11_feed_15 (by decide) (fun c_15 => ?_) (fun c_15 => ?_)
  · replace Wq := Wq.1 c_15
    refine xe_iconst 0 dX11_feed_20 (by decide) ?_
    refine xe_istore dX11_feed_21 (by decide) ?_
    obtain ⟨n_23, Wq⟩ := Wq
    refine q_wk (ls := [some (q_O 11 0), some (q_I x1), some (q_I x2), some (q_I x3), some (q_I x4), some (q_I x5), some (q_I 0), none]) ⟨rfl, ⟨rfl, ⟨rfl, ⟨rfl, ⟨rfl, ⟨rfl, ⟨rfl, trivial⟩⟩⟩⟩⟩⟩⟩ ?_
    exact el_X11_feed_23 hS n_23 _ _ _ _ _ _ _ Wq
  · replace Wq := Wq.2 c_15
    refine xe_iconst (-1) dX11_feed_18 (by decide) ?_
    exact xe_iret .int dX11_feed_19 rfl rfl ⟨_, _, rfl, rfl, Wq⟩
def wl_X11_holds__69 (t p : Nat) (post : Int32 → qa → Prop) : Int32 → Int32 → qa → Prop := fun x1 y0 a => vp_in x1 880 ∧ ((¬ (a 77 0 x1.toNatClampNeg) = 60 → vp_in x1 880 ∧ ((¬ (a 77 0 x1.toNatClampNeg) = 62 → vp_in x1 880 ∧ ((¬ y0 = (a 78 0 x1.toNatClampNeg) → post 0 a) ∧ (y0 = (a 78 0 x1.toNatClampNeg) → post 1 a))) ∧ ((a 77 0 x1.toNatClampNeg) = 62 → vp_in x1 880 ∧ ((y0 ≤ (a 78 0 x1.toNatClampNeg) → post 0 a) ∧ (¬ y0 ≤ (a 78 0 x1.toNatClampNeg) → post 1 a))))) ∧ ((a 77 0 x1.toNatClampNeg) = 60 → vp_in x1 880 ∧ (((a 78 0 x1.toNatClampNeg) ≤ y0 → post 0 a) ∧ (¬ (a 78 0 x1.toNatClampNeg) ≤ y0 → post 1 a))))
def wp_X11_holds_ (t p : Nat) (x1 : Int32) (x2 : Int32) (a : qa) (post : Int32 → qa → Prop) : Prop := vp_in x1 880 ∧ ((4 ≤ (a 76 0 x1.toNatClampNeg) → ((¬ (a 76 0 x1.toNatClampNeg) = 4 → ((¬ (a 76 0 x1.toNatClampNeg) = 5 → vp_in x2 100 ∧ (wl_X11_holds__69 t p post x1 (a 64 0 x2.toNatClampNeg) a)) ∧ ((a 76 0 x1.toNatClampNeg) = 5 → vp_in x2 100 ∧ vp_in x2 100 ∧ (wl_X11_holds__69 t p post x1 ((a 63 0 x2.toNatClampNeg) - (a 62 0 x2.toNatClampNeg)) a)))) ∧ ((a 76 0 x1.toNatClampNeg) = 4 → vp_in x2 100 ∧ (wl_X11_holds__69 t p post x1 (a 56 0 x2.toNatClampNeg) a)))) ∧ (¬ 4 ≤ (a 76 0 x1.toNatClampNeg) → vp_in x2 100 ∧ ((¬ (a 55 0 x2.toNatClampNeg) = (a 76 0 x1.toNatClampNeg) → post 0 a) ∧ ((a 55 0 x2.toNatClampNeg) = (a 76 0 x1.toNatClampNeg) → post 1 a))))
set_option maxHeartbeats 4000000 in
theorem el_X11_holds__69 {g : q_G} {s : q_S} {t p : Nat} (hS : q_Sh t p s) {post : Int32 → qa → Prop} : ∀ (x1 : Int32) (y0 : Int32) (a : qa), wl_X11_holds__69 t p post x1 y0 a → q_E g mX11_holds_ (q_Rm 1 0 0) (q_kI s post) (0, 0) 69 [some (q_O 11 0), some (q_I x1), none, none, none] [(q_I y0)] (a, s) := by
  intro x1 y0 a Wq
  unfold wl_X11_holds__69 at Wq
  refine xe_istore dX11_holds__69 (by decide) ?_
  refine xe_aload_n dX11_holds__71 rfl q_rvO ?_
  refine xe_getr dX11_holds__72 fX11_130 (fun _ _ => rfl) (q_sg hS rfl) ?_
  refine xe_iload_n dX11_holds__75 rfl ?_
  obtain ⟨hj_76, Wq⟩ := Wq
  refine xe_iald dX11_holds__76 rfl hj_76 ?_
  refine xe_bipush 60 dX11_holds__77 (by decide) ?_
  refine xe_ic_ne 101 dX11_holds__79 (by decide) (fun c_79 => ?_) (fun c_79 => ?_)
  · replace Wq := Wq.1 c_79
    refine xe_aload_n dX11_holds__101 rfl q_rvO ?_
    refine xe_getr dX11_holds__102 fX11_130 (fun _ _ => rfl) (q_sg hS rfl) ?_
    refine xe_iload_n dX11_holds__105 rfl ?_
    obtain ⟨hj_106, Wq⟩ := Wq
    refine xe_iald dX11_holds__106 rfl hj_106 ?_
    refine xe_bipush 62 dX11_holds__107 (by decide) ?_
    refine xe_ic_ne 131 dX11_holds__109 (by decide) (fun c_109 => ?_) (fun c_109 => ?_)
    · replace Wq := Wq.1 c_109
      refine xe_iload dX11_holds__131 rfl ?_
      refine xe_aload_n dX11_holds__133 rfl q_rvO ?_
      refine xe_getr dX11_holds__134 fX11_133 (fun _ _ => rfl) (q_sg hS rfl) ?_
      refine xe_iload_n dX11_holds__137 rfl ?_
      obtain ⟨hj_138, Wq⟩ := Wq
      refine xe_iald dX11_holds__138 rfl hj_138 ?_
      refine xe_ic_ne 146 dX11_holds__139 (by decide) (fun c_139 => ?_) (fun c_139 => ?_)
      · replace Wq := Wq.1 c_139
        refine xe_iconst 0 dX11_holds__146 (by decide) ?_
        exact xe_iret .boolean dX11_holds__147 rfl (by decide) ⟨_, _, rfl, rfl, Wq⟩
      · replace Wq := Wq.2 c_139
        refine xe_iconst 1 dX11_holds__142 (by decide) ?_
        refine xe_goto 147 dX11_holds__143 (by decide) ?_
        exact xe_iret .boolean dX11_holds__147 rfl (by decide) ⟨_, _, rfl, rfl, Wq⟩
    · replace Wq := Wq.2 c_109
      refine xe_iload dX11_holds__112 rfl ?_
      refine xe_aload_n dX11_holds__114 rfl q_rvO ?_
      refine xe_getr dX11_holds__115 fX11_133 (fun _ _ => rfl) (q_sg hS rfl) ?_
      refine xe_iload_n dX11_holds__118 rfl ?_
      obtain ⟨hj_119, Wq⟩ := Wq
      refine xe_iald dX11_holds__119 rfl hj_119 ?_
      refine xe_ic_le 127 dX11_holds__120 (by decide) (fun c_120 => ?_) (fun c_120 => ?_)
      · replace Wq := Wq.1 c_120
        refine xe_iconst 0 dX11_holds__127 (by decide) ?_
        refine xe_goto 147 dX11_holds__128 (by decide) ?_
        exact xe_iret .boolean dX11_holds__147 rfl (by decide) ⟨_, _, rfl, rfl, Wq⟩
      · replace Wq := Wq.2 c_120
        refine xe_iconst 1 dX11_holds__123 (by decide) ?_
        refine xe_goto 147 dX11_holds__124 (by decide) ?_
        exact xe_iret .boolean dX11_holds__147 rfl (by decide) ⟨_, _, rfl, rfl, Wq⟩
  · replace Wq := Wq.2 c_79
    refine xe_iload dX11_holds__82 rfl ?_
    refine xe_aload_n dX11_holds__84 rfl q_rvO ?_
    refine xe_getr dX11_holds__85 fX11_133 (fun _ _ => rfl) (q_sg hS rfl) ?_
    refine xe_iload_n dX11_holds__88 rfl ?_
    obtain ⟨hj_89, Wq⟩ := Wq
    refine xe_iald dX11_holds__89 rfl hj_89 ?_
    refine xe_ic_ge 97 dX11_holds__90 (by decide) (fun c_90 => ?_) (fun c_90 => ?_)
    · replace Wq := Wq.1 c_90
      refine xe_iconst 0 dX11_holds__97 (by decide) ?_
      refine xe_goto 147 dX11_holds__98 (by decide) ?_
      exact xe_iret .boolean dX11_holds__147 rfl (by decide) ⟨_, _, rfl, rfl, Wq⟩
    · replace Wq := Wq.2 c_90
      refine xe_iconst 1 dX11_holds__93 (by decide) ?_
      refine xe_goto 147 dX11_holds__94 (by decide) ?_
      exact xe_iret .boolean dX11_holds__147 rfl (by decide) ⟨_, _, rfl, rfl, Wq⟩
set_option maxHeartbeats 4000000 in
theorem ct_X11_holds_ {g : q_G} {s : q_S} {t p : Nat} (hS : q_Sh t p s) {x1 : Int32} {x2 : Int32} {a : qa} {post : Int32 → qa → Prop} (Wq : wp_X11_holds_ t p x1 x2 a post) : q_Ct g mX11_holds_ (q_Rm 1 0 0) [q_O 11 0, q_I x1, q_I x2] (a, s) (q_kI s post) := by
  refine q_mk rfl rfl (Nat.le_of_ble_eq_true rfl) (q_cs rfl (q_cs rfl (q_cs rfl q_nil))) (fun hv => ?_)
  unfold wp_X11_holds_ at Wq
  refine xe_aload_n dX11_holds__0 rfl q_rvO ?_
  refine xe_getr dX11_holds__1 fX11_127 (fun _ _ => rfl) (q_sg hS rfl) ?_
  refine xe_iload_n dX11_holds__4 rfl ?_
  obtain ⟨hj_5, Wq⟩ := Wq
  refine xe_iald dX11_holds__5 rfl hj_5 ?_
  refine xe_istore_n dX11_holds__6 (by decide) ?_
  refine xe_iload_n dX11_holds__7 rfl ?_
  refine xe_iconst 4 dX11_holds__8 (by decide) ?_
  refine xe_ic_ge 28 dX11_holds__9 (by decide) (fun c_9 => ?_) (fun c_9 => ?_)
  · replace Wq := Wq.1 c_9
    refine xe_iload_n dX11_holds__28 rfl ?_
    refine xe_iconst 4 dX11_holds__29 (by decide) ?_
    refine xe_ic_ne 42 dX11_holds__30 (by decide) (fun c_30 => ?_) (fun c_30 => ?_)
    · replace Wq := Wq.1 c_30
      refine xe_iload_n dX11_holds__42 rfl ?_
      refine xe_iconst 5 dX11_holds__43 (by decide) ?_
      refine xe_ic_ne 63 dX11_holds__44 (by decide) (fun c_44 => ?_) (fun c_44 => ?_)
      · replace Wq := Wq.1 c_44
        refine xe_aload_n dX11_holds__63 rfl q_rvO ?_
        refine xe_getr dX11_holds__64 fX11_87 (fun _ _ => rfl) (q_sg hS rfl) ?_
        refine xe_iload_n dX11_holds__67 rfl ?_
        obtain ⟨hj_68, Wq⟩ := Wq
        refine xe_iald dX11_holds__68 rfl hj_68 ?_
        refine q_wk (ls := [some (q_O 11 0), some (q_I x1), none, none, none]) ⟨rfl, ⟨rfl, trivial⟩⟩ ?_
        exact el_X11_holds__69 hS _ _ _ Wq
      · replace Wq := Wq.2 c_44
        refine xe_aload_n dX11_holds__47 rfl q_rvO ?_
        refine xe_getr dX11_holds__48 fX11_84 (fun _ _ => rfl) (q_sg hS rfl) ?_
        refine xe_iload_n dX11_holds__51 rfl ?_
        obtain ⟨hj_52, Wq⟩ := Wq
        refine xe_iald dX11_holds__52 rfl hj_52 ?_
        refine xe_aload_n dX11_holds__53 rfl q_rvO ?_
        refine xe_getr dX11_holds__54 fX11_81 (fun _ _ => rfl) (q_sg hS rfl) ?_
        refine xe_iload_n dX11_holds__57 rfl ?_
        obtain ⟨hj_58, Wq⟩ := Wq
        refine xe_iald dX11_holds__58 rfl hj_58 ?_
        refine xe_isub dX11_holds__59 ?_
        refine xe_goto 69 dX11_holds__60 (by decide) ?_
        refine q_wk (ls := [some (q_O 11 0), some (q_I x1), none, none, none]) ⟨rfl, ⟨rfl, trivial⟩⟩ ?_
        exact el_X11_holds__69 hS _ _ _ Wq
    · replace Wq := Wq.2 c_30
      refine xe_aload_n dX11_holds__33 rfl q_rvO ?_
      refine xe_getr dX11_holds__34 fX11_63 (fun _ _ => rfl) (q_sg hS rfl) ?_
      refine xe_iload_n dX11_holds__37 rfl ?_
      obtain ⟨hj_38, Wq⟩ := Wq
      refine xe_iald dX11_holds__38 rfl hj_38 ?_
      refine xe_goto 69 dX11_holds__39 (by decide) ?_
      refine q_wk (ls := [some (q_O 11 0), some (q_I x1), none, none, none]) ⟨rfl, ⟨rfl, trivial⟩⟩ ?_
      exact el_X11_holds__69 hS _ _ _ Wq
  · replace Wq := Wq.2 c_9
    refine xe_aload_n dX11_holds__12 rfl q_rvO ?_
    refine xe_getr dX11_holds__13 fX11_60 (fun _ _ => rfl) (q_sg hS rfl) ?_
    refine xe_iload_n dX11_holds__16 rfl ?_
    obtain ⟨hj_17, Wq⟩ := Wq
    refine xe_iald dX11_holds__17 rfl hj_17 ?_
    refine xe_iload_n dX11_holds__18 rfl ?_
    refine xe_ic_ne 26 dX11_holds__19 (by decide) (fun c_19 => ?_) (fun c_19 => ?_)
    · replace Wq := Wq.1 c_19
      refine xe_iconst 0 dX11_holds__26 (by decide) ?_
      exact xe_iret .boolean dX11_holds__27 rfl (by decide) ⟨_, _, rfl, rfl, Wq⟩
    · replace Wq := Wq.2 c_19
      refine xe_iconst 1 dX11_holds__22 (by decide) ?_
      refine xe_goto 27 dX11_holds__23 (by decide) ?_
      exact xe_iret .boolean dX11_holds__27 rfl (by decide) ⟨_, _, rfl, rfl, Wq⟩
def wp_X11_innOf (t p : Nat) (x1 : Int32) (a : qa) (post : Int32 → qa → Prop) : Prop := vp_in x1 100 ∧ ((¬ (a 58 0 x1.toNatClampNeg) = 0 → vp_in x1 100 ∧ vp_in ((a 60 0 x1.toNatClampNeg) / 3) 4 ∧ post (a 47 0 (((a 60 0 x1.toNatClampNeg) / 3).toNatClampNeg)) a) ∧ ((a 58 0 x1.toNatClampNeg) = 0 → vp_in x1 100 ∧ post (a 59 0 x1.toNatClampNeg) a))
set_option maxHeartbeats 4000000 in
theorem ct_X11_innOf {g : q_G} {s : q_S} {t p : Nat} (hS : q_Sh t p s) {x1 : Int32} {a : qa} {post : Int32 → qa → Prop} (Wq : wp_X11_innOf t p x1 a post) : q_Ct g mX11_innOf (q_Rm 1 0 0) [q_O 11 0, q_I x1] (a, s) (q_kI s post) := by
  refine q_mk rfl rfl (Nat.le_of_ble_eq_true rfl) (q_cs rfl (q_cs rfl q_nil)) (fun hv => ?_)
  unfold wp_X11_innOf at Wq
  refine xe_aload_n dX11_innOf_0 rfl q_rvO ?_
  refine xe_getr dX11_innOf_1 fX11_69 (fun _ _ => rfl) (q_sg hS rfl) ?_
  refine xe_iload_n dX11_innOf_4 rfl ?_
  obtain ⟨hj_5, Wq⟩ := Wq
  refine xe_iald dX11_innOf_5 rfl hj_5 ?_
  refine xe_if_ne 18 dX11_innOf_6 (by decide) (fun c_6 => ?_) (fun c_6 => ?_)
  · replace Wq := Wq.1 c_6
    refine xe_aload_n dX11_innOf_18 rfl q_rvO ?_
    refine xe_getr dX11_innOf_19 fX11_36 (fun _ _ => rfl) (q_sg hS rfl) ?_
    refine xe_aload_n dX11_innOf_22 rfl q_rvO ?_
    refine xe_getr dX11_innOf_23 fX11_75 (fun _ _ => rfl) (q_sg hS rfl) ?_
    refine xe_iload_n dX11_innOf_26 rfl ?_
    obtain ⟨hj_27, Wq⟩ := Wq
    refine xe_iald dX11_innOf_27 rfl hj_27 ?_
    refine xe_iconst 3 dX11_innOf_28 (by decide) ?_
    refine xe_idiv dX11_innOf_29 (by decide) ?_
    obtain ⟨hj_30, Wq⟩ := Wq
    refine xe_iald dX11_innOf_30 rfl hj_30 ?_
    exact xe_iret .int dX11_innOf_31 rfl rfl ⟨_, _, rfl, rfl, Wq⟩
  · replace Wq := Wq.2 c_6
    refine xe_aload_n dX11_innOf_9 rfl q_rvO ?_
    refine xe_getr dX11_innOf_10 fX11_72 (fun _ _ => rfl) (q_sg hS rfl) ?_
    refine xe_iload_n dX11_innOf_13 rfl ?_
    obtain ⟨hj_14, Wq⟩ := Wq
    refine xe_iald dX11_innOf_14 rfl hj_14 ?_
    refine xe_goto 31 dX11_innOf_15 (by decide) ?_
    exact xe_iret .int dX11_innOf_31 rfl rfl ⟨_, _, rfl, rfl, Wq⟩
def wp_X11_is (t p : Nat) (x1 : Int32) (a : qa) (post : Int32 → qa → Prop) : Prop := ((¬ (a 11 0 45) = 4 → post 0 a) ∧ ((a 11 0 45) = 4 → ((¬ (a 11 0 46) = x1 → post 0 a) ∧ ((a 11 0 46) = x1 → post 1 a))))
set_option maxHeartbeats 4000000 in
theorem ct_X11_is {g : q_G} {s : q_S} {t p : Nat} (hS : q_Sh t p s) {x1 : Int32} {a : qa} {post : Int32 → qa → Prop} (Wq : wp_X11_is t p x1 a post) : q_Ct g mX11_is (q_Rm 1 0 0) [q_O 11 0, q_I x1] (a, s) (q_kI s post) := by
  refine q_mk rfl rfl (Nat.le_of_ble_eq_true rfl) (q_cs rfl (q_cs rfl q_nil)) (fun hv => ?_)
  unfold wp_X11_is at Wq
  refine xe_aload_n dX11_is_0 rfl q_rvO ?_
  refine xe_geti dX11_is_1 fX11_239 (fun _ _ => rfl) ?_
  refine xe_iconst 4 dX11_is_4 (by decide) ?_
  refine xe_ic_ne 20 dX11_is_5 (by decide) (fun c_5 => ?_) (fun c_5 => ?_)
  · replace Wq := Wq.1 c_5
    refine xe_iconst 0 dX11_is_20 (by decide) ?_
    exact xe_iret .boolean dX11_is_21 rfl (by decide) ⟨_, _, rfl, rfl, Wq⟩
  · replace Wq := Wq.2 c_5
    refine xe_aload_n dX11_is_8 rfl q_rvO ?_
    refine xe_geti dX11_is_9 fX11_251 (fun _ _ => rfl) ?_
    refine xe_iload_n dX11_is_12 rfl ?_
    refine xe_ic_ne 20 dX11_is_13 (by decide) (fun c_13 => ?_) (fun c_13 => ?_)
    · replace Wq := Wq.1 c_13
      refine xe_iconst 0 dX11_is_20 (by decide) ?_
      exact xe_iret .boolean dX11_is_21 rfl (by decide) ⟨_, _, rfl, rfl, Wq⟩
    · replace Wq := Wq.2 c_13
      refine xe_iconst 1 dX11_is_16 (by decide) ?_
      refine xe_goto 21 dX11_is_17 (by decide) ?_
      exact xe_iret .boolean dX11_is_21 rfl (by decide) ⟨_, _, rfl, rfl, Wq⟩
def wp_X11_isDigit (t p : Nat) (x0 : Int32) (a : qa) (post : Int32 → qa → Prop) : Prop := ((x0 < 48 → post 0 a) ∧ (¬ x0 < 48 → ((57 < x0 → post 0 a) ∧ (¬ 57 < x0 → post 1 a))))
set_option maxHeartbeats 4000000 in
theorem ct_X11_isDigit {g : q_G} {s : q_S} {t p : Nat} (hS : q_Sh t p s) {x0 : Int32} {a : qa} {post : Int32 → qa → Prop} (Wq : wp_X11_isDigit t p x0 a post) : q_Ct g mX11_isDigit (q_Rm 1 0 0) [q_I x0] (a, s) (q_kI s post) := by
  refine q_mk rfl rfl (Nat.le_of_ble_eq_true rfl) (q_cs rfl q_nil) (fun hv => ?_)
  unfold wp_X11_isDigit at Wq
  refine xe_iload_n dX11_isDigit_0 rfl ?_
  refine xe_bipush 48 dX11_isDigit_1 (by decide) ?_
  refine xe_ic_lt 16 dX11_isDigit_3 (by decide) (fun c_3 => ?_) (fun c_3 => ?_)
  · replace Wq := Wq.1 c_3
    refine xe_iconst 0 dX11_isDigit_16 (by decide) ?_
    exact xe_iret .boolean dX11_isDigit_17 rfl (by decide) ⟨_, _, rfl, rfl, Wq⟩
  · replace Wq := Wq.2 c_3
    refine xe_iload_n dX11_isDigit_6 rfl ?_
    refine xe_bipush 57 dX11_isDigit_7 (by decide) ?_
    refine xe_ic_gt 16 dX11_isDigit_9 (by decide) (fun c_9 => ?_) (fun c_9 => ?_)
    · replace Wq := Wq.1 c_9
      refine xe_iconst 0 dX11_isDigit_16 (by decide) ?_
      exact xe_iret .boolean dX11_isDigit_17 rfl (by decide) ⟨_, _, rfl, rfl, Wq⟩
    · replace Wq := Wq.2 c_9
      refine xe_iconst 1 dX11_isDigit_12 (by decide) ?_
      refine xe_goto 17 dX11_isDigit_13 (by decide) ?_
      exact xe_iret .boolean dX11_isDigit_17 rfl (by decide) ⟨_, _, rfl, rfl, Wq⟩
def wp_X11_isInn (t p : Nat) (x1 : Int32) (a : qa) (post : Int32 → qa → Prop) : Prop := ((x1 < 0 → post 0 a) ∧ (¬ x1 < 0 → (((a 11 0 2) ≤ x1 → post 0 a) ∧ (¬ (a 11 0 2) ≤ x1 → post 1 a))))
set_option maxHeartbeats 4000000 in
theorem ct_X11_isInn {g : q_G} {s : q_S} {t p : Nat} (hS : q_Sh t p s) {x1 : Int32} {a : qa} {post : Int32 → qa → Prop} (Wq : wp_X11_isInn t p x1 a post) : q_Ct g mX11_isInn (q_Rm 1 0 0) [q_O 11 0, q_I x1] (a, s) (q_kI s post) := by
  refine q_mk rfl rfl (Nat.le_of_ble_eq_true rfl) (q_cs rfl (q_cs rfl q_nil)) (fun hv => ?_)
  unfold wp_X11_isInn at Wq
  refine xe_iload_n dX11_isInn_0 rfl ?_
  refine xe_if_lt 16 dX11_isInn_1 (by decide) (fun c_1 => ?_) (fun c_1 => ?_)
  · replace Wq := Wq.1 c_1
    refine xe_iconst 0 dX11_isInn_16 (by decide) ?_
    exact xe_iret .boolean dX11_isInn_17 rfl (by decide) ⟨_, _, rfl, rfl, Wq⟩
  · replace Wq := Wq.2 c_1
    refine xe_iload_n dX11_isInn_4 rfl ?_
    refine xe_aload_n dX11_isInn_5 rfl q_rvO ?_
    refine xe_geti dX11_isInn_6 fX11_136 (fun _ _ => rfl) ?_
    refine xe_ic_ge 16 dX11_isInn_9 (by decide) (fun c_9 => ?_) (fun c_9 => ?_)
    · replace Wq := Wq.1 c_9
      refine xe_iconst 0 dX11_isInn_16 (by decide) ?_
      exact xe_iret .boolean dX11_isInn_17 rfl (by decide) ⟨_, _, rfl, rfl, Wq⟩
    · replace Wq := Wq.2 c_9
      refine xe_iconst 1 dX11_isInn_12 (by decide) ?_
      refine xe_goto 17 dX11_isInn_13 (by decide) ?_
      exact xe_iret .boolean dX11_isInn_17 rfl (by decide) ⟨_, _, rfl, rfl, Wq⟩
def wp_X11_isLeg (t p : Nat) (x1 : Int32) (a : qa) (post : Int32 → qa → Prop) : Prop := ((x1 < 0 → post 0 a) ∧ (¬ x1 < 0 → ((((a 11 0 2) - 1) ≤ x1 → post 0 a) ∧ (¬ ((a 11 0 2) - 1) ≤ x1 → post 1 a))))
set_option maxHeartbeats 4000000 in
theorem ct_X11_isLeg {g : q_G} {s : q_S} {t p : Nat} (hS : q_Sh t p s) {x1 : Int32} {a : qa} {post : Int32 → qa → Prop} (Wq : wp_X11_isLeg t p x1 a post) : q_Ct g mX11_isLeg (q_Rm 1 0 0) [q_O 11 0, q_I x1] (a, s) (q_kI s post) := by
  refine q_mk rfl rfl (Nat.le_of_ble_eq_true rfl) (q_cs rfl (q_cs rfl q_nil)) (fun hv => ?_)
  unfold wp_X11_isLeg at Wq
  refine xe_iload_n dX11_isLeg_0 rfl ?_
  refine xe_if_lt 18 dX11_isLeg_1 (by decide) (fun c_1 => ?_) (fun c_1 => ?_)
  · replace Wq := Wq.1 c_1
    refine xe_iconst 0 dX11_isLeg_18 (by decide) ?_
    exact xe_iret .boolean dX11_isLeg_19 rfl (by decide) ⟨_, _, rfl, rfl, Wq⟩
  · replace Wq := Wq.2 c_1
    refine xe_iload_n dX11_isLeg_4 rfl ?_
    refine xe_aload_n dX11_isLeg_5 rfl q_rvO ?_
    refine xe_geti dX11_isLeg_6 fX11_136 (fun _ _ => rfl) ?_
    refine xe_iconst 1 dX11_isLeg_9 (by decide) ?_
    refine xe_isub dX11_isLeg_10 ?_
    refine xe_ic_ge 18 dX11_isLeg_11 (by decide) (fun c_11 => ?_) (fun c_11 => ?_)
    · replace Wq := Wq.1 c_11
      refine xe_iconst 0 dX11_isLeg_18 (by decide) ?_
      exact xe_iret .boolean dX11_isLeg_19 rfl (by decide) ⟨_, _, rfl, rfl, Wq⟩
    · replace Wq := Wq.2 c_11
      refine xe_iconst 1 dX11_isLeg_14 (by decide) ?_
      refine xe_goto 19 dX11_isLeg_15 (by decide) ?_
      exact xe_iret .boolean dX11_isLeg_19 rfl (by decide) ⟨_, _, rfl, rfl, Wq⟩
def wp_X11_isPack (t p : Nat) (x1 : Int32) (a : qa) (post : Int32 → qa → Prop) : Prop := ((x1 < 0 → post 0 a) ∧ (¬ x1 < 0 → (((a 11 0 20) ≤ x1 → post 0 a) ∧ (¬ (a 11 0 20) ≤ x1 → post 1 a))))
set_option maxHeartbeats 4000000 in
theorem ct_X11_isPack {g : q_G} {s : q_S} {t p : Nat} (hS : q_Sh t p s) {x1 : Int32} {a : qa} {post : Int32 → qa → Prop} (Wq : wp_X11_isPack t p x1 a post) : q_Ct g mX11_isPack (q_Rm 1 0 0) [q_O 11 0, q_I x1] (a, s) (q_kI s post) := by
  refine q_mk rfl rfl (Nat.le_of_ble_eq_true rfl) (q_cs rfl (q_cs rfl q_nil)) (fun hv => ?_)
  unfold wp_X11_isPack at Wq
  refine xe_iload_n dX11_isPack_0 rfl ?_
  refine xe_if_lt 16 dX11_isPack_1 (by decide) (fun c_1 => ?_) (fun c_1 => ?_)
  · replace Wq := Wq.1 c_1
    refine xe_iconst 0 dX11_isPack_16 (by decide) ?_
    exact xe_iret .boolean dX11_isPack_17 rfl (by decide) ⟨_, _, rfl, rfl, Wq⟩
  · replace Wq := Wq.2 c_1
    refine xe_iload_n dX11_isPack_4 rfl ?_
    refine xe_aload_n dX11_isPack_5 rfl q_rvO ?_
    refine xe_geti dX11_isPack_6 fX11_165 (fun _ _ => rfl) ?_
    refine xe_ic_ge 16 dX11_isPack_9 (by decide) (fun c_9 => ?_) (fun c_9 => ?_)
    · replace Wq := Wq.1 c_9
      refine xe_iconst 0 dX11_isPack_16 (by decide) ?_
      exact xe_iret .boolean dX11_isPack_17 rfl (by decide) ⟨_, _, rfl, rfl, Wq⟩
    · replace Wq := Wq.2 c_9
      refine xe_iconst 1 dX11_isPack_12 (by decide) ?_
      refine xe_goto 17 dX11_isPack_13 (by decide) ?_
      exact xe_iret .boolean dX11_isPack_17 rfl (by decide) ⟨_, _, rfl, rfl, Wq⟩
def wp_X11_isSmall (t p : Nat) (x0 : Int32) (a : qa) (post : Int32 → qa → Prop) : Prop := ((x0 < 97 → post 0 a) ∧ (¬ x0 < 97 → ((122 < x0 → post 0 a) ∧ (¬ 122 < x0 → post 1 a))))
set_option maxHeartbeats 4000000 in
theorem ct_X11_isSmall {g : q_G} {s : q_S} {t p : Nat} (hS : q_Sh t p s) {x0 : Int32} {a : qa} {post : Int32 → qa → Prop} (Wq : wp_X11_isSmall t p x0 a post) : q_Ct g mX11_isSmall (q_Rm 1 0 0) [q_I x0] (a, s) (q_kI s post) := by
  refine q_mk rfl rfl (Nat.le_of_ble_eq_true rfl) (q_cs rfl q_nil) (fun hv => ?_)
  unfold wp_X11_isSmall at Wq
  refine xe_iload_n dX11_isSmall_0 rfl ?_
  refine xe_bipush 97 dX11_isSmall_1 (by decide) ?_
  refine xe_ic_lt 16 dX11_isSmall_3 (by decide) (fun c_3 => ?_) (fun c_3 => ?_)
  · replace Wq := Wq.1 c_3
    refine xe_iconst 0 dX11_isSmall_16 (by decide) ?_
    exact xe_iret .boolean dX11_isSmall_17 rfl (by decide) ⟨_, _, rfl, rfl, Wq⟩
  · replace Wq := Wq.2 c_3
    refine xe_iload_n dX11_isSmall_6 rfl ?_
    refine xe_bipush 122 dX11_isSmall_7 (by decide) ?_
    refine xe_ic_gt 16 dX11_isSmall_9 (by decide) (fun c_9 => ?_) (fun c_9 => ?_)
    · replace Wq := Wq.1 c_9
      refine xe_iconst 0 dX11_isSmall_16 (by decide) ?_
      exact xe_iret .boolean dX11_isSmall_17 rfl (by decide) ⟨_, _, rfl, rfl, Wq⟩
    · replace Wq := Wq.2 c_9
      refine xe_iconst 1 dX11_isSmall_12 (by decide) ?_
      refine xe_goto 17 dX11_isSmall_13 (by decide) ?_
      exact xe_iret .boolean dX11_isSmall_17 rfl (by decide) ⟨_, _, rfl, rfl, Wq⟩
def wp_X11_isString (t p : Nat) (x1 : Int32) (a : qa) (post : Int32 → qa → Prop) : Prop := ((x1 < 0 → post 0 a) ∧ (¬ x1 < 0 → (((a 11 0 11) ≤ x1 → post 0 a) ∧ (¬ (a 11 0 11) ≤ x1 → post 1 a))))
set_option maxHeartbeats 4000000 in
theorem ct_X11_isString {g : q_G} {s : q_S} {t p : Nat} (hS : q_Sh t p s) {x1 : Int32} {a : qa} {post : Int32 → qa → Prop} (Wq : wp_X11_isString t p x1 a post) : q_Ct g mX11_isString (q_Rm 1 0 0) [q_O 11 0, q_I x1] (a, s) (q_kI s post) := by
  refine q_mk rfl rfl (Nat.le_of_ble_eq_true rfl) (q_cs rfl (q_cs rfl q_nil)) (fun hv => ?_)
  unfold wp_X11_isString at Wq
  refine xe_iload_n dX11_isString_0 rfl ?_
  refine xe_if_lt 16 dX11_isString_1 (by decide) (fun c_1 => ?_) (fun c_1 => ?_)
  · replace Wq := Wq.1 c_1
    refine xe_iconst 0 dX11_isString_16 (by decide) ?_
    exact xe_iret .boolean dX11_isString_17 rfl (by decide) ⟨_, _, rfl, rfl, Wq⟩
  · replace Wq := Wq.2 c_1
    refine xe_iload_n dX11_isString_4 rfl ?_
    refine xe_aload_n dX11_isString_5 rfl q_rvO ?_
    refine xe_geti dX11_isString_6 fX11_159 (fun _ _ => rfl) ?_
    refine xe_ic_ge 16 dX11_isString_9 (by decide) (fun c_9 => ?_) (fun c_9 => ?_)
    · replace Wq := Wq.1 c_9
      refine xe_iconst 0 dX11_isString_16 (by decide) ?_
      exact xe_iret .boolean dX11_isString_17 rfl (by decide) ⟨_, _, rfl, rfl, Wq⟩
    · replace Wq := Wq.2 c_9
      refine xe_iconst 1 dX11_isString_12 (by decide) ?_
      refine xe_goto 17 dX11_isString_13 (by decide) ?_
      exact xe_iret .boolean dX11_isString_17 rfl (by decide) ⟨_, _, rfl, rfl, Wq⟩
def wp_X11_isWell (t p : Nat) (a : qa) (post : Int32 → qa → Prop) : Prop := ((¬ (a 11 0 47) = 0 → post 0 a) ∧ ((a 11 0 47) = 0 → post 1 a))
set_option maxHeartbeats 4000000 in
theorem ct_X11_isWell {g : q_G} {s : q_S} {t p : Nat} (hS : q_Sh t p s) {a : qa} {post : Int32 → qa → Prop} (Wq : wp_X11_isWell t p  a post) : q_Ct g mX11_isWell (q_Rm 1 0 0) [q_O 11 0] (a, s) (q_kI s post) := by
  refine q_mk rfl rfl (Nat.le_of_ble_eq_true rfl) (q_cs rfl q_nil) (fun hv => ?_)
  unfold wp_X11_isWell at Wq
  refine xe_aload_n dX11_isWell_0 rfl q_rvO ?_
  refine xe_geti dX11_isWell_1 fX11_264 (fun _ _ => rfl) ?_
  refine xe_if_ne 11 dX11_isWell_4 (by decide) (fun c_4 => ?_) (fun c_4 => ?_)
  · replace Wq := Wq.1 c_4
    refine xe_iconst 0 dX11_isWell_11 (by decide) ?_
    exact xe_iret .boolean dX11_isWell_12 rfl (by decide) ⟨_, _, rfl, rfl, Wq⟩
  · replace Wq := Wq.2 c_4
    refine xe_iconst 1 dX11_isWell_7 (by decide) ?_
    refine xe_goto 12 dX11_isWell_8 (by decide) ?_
    exact xe_iret .boolean dX11_isWell_12 rfl (by decide) ⟨_, _, rfl, rfl, Wq⟩
def wl_X11_load_52 (t p : Nat) (J5 : Int32 → Int32 → Int32 → Int32 → qa → Prop) (post : Int32 → qa → Prop) : Int32 → Int32 → Int32 → Int32 → qa → Prop := fun x1 x2 x3 x4 a => vp_in x4 100 ∧ (J5 x1 x2 (x3 + (a 56 0 x4.toNatClampNeg)) (x4 + 1) a)
def wl_X11_load_5 (t p : Nat) (post : Int32 → qa → Prop) : Nat → Int32 → Int32 → Int32 → Int32 → qa → Prop
  | 0 => fun _ _ _ _ _ => False
  | n + 1 => fun x1 x2 x3 x4 a => (((a 11 0 20) ≤ x4 → post x3 a) ∧ (¬ (a 11 0 20) ≤ x4 → vp_in x4 100 ∧ ((¬ (a 58 0 x4.toNatClampNeg) = 1 → (wl_X11_load_5 t p post n) x1 x2 x3 (x4 + 1) a) ∧ ((a 58 0 x4.toNatClampNeg) = 1 → vp_in x4 100 ∧ ((¬ (a 60 0 x4.toNatClampNeg) = x1 → (wl_X11_load_5 t p post n) x1 x2 x3 (x4 + 1) a) ∧ ((a 60 0 x4.toNatClampNeg) = x1 → ((x2 = 3 → wl_X11_load_52 t p (wl_X11_load_5 t p post n) post x1 x2 x3 x4 a) ∧ (¬ x2 = 3 → vp_in x4 100 ∧ ((¬ (a 61 0 x4.toNatClampNeg) = x2 → (wl_X11_load_5 t p post n) x1 x2 x3 (x4 + 1) a) ∧ ((a 61 0 x4.toNatClampNeg) = x2 → wl_X11_load_52 t p (wl_X11_load_5 t p post n) post x1 x2 x3 x4 a))))))))))
def wp_X11_load (t p : Nat) (x1 : Int32) (x2 : Int32) (a : qa) (post : Int32 → qa → Prop) : Prop := ∃ n_5, wl_X11_load_5 t p post n_5 x1 x2 0 0 a
set_option maxHeartbeats 4000000 in
theorem el_X11_load_52 {g : q_G} {s : q_S} {t p : Nat} (hS : q_Sh t p s) {post : Int32 → qa → Prop} {J5 : Int32 → Int32 → Int32 → Int32 → qa → Prop} (hJ5 : ∀ (x1 : Int32) (x2 : Int32) (x3 : Int32) (x4 : Int32) (a : qa), J5 x1 x2 x3 x4 a → q_E g mX11_load (q_Rm 1 0 0) (q_kI s post) (0, 0) 5 [some (q_O 11 0), some (q_I x1), some (q_I x2), some (q_I x3), some (q_I x4)] [] (a, s)) : ∀ (x1 : Int32) (x2 : Int32) (x3 : Int32) (x4 : Int32) (a : qa), wl_X11_load_52 t p J5 post x1 x2 x3 x4 a → q_E g mX11_load (q_Rm 1 0 0) (q_kI s post) (0, 0) 52 [some (q_O 11 0), some (q_I x1), some (q_I x2), some (q_I x3), some (q_I x4)] [] (a, s) := by
  intro x1 x2 x3 x4 a Wq
  unfold wl_X11_load_52 at Wq
  refine xe_iload_n dX11_load_52 rfl ?_
  refine xe_aload_n dX11_load_53 rfl q_rvO ?_
  refine xe_getr dX11_load_54 fX11_63 (fun _ _ => rfl) (q_sg hS rfl) ?_
  refine xe_iload dX11_load_57 rfl ?_
  obtain ⟨hj_59, Wq⟩ := Wq
  refine xe_iald dX11_load_59 rfl hj_59 ?_
  refine xe_iadd dX11_load_60 ?_
  refine xe_istore_n dX11_load_61 (by decide) ?_
  refine xe_iinc (_ + 1) dX11_load_62 (by decide) rfl rfl ?_
  refine xe_goto 5 dX11_load_65 (by decide) ?_
  refine q_wk (ls := [some (q_O 11 0), some (q_I x1), some (q_I x2), some (q_I (x3 + (a 56 0 x4.toNatClampNeg))), some (q_I (x4 + 1))]) ⟨rfl, ⟨rfl, ⟨rfl, ⟨rfl, ⟨rfl, trivial⟩⟩⟩⟩⟩ ?_
  exact hJ5 _ _ _ _ _ Wq
set_option maxHeartbeats 4000000 in
theorem el_X11_load_5 {g : q_G} {s : q_S} {t p : Nat} (hS : q_Sh t p s) {post : Int32 → qa → Prop} : ∀ (n : Nat) (x1 : Int32) (x2 : Int32) (x3 : Int32) (x4 : Int32) (a : qa), wl_X11_load_5 t p post n x1 x2 x3 x4 a → q_E g mX11_load (q_Rm 1 0 0) (q_kI s post) (0, 0) 5 [some (q_O 11 0), some (q_I x1), some (q_I x2), some (q_I x3), some (q_I x4)] [] (a, s) := by
  intro n
  induction n with
  | zero =>
    intro x1 x2 x3 x4 a Wq
    exact absurd Wq id
  | succ n ih =>
    intro x1 x2 x3 x4 a Wq
    unfold wl_X11_load_5 at Wq
    refine xe_iload dX11_load_5 rfl ?_
    refine xe_aload_n dX11_load_7 rfl q_rvO ?_
    refine xe_geti dX11_load_8 fX11_165 (fun _ _ => rfl) ?_
    refine xe_ic_ge 68 dX11_load_11 (by decide) (fun c_11 => ?_) (fun c_11 => ?_)
    · replace Wq := Wq.1 c_11
      refine xe_iload_n dX11_load_68 rfl ?_
      exact xe_iret .int dX11_load_69 rfl rfl ⟨_, _, rfl, rfl, Wq⟩
    · replace Wq := Wq.2 c_11
      refine xe_aload_n dX11_load_14 rfl q_rvO ?_
      refine xe_getr dX11_load_15 fX11_69 (fun _ _ => rfl) (q_sg hS rfl) ?_
      refine xe_iload dX11_load_18 rfl ?_
      obtain ⟨hj_20, Wq⟩ := Wq
      refine xe_iald dX11_load_20 rfl hj_20 ?_
      refine xe_iconst 1 dX11_load_21 (by decide) ?_
      refine xe_ic_ne 62 dX11_load_22 (by decide) (fun c_22 => ?_) (fun c_22 => ?_)
      · replace Wq := Wq.1 c_22
        refine xe_iinc (_ + 1) dX11_load_62 (by decide) rfl rfl ?_
        refine xe_goto 5 dX11_load_65 (by decide) ?_
        refine q_wk (ls := [some (q_O 11 0), some (q_I x1), some (q_I x2), some (q_I x3), some (q_I (x4 + 1))]) ⟨rfl, ⟨rfl, ⟨rfl, ⟨rfl, ⟨rfl, trivial⟩⟩⟩⟩⟩ ?_
        exact ih _ _ _ _ _ Wq
      · replace Wq := Wq.2 c_22
        refine xe_aload_n dX11_load_25 rfl q_rvO ?_
        refine xe_getr dX11_load_26 fX11_75 (fun _ _ => rfl) (q_sg hS rfl) ?_
        refine xe_iload dX11_load_29 rfl ?_
        obtain ⟨hj_31, Wq⟩ := Wq
        refine xe_iald dX11_load_31 rfl hj_31 ?_
        refine xe_iload_n dX11_load_32 rfl ?_
        refine xe_ic_ne 62 dX11_load_33 (by decide) (fun c_33 => ?_) (fun c_33 => ?_)
        · replace Wq := Wq.1 c_33
          refine xe_iinc (_ + 1) dX11_load_62 (by decide) rfl rfl ?_
          refine xe_goto 5 dX11_load_65 (by decide) ?_
          refine q_wk (ls := [some (q_O 11 0), some (q_I x1), some (q_I x2), some (q_I x3), some (q_I (x4 + 1))]) ⟨rfl, ⟨rfl, ⟨rfl, ⟨rfl, ⟨rfl, trivial⟩⟩⟩⟩⟩ ?_
          exact ih _ _ _ _ _ Wq
        · replace Wq := Wq.2 c_33
          refine xe_iload_n dX11_load_36 rfl ?_
          refine xe_iconst 3 dX11_load_37 (by decide) ?_
          refine xe_ic_eq 52 dX11_load_38 (by decide) (fun c_38 => ?_) (fun c_38 => ?_)
          · replace Wq := Wq.1 c_38
            refine q_wk (ls := [some (q_O 11 0), some (q_I x1), some (q_I x2), some (q_I x3), some (q_I x4)]) ⟨rfl, ⟨rfl, ⟨rfl, ⟨rfl, ⟨rfl, trivial⟩⟩⟩⟩⟩ ?_
            exact el_X11_load_52 hS ih _ _ _ _ _ Wq
          · replace Wq := Wq.2 c_38
            refine xe_aload_n dX11_load_41 rfl q_rvO ?_
            refine xe_getr dX11_load_42 fX11_78 (fun _ _ => rfl) (q_sg hS rfl) ?_
            refine xe_iload dX11_load_45 rfl ?_
            obtain ⟨hj_47, Wq⟩ := Wq
            refine xe_iald dX11_load_47 rfl hj_47 ?_
            refine xe_iload_n dX11_load_48 rfl ?_
            refine xe_ic_ne 62 dX11_load_49 (by decide) (fun c_49 => ?_) (fun c_49 => ?_)
            · replace Wq := Wq.1 c_49
              refine xe_iinc (_ + 1) dX11_load_62 (by decide) rfl rfl ?_
              refine xe_goto 5 dX11_load_65 (by decide) ?_
              refine q_wk (ls := [some (q_O 11 0), some (q_I x1), some (q_I x2), some (q_I x3), some (q_I (x4 + 1))]) ⟨rfl, ⟨rfl, ⟨rfl, ⟨rfl, ⟨rfl, trivial⟩⟩⟩⟩⟩ ?_
              exact ih _ _ _ _ _ Wq
            · replace Wq := Wq.2 c_49
              refine q_wk (ls := [some (q_O 11 0), some (q_I x1), some (q_I x2), some (q_I x3), some (q_I x4)]) ⟨rfl, ⟨rfl, ⟨rfl, ⟨rfl, ⟨rfl, trivial⟩⟩⟩⟩⟩ ?_
              exact el_X11_load_52 hS ih _ _ _ _ _ Wq
set_option maxHeartbeats 4000000 in
theorem ct_X11_load {g : q_G} {s : q_S} {t p : Nat} (hS : q_Sh t p s) {x1 : Int32} {x2 : Int32} {a : qa} {post : Int32 → qa → Prop} (Wq : wp_X11_load t p x1 x2 a post) : q_Ct g mX11_load (q_Rm 1 0 0) [q_O 11 0, q_I x1, q_I x2] (a, s) (q_kI s post) := by
  refine q_mk rfl rfl (Nat.le_of_ble_eq_true rfl) (q_cs rfl (q_cs rfl (q_cs rfl q_nil))) (fun hv => ?_)
  unfold wp_X11_load at Wq
  refine xe_iconst 0 dX11_load_0 (by decide) ?_
  refine xe_istore_n dX11_load_1 (by decide) ?_
  refine xe_iconst 0 dX11_load_2 (by decide) ?_
  refine xe_istore dX11_load_3 (by decide) ?_
  obtain ⟨n_5, Wq⟩ := Wq
  refine q_wk (ls := [some (q_O 11 0), some (q_I x1), some (q_I x2), some (q_I 0), some (q_I 0)]) ⟨rfl, ⟨rfl, ⟨rfl, ⟨rfl, ⟨rfl, trivial⟩⟩⟩⟩⟩ ?_
  exact el_X11_load_5 hS n_5 _ _ _ _ _ Wq
def wl_X11_many_4 (t p : Nat) (post : Int32 → qa → Prop) : Nat → Int32 → Int32 → Int32 → qa → Prop
  | 0 => fun _ _ _ _ => False
  | n + 1 => fun x1 x2 x3 a => (((a 11 0 20) ≤ x3 → post x2 a) ∧ (¬ (a 11 0 20) ≤ x3 → vp_in x3 100 ∧ ((¬ (a 58 0 x3.toNatClampNeg) = x1 → (wl_X11_many_4 t p post n) x1 x2 (x3 + 1) a) ∧ ((a 58 0 x3.toNatClampNeg) = x1 → (wl_X11_many_4 t p post n) x1 (x2 + 1) (x3 + 1) a))))
def wp_X11_many (t p : Nat) (x1 : Int32) (a : qa) (post : Int32 → qa → Prop) : Prop := ∃ n_4, wl_X11_many_4 t p post n_4 x1 0 0 a
set_option maxHeartbeats 4000000 in
theorem el_X11_many_4 {g : q_G} {s : q_S} {t p : Nat} (hS : q_Sh t p s) {post : Int32 → qa → Prop} : ∀ (n : Nat) (x1 : Int32) (x2 : Int32) (x3 : Int32) (a : qa), wl_X11_many_4 t p post n x1 x2 x3 a → q_E g mX11_many (q_Rm 1 0 0) (q_kI s post) (0, 0) 4 [some (q_O 11 0), some (q_I x1), some (q_I x2), some (q_I x3)] [] (a, s) := by
  intro n
  induction n with
  | zero =>
    intro x1 x2 x3 a Wq
    exact absurd Wq id
  | succ n ih =>
    intro x1 x2 x3 a Wq
    unfold wl_X11_many_4 at Wq
    refine xe_iload_n dX11_many_4 rfl ?_
    refine xe_aload_n dX11_many_5 rfl q_rvO ?_
    refine xe_geti dX11_many_6 fX11_165 (fun _ _ => rfl) ?_
    refine xe_ic_ge 31 dX11_many_9 (by decide) (fun c_9 => ?_) (fun c_9 => ?_)
    · replace Wq := Wq.1 c_9
      refine xe_iload_n dX11_many_31 rfl ?_
      exact xe_iret .int dX11_many_32 rfl rfl ⟨_, _, rfl, rfl, Wq⟩
    · replace Wq := Wq.2 c_9
      refine xe_aload_n dX11_many_12 rfl q_rvO ?_
      refine xe_getr dX11_many_13 fX11_69 (fun _ _ => rfl) (q_sg hS rfl) ?_
      refine xe_iload_n dX11_many_16 rfl ?_
      obtain ⟨hj_17, Wq⟩ := Wq
      refine xe_iald dX11_many_17 rfl hj_17 ?_
      refine xe_iload_n dX11_many_18 rfl ?_
      refine xe_ic_ne 25 dX11_many_19 (by decide) (fun c_19 => ?_) (fun c_19 => ?_)
      · replace Wq := Wq.1 c_19
        refine xe_iinc (_ + 1) dX11_many_25 (by decide) rfl rfl ?_
        refine xe_goto 4 dX11_many_28 (by decide) ?_
        refine q_wk (ls := [some (q_O 11 0), some (q_I x1), some (q_I x2), some (q_I (x3 + 1))]) ⟨rfl, ⟨rfl, ⟨rfl, ⟨rfl, trivial⟩⟩⟩⟩ ?_
        exact ih _ _ _ _ Wq
      · replace Wq := Wq.2 c_19
        refine xe_iinc (_ + 1) dX11_many_22 (by decide) rfl rfl ?_
        refine xe_iinc (_ + 1) dX11_many_25 (by decide) rfl rfl ?_
        refine xe_goto 4 dX11_many_28 (by decide) ?_
        refine q_wk (ls := [some (q_O 11 0), some (q_I x1), some (q_I (x2 + 1)), some (q_I (x3 + 1))]) ⟨rfl, ⟨rfl, ⟨rfl, ⟨rfl, trivial⟩⟩⟩⟩ ?_
        exact ih _ _ _ _ Wq
set_option maxHeartbeats 4000000 in
theorem ct_X11_many {g : q_G} {s : q_S} {t p : Nat} (hS : q_Sh t p s) {x1 : Int32} {a : qa} {post : Int32 → qa → Prop} (Wq : wp_X11_many t p x1 a post) : q_Ct g mX11_many (q_Rm 1 0 0) [q_O 11 0, q_I x1] (a, s) (q_kI s post) := by
  refine q_mk rfl rfl (Nat.le_of_ble_eq_true rfl) (q_cs rfl (q_cs rfl q_nil)) (fun hv => ?_)
  unfold wp_X11_many at Wq
  refine xe_iconst 0 dX11_many_0 (by decide) ?_
  refine xe_istore_n dX11_many_1 (by decide) ?_
  refine xe_iconst 0 dX11_many_2 (by decide) ?_
  refine xe_istore_n dX11_many_3 (by decide) ?_
  obtain ⟨n_4, Wq⟩ := Wq
  refine q_wk (ls := [some (q_O 11 0), some (q_I x1), some (q_I 0), some (q_I 0)]) ⟨rfl, ⟨rfl, ⟨rfl, ⟨rfl, trivial⟩⟩⟩⟩ ?_
  exact el_X11_many_4 hS n_4 _ _ _ _ Wq
def wl_X11_packsOn_4 (t p : Nat) (post : Int32 → qa → Prop) : Nat → Int32 → Int32 → Int32 → qa → Prop
  | 0 => fun _ _ _ _ => False
  | n + 1 => fun x1 x2 x3 a => (((a 11 0 20) ≤ x3 → post x2 a) ∧ (¬ (a 11 0 20) ≤ x3 → vp_in x3 100 ∧ ((¬ (a 58 0 x3.toNatClampNeg) = 1 → (wl_X11_packsOn_4 t p post n) x1 x2 (x3 + 1) a) ∧ ((a 58 0 x3.toNatClampNeg) = 1 → vp_in x3 100 ∧ ((¬ ((a 60 0 x3.toNatClampNeg) / 3) = x1 → (wl_X11_packsOn_4 t p post n) x1 x2 (x3 + 1) a) ∧ (((a 60 0 x3.toNatClampNeg) / 3) = x1 → (wl_X11_packsOn_4 t p post n) x1 (x2 + 1) (x3 + 1) a))))))
def wp_X11_packsOn (t p : Nat) (x1 : Int32) (a : qa) (post : Int32 → qa → Prop) : Prop := ∃ n_4, wl_X11_packsOn_4 t p post n_4 x1 0 0 a
set_option maxHeartbeats 4000000 in
theorem el_X11_packsOn_4 {g : q_G} {s : q_S} {t p : Nat} (hS : q_Sh t p s) {post : Int32 → qa → Prop} : ∀ (n : Nat) (x1 : Int32) (x2 : Int32) (x3 : Int32) (a : qa), wl_X11_packsOn_4 t p post n x1 x2 x3 a → q_E g mX11_packsOn (q_Rm 1 0 0) (q_kI s post) (0, 0) 4 [some (q_O 11 0), some (q_I x1), some (q_I x2), some (q_I x3)] [] (a, s) := by
  intro n
  induction n with
  | zero =>
    intro x1 x2 x3 a Wq
    exact absurd Wq id
  | succ n ih =>
    intro x1 x2 x3 a Wq
    unfold wl_X11_packsOn_4 at Wq
    refine xe_iload_n dX11_packsOn_4 rfl ?_
    refine xe_aload_n dX11_packsOn_5 rfl q_rvO ?_
    refine xe_geti dX11_packsOn_6 fX11_165 (fun _ _ => rfl) ?_
    refine xe_ic_ge 43 dX11_packsOn_9 (by decide) (fun c_9 => ?_) (fun c_9 => ?_)
    · replace Wq := Wq.1 c_9
      refine xe_iload_n dX11_packsOn_43 rfl ?_
      exact xe_iret .int dX11_packsOn_44 rfl rfl ⟨_, _, rfl, rfl, Wq⟩
    · replace Wq := Wq.2 c_9
      refine xe_aload_n dX11_packsOn_12 rfl q_rvO ?_
      refine xe_getr dX11_packsOn_13 fX11_69 (fun _ _ => rfl) (q_sg hS rfl) ?_
      refine xe_iload_n dX11_packsOn_16 rfl ?_
      obtain ⟨hj_17, Wq⟩ := Wq
      refine xe_iald dX11_packsOn_17 rfl hj_17 ?_
      refine xe_iconst 1 dX11_packsOn_18 (by decide) ?_
      refine xe_ic_ne 37 dX11_packsOn_19 (by decide) (fun c_19 => ?_) (fun c_19 => ?_)
      · replace Wq := Wq.1 c_19
        refine xe_iinc (_ + 1) dX11_packsOn_37 (by decide) rfl rfl ?_
        refine xe_goto 4 dX11_packsOn_40 (by decide) ?_
        refine q_wk (ls := [some (q_O 11 0), some (q_I x1), some (q_I x2), some (q_I (x3 + 1))]) ⟨rfl, ⟨rfl, ⟨rfl, ⟨rfl, trivial⟩⟩⟩⟩ ?_
        exact ih _ _ _ _ Wq
      · replace Wq := Wq.2 c_19
        refine xe_aload_n dX11_packsOn_22 rfl q_rvO ?_
        refine xe_getr dX11_packsOn_23 fX11_75 (fun _ _ => rfl) (q_sg hS rfl) ?_
        refine xe_iload_n dX11_packsOn_26 rfl ?_
        obtain ⟨hj_27, Wq⟩ := Wq
        refine xe_iald dX11_packsOn_27 rfl hj_27 ?_
        refine xe_iconst 3 dX11_packsOn_28 (by decide) ?_
        refine xe_idiv dX11_packsOn_29 (by decide) ?_
        refine xe_iload_n dX11_packsOn_30 rfl ?_
        refine xe_ic_ne 37 dX11_packsOn_31 (by decide) (fun c_31 => ?_) (fun c_31 => ?_)
        · replace Wq := Wq.1 c_31
          refine xe_iinc (_ + 1) dX11_packsOn_37 (by decide) rfl rfl ?_
          refine xe_goto 4 dX11_packsOn_40 (by decide) ?_
          refine q_wk (ls := [some (q_O 11 0), some (q_I x1), some (q_I x2), some (q_I (x3 + 1))]) ⟨rfl, ⟨rfl, ⟨rfl, ⟨rfl, trivial⟩⟩⟩⟩ ?_
          exact ih _ _ _ _ Wq
        · replace Wq := Wq.2 c_31
          refine xe_iinc (_ + 1) dX11_packsOn_34 (by decide) rfl rfl ?_
          refine xe_iinc (_ + 1) dX11_packsOn_37 (by decide) rfl rfl ?_
          refine xe_goto 4 dX11_packsOn_40 (by decide) ?_
          refine q_wk (ls := [some (q_O 11 0), some (q_I x1), some (q_I (x2 + 1)), some (q_I (x3 + 1))]) ⟨rfl, ⟨rfl, ⟨rfl, ⟨rfl, trivial⟩⟩⟩⟩ ?_
          exact ih _ _ _ _ Wq
set_option maxHeartbeats 4000000 in
theorem ct_X11_packsOn {g : q_G} {s : q_S} {t p : Nat} (hS : q_Sh t p s) {x1 : Int32} {a : qa} {post : Int32 → qa → Prop} (Wq : wp_X11_packsOn t p x1 a post) : q_Ct g mX11_packsOn (q_Rm 1 0 0) [q_O 11 0, q_I x1] (a, s) (q_kI s post) := by
  refine q_mk rfl rfl (Nat.le_of_ble_eq_true rfl) (q_cs rfl (q_cs rfl q_nil)) (fun hv => ?_)
  unfold wp_X11_packsOn at Wq
  refine xe_iconst 0 dX11_packsOn_0 (by decide) ?_
  refine xe_istore_n dX11_packsOn_1 (by decide) ?_
  refine xe_iconst 0 dX11_packsOn_2 (by decide) ?_
  refine xe_istore_n dX11_packsOn_3 (by decide) ?_
  obtain ⟨n_4, Wq⟩ := Wq
  refine q_wk (ls := [some (q_O 11 0), some (q_I x1), some (q_I 0), some (q_I 0)]) ⟨rfl, ⟨rfl, ⟨rfl, ⟨rfl, trivial⟩⟩⟩⟩ ?_
  exact el_X11_packsOn_4 hS n_4 _ _ _ _ Wq
def wp_X11_place (t p : Nat) (a : qa) (post : Int32 → qa → Prop) : Prop := post (a 11 0 49) (qs a 11 0 0 0)
set_option maxHeartbeats 4000000 in
theorem ct_X11_place {g : q_G} {s : q_S} {t p : Nat} (hS : q_Sh t p s) {a : qa} {post : Int32 → qa → Prop} (Wq : wp_X11_place t p  a post) : q_Ct g mX11_place (q_Rm 1 0 0) [q_O 11 0] (a, s) (q_kI s post) := by
  refine q_mk rfl rfl (Nat.le_of_ble_eq_true rfl) (q_cs rfl q_nil) (fun hv => ?_)
  unfold wp_X11_place at Wq
  refine xe_aload_n dX11_place_0 rfl q_rvO ?_
  refine xe_iconst 0 dX11_place_1 (by decide) ?_
  refine xf_puti dX11_place_2 fX11_1 (fun q hq => Or.inl (by cases hq; rfl)) ⟨rfl, rfl⟩ (fun _ _ => rfl) ?_
  refine xe_aload_n dX11_place_5 rfl q_rvO ?_
  refine xe_geti dX11_place_6 fX11_112 (fun _ _ => rfl) ?_
  exact xe_iret .int dX11_place_9 rfl rfl ⟨_, _, rfl, rfl, Wq⟩
def wl_X11_rests_4 (t p : Nat) (post : qa → Prop) : Nat → Int32 → Int32 → qa → Prop
  | 0 => fun _ _ _ => False
  | n + 1 => fun x1 x2 a => ((((3 * x1) + 3) ≤ x2 → post a) ∧ (¬ ((3 * x1) + 3) ≤ x2 → vp_in x2 12 ∧ vp_in x2 12 ∧ vp_in x2 12 ∧ ((¬ ((qs a 52 0 x2.toNatClampNeg (if 0 < ((a 52 0 x2.toNatClampNeg) - 5) then ((a 52 0 x2.toNatClampNeg) - 5) else 0)) 52 0 x2.toNatClampNeg) = 0 → (wl_X11_rests_4 t p post n) x1 (x2 + 1) (qs a 52 0 x2.toNatClampNeg (if 0 < ((a 52 0 x2.toNatClampNeg) - 5) then ((a 52 0 x2.toNatClampNeg) - 5) else 0))) ∧ (((qs a 52 0 x2.toNatClampNeg (if 0 < ((a 52 0 x2.toNatClampNeg) - 5) then ((a 52 0 x2.toNatClampNeg) - 5) else 0)) 52 0 x2.toNatClampNeg) = 0 → vp_in x2 12 ∧ ((wl_X11_rests_4 t p post n) x1 (x2 + 1) (qs (qs a 52 0 x2.toNatClampNeg (if 0 < ((a 52 0 x2.toNatClampNeg) - 5) then ((a 52 0 x2.toNatClampNeg) - 5) else 0)) 53 0 x2.toNatClampNeg (vp_nar .boolean 0)))))))
def wp_X11_rests (t p : Nat) (x1 : Int32) (a : qa) (post : qa → Prop) : Prop := ∃ n_4, wl_X11_rests_4 t p post n_4 x1 (3 * x1) a
set_option maxHeartbeats 4000000 in
theorem el_X11_rests_4 {g : q_G} {s : q_S} {t p : Nat} (hS : q_Sh t p s) {post : qa → Prop} : ∀ (n : Nat) (x1 : Int32) (x2 : Int32) (a : qa), wl_X11_rests_4 t p post n x1 x2 a → q_E g mX11_rests (q_Rm 1 0 0) (q_kV s post) (0, 0) 4 [some (q_O 11 0), some (q_I x1), some (q_I x2)] [] (a, s) := by
  intro n
  induction n with
  | zero =>
    intro x1 x2 a Wq
    exact absurd Wq id
  | succ n ih =>
    intro x1 x2 a Wq
    unfold wl_X11_rests_4 at Wq
    refine xe_iload_n dX11_rests_4 rfl ?_
    refine xe_iconst 3 dX11_rests_5 (by decide) ?_
    refine xe_iload_n dX11_rests_6 rfl ?_
    refine xe_imul dX11_rests_7 ?_
    refine xe_iconst 3 dX11_rests_8 (by decide) ?_
    refine xe_iadd dX11_rests_9 ?_
    refine xe_ic_ge 53 dX11_rests_10 (by decide) (fun c_10 => ?_) (fun c_10 => ?_)
    · replace Wq := Wq.1 c_10
      exact xe_vret dX11_rests_53 rfl ⟨_, rfl, rfl, Wq⟩
    · replace Wq := Wq.2 c_10
      refine xe_aload_n dX11_rests_13 rfl q_rvO ?_
      refine xe_getr dX11_rests_14 fX11_51 (fun _ _ => rfl) (q_sg hS rfl) ?_
      refine xe_iload_n dX11_rests_17 rfl ?_
      refine xe_iconst 0 dX11_rests_18 (by decide) ?_
      refine xe_aload_n dX11_rests_19 rfl q_rvO ?_
      refine xe_getr dX11_rests_20 fX11_51 (fun _ _ => rfl) (q_sg hS rfl) ?_
      refine xe_iload_n dX11_rests_23 rfl ?_
      obtain ⟨hj_24, Wq⟩ := Wq
      refine xe_iald dX11_rests_24 rfl hj_24 ?_
      refine xe_iconst 5 dX11_rests_25 (by decide) ?_
      refine xe_isub dX11_rests_26 ?_
      refine xe_mmax dX11_rests_27 ⟨lX11_194, q_wmax⟩ (Nat.le_of_ble_eq_true rfl) ⟨Nat.le_of_ble_eq_true rfl, Nat.le_of_ble_eq_true rfl⟩ ?_
      obtain ⟨hj_30, Wq⟩ := Wq
      refine xf_iast dX11_rests_30 rfl hj_30 ?_
      refine xe_aload_n dX11_rests_31 rfl q_rvO ?_
      refine xe_getr dX11_rests_32 fX11_51 (fun _ _ => rfl) (q_sg hS rfl) ?_
      refine xe_iload_n dX11_rests_35 rfl ?_
      obtain ⟨hj_36, Wq⟩ := Wq
      refine xe_iald dX11_rests_36 rfl hj_36 ?_
      refine xe_if_ne 47 dX11_rests_37 (by decide) (fun c_37 => ?_) (fun c_37 => ?_)
      · replace Wq := Wq.1 c_37
        refine xe_iinc (_ + 1) dX11_rests_47 (by decide) rfl rfl ?_
        refine xe_goto 4 dX11_rests_50 (by decide) ?_
        refine q_wk (ls := [some (q_O 11 0), some (q_I x1), some (q_I (x2 + 1))]) ⟨rfl, ⟨rfl, ⟨rfl, trivial⟩⟩⟩ ?_
        exact ih _ _ _ Wq
      · replace Wq := Wq.2 c_37
        refine xe_aload_n dX11_rests_40 rfl q_rvO ?_
        refine xe_getr dX11_rests_41 fX11_54 (fun _ _ => rfl) (q_sg hS rfl) ?_
        refine xe_iload_n dX11_rests_44 rfl ?_
        refine xe_iconst 0 dX11_rests_45 (by decide) ?_
        obtain ⟨hj_46, Wq⟩ := Wq
        refine xf_zast dX11_rests_46 rfl hj_46 ?_
        refine xe_iinc (_ + 1) dX11_rests_47 (by decide) rfl rfl ?_
        refine xe_goto 4 dX11_rests_50 (by decide) ?_
        refine q_wk (ls := [some (q_O 11 0), some (q_I x1), some (q_I (x2 + 1))]) ⟨rfl, ⟨rfl, ⟨rfl, trivial⟩⟩⟩ ?_
        exact ih _ _ _ Wq
set_option maxHeartbeats 4000000 in
theorem ct_X11_rests {g : q_G} {s : q_S} {t p : Nat} (hS : q_Sh t p s) {x1 : Int32} {a : qa} {post : qa → Prop} (Wq : wp_X11_rests t p x1 a post) : q_Ct g mX11_rests (q_Rm 1 0 0) [q_O 11 0, q_I x1] (a, s) (q_kV s post) := by
  refine q_mk rfl rfl (Nat.le_of_ble_eq_true rfl) (q_cs rfl (q_cs rfl q_nil)) (fun hv => ?_)
  unfold wp_X11_rests at Wq
  refine xe_iconst 3 dX11_rests_0 (by decide) ?_
  refine xe_iload_n dX11_rests_1 rfl ?_
  refine xe_imul dX11_rests_2 ?_
  refine xe_istore_n dX11_rests_3 (by decide) ?_
  obtain ⟨n_4, Wq⟩ := Wq
  refine q_wk (ls := [some (q_O 11 0), some (q_I x1), some (q_I (3 * x1))]) ⟨rfl, ⟨rfl, ⟨rfl, trivial⟩⟩⟩ ?_
  exact el_X11_rests_4 hS n_4 _ _ _ Wq
def wp_X11_see (t p : Nat) (x1 : Int32) (a : qa) (post : Int32 → qa → Prop) : Prop := (((a 11 0 42) ≤ x1 → post 0 a) ∧ (¬ (a 11 0 42) ≤ x1 → vp_in x1 400 ∧ post (a 71 0 x1.toNatClampNeg) a))
set_option maxHeartbeats 4000000 in
theorem ct_X11_see {g : q_G} {s : q_S} {t p : Nat} (hS : q_Sh t p s) {x1 : Int32} {a : qa} {post : Int32 → qa → Prop} (Wq : wp_X11_see t p x1 a post) : q_Ct g mX11_see (q_Rm 1 0 0) [q_O 11 0, q_I x1] (a, s) (q_kI s post) := by
  refine q_mk rfl rfl (Nat.le_of_ble_eq_true rfl) (q_cs rfl (q_cs rfl q_nil)) (fun hv => ?_)
  unfold wp_X11_see at Wq
  refine xe_iload_n dX11_see_0 rfl ?_
  refine xe_aload_n dX11_see_1 rfl q_rvO ?_
  refine xe_geti dX11_see_2 fX11_230 (fun _ _ => rfl) ?_
  refine xe_ic_ge 17 dX11_see_5 (by decide) (fun c_5 => ?_) (fun c_5 => ?_)
  · replace Wq := Wq.1 c_5
    refine xe_iconst 0 dX11_see_17 (by decide) ?_
    exact xe_iret .int dX11_see_18 rfl rfl ⟨_, _, rfl, rfl, Wq⟩
  · replace Wq := Wq.2 c_5
    refine xe_aload_n dX11_see_8 rfl q_rvO ?_
    refine xe_getr dX11_see_9 fX11_108 (fun _ _ => rfl) (q_sg hS rfl) ?_
    refine xe_iload_n dX11_see_12 rfl ?_
    obtain ⟨hj_13, Wq⟩ := Wq
    refine xe_bald dX11_see_13 rfl hj_13 ?_
    refine xe_goto 18 dX11_see_14 (by decide) ?_
    exact xe_iret .int dX11_see_18 rfl rfl ⟨_, _, rfl, rfl, Wq⟩
def wp_X11_thrown (t p : Nat) (a : qa) (post : Int32 → qa → Prop) : Prop := post (a 11 0 0) a
set_option maxHeartbeats 4000000 in
theorem ct_X11_thrown {g : q_G} {s : q_S} {t p : Nat} (hS : q_Sh t p s) {a : qa} {post : Int32 → qa → Prop} (Wq : wp_X11_thrown t p  a post) : q_Ct g mX11_thrown (q_Rm 1 0 0) [q_O 11 0] (a, s) (q_kI s post) := by
  refine q_mk rfl rfl (Nat.le_of_ble_eq_true rfl) (q_cs rfl q_nil) (fun hv => ?_)
  unfold wp_X11_thrown at Wq
  refine xe_aload_n dX11_thrown_0 rfl q_rvO ?_
  refine xe_geti dX11_thrown_1 fX11_1 (fun _ _ => rfl) ?_
  exact xe_iret .int dX11_thrown_4 rfl rfl ⟨_, _, rfl, rfl, Wq⟩
def wl_X11_top_2 (t p : Nat) (post : Int32 → qa → Prop) : Nat → Int32 → Int32 → qa → Prop
  | 0 => fun _ _ _ => False
  | n + 1 => fun x1 x2 a => (((a 11 0 20) ≤ x2 → post (-1) a) ∧ (¬ (a 11 0 20) ≤ x2 → vp_in x2 100 ∧ ((¬ (a 58 0 x2.toNatClampNeg) = 1 → (wl_X11_top_2 t p post n) x1 (x2 + 1) a) ∧ ((a 58 0 x2.toNatClampNeg) = 1 → vp_in x2 100 ∧ ((¬ (a 60 0 x2.toNatClampNeg) = x1 → (wl_X11_top_2 t p post n) x1 (x2 + 1) a) ∧ ((a 60 0 x2.toNatClampNeg) = x1 → vp_in x2 100 ∧ ((¬ (a 61 0 x2.toNatClampNeg) = 2 → (wl_X11_top_2 t p post n) x1 (x2 + 1) a) ∧ ((a 61 0 x2.toNatClampNeg) = 2 → post x2 a))))))))
def wp_X11_top (t p : Nat) (x1 : Int32) (a : qa) (post : Int32 → qa → Prop) : Prop := ∃ n_2, wl_X11_top_2 t p post n_2 x1 0 a
set_option maxHeartbeats 4000000 in
theorem el_X11_top_2 {g : q_G} {s : q_S} {t p : Nat} (hS : q_Sh t p s) {post : Int32 → qa → Prop} : ∀ (n : Nat) (x1 : Int32) (x2 : Int32) (a : qa), wl_X11_top_2 t p post n x1 x2 a → q_E g mX11_top (q_Rm 1 0 0) (q_kI s post) (0, 0) 2 [some (q_O 11 0), some (q_I x1), some (q_I x2)] [] (a, s) := by
  intro n
  induction n with
  | zero =>
    intro x1 x2 a Wq
    exact absurd Wq id
  | succ n ih =>
    intro x1 x2 a Wq
    unfold wl_X11_top_2 at Wq
    refine xe_iload_n dX11_top_2 rfl ?_
    refine xe_aload_n dX11_top_3 rfl q_rvO ?_
    refine xe_geti dX11_top_4 fX11_165 (fun _ _ => rfl) ?_
    refine xe_ic_ge 48 dX11_top_7 (by decide) (fun c_7 => ?_) (fun c_7 => ?_)
    · replace Wq := Wq.1 c_7
      refine xe_iconst (-1) dX11_top_48 (by decide) ?_
      exact xe_iret .int dX11_top_49 rfl rfl ⟨_, _, rfl, rfl, Wq⟩
    · replace Wq := Wq.2 c_7
      refine xe_aload_n dX11_top_10 rfl q_rvO ?_
      refine xe_getr dX11_top_11 fX11_69 (fun _ _ => rfl) (q_sg hS rfl) ?_
      refine xe_iload_n dX11_top_14 rfl ?_
      obtain ⟨hj_15, Wq⟩ := Wq
      refine xe_iald dX11_top_15 rfl hj_15 ?_
      refine xe_iconst 1 dX11_top_16 (by decide) ?_
      refine xe_ic_ne 42 dX11_top_17 (by decide) (fun c_17 => ?_) (fun c_17 => ?_)
      · replace Wq := Wq.1 c_17
        refine xe_iinc (_ + 1) dX11_top_42 (by decide) rfl rfl ?_
        refine xe_goto 2 dX11_top_45 (by decide) ?_
        refine q_wk (ls := [some (q_O 11 0), some (q_I x1), some (q_I (x2 + 1))]) ⟨rfl, ⟨rfl, ⟨rfl, trivial⟩⟩⟩ ?_
        exact ih _ _ _ Wq
      · replace Wq := Wq.2 c_17
        refine xe_aload_n dX11_top_20 rfl q_rvO ?_
        refine xe_getr dX11_top_21 fX11_75 (fun _ _ => rfl) (q_sg hS rfl) ?_
        refine xe_iload_n dX11_top_24 rfl ?_
        obtain ⟨hj_25, Wq⟩ := Wq
        refine xe_iald dX11_top_25 rfl hj_25 ?_
        refine xe_iload_n dX11_top_26 rfl ?_
        refine xe_ic_ne 42 dX11_top_27 (by decide) (fun c_27 => ?_) (fun c_27 => ?_)
        · replace Wq := Wq.1 c_27
          refine xe_iinc (_ + 1) dX11_top_42 (by decide) rfl rfl ?_
          refine xe_goto 2 dX11_top_45 (by decide) ?_
          refine q_wk (ls := [some (q_O 11 0), some (q_I x1), some (q_I (x2 + 1))]) ⟨rfl, ⟨rfl, ⟨rfl, trivial⟩⟩⟩ ?_
          exact ih _ _ _ Wq
        · replace Wq := Wq.2 c_27
          refine xe_aload_n dX11_top_30 rfl q_rvO ?_
          refine xe_getr dX11_top_31 fX11_78 (fun _ _ => rfl) (q_sg hS rfl) ?_
          refine xe_iload_n dX11_top_34 rfl ?_
          obtain ⟨hj_35, Wq⟩ := Wq
          refine xe_iald dX11_top_35 rfl hj_35 ?_
          refine xe_iconst 2 dX11_top_36 (by decide) ?_
          refine xe_ic_ne 42 dX11_top_37 (by decide) (fun c_37 => ?_) (fun c_37 => ?_)
          · replace Wq := Wq.1 c_37
            refine xe_iinc (_ + 1) dX11_top_42 (by decide) rfl rfl ?_
            refine xe_goto 2 dX11_top_45 (by decide) ?_
            refine q_wk (ls := [some (q_O 11 0), some (q_I x1), some (q_I (x2 + 1))]) ⟨rfl, ⟨rfl, ⟨rfl, trivial⟩⟩⟩ ?_
            exact ih _ _ _ Wq
          · replace Wq := Wq.2 c_37
            refine xe_iload_n dX11_top_40 rfl ?_
            exact xe_iret .int dX11_top_41 rfl rfl ⟨_, _, rfl, rfl, Wq⟩
set_option maxHeartbeats 4000000 in
theorem ct_X11_top {g : q_G} {s : q_S} {t p : Nat} (hS : q_Sh t p s) {x1 : Int32} {a : qa} {post : Int32 → qa → Prop} (Wq : wp_X11_top t p x1 a post) : q_Ct g mX11_top (q_Rm 1 0 0) [q_O 11 0, q_I x1] (a, s) (q_kI s post) := by
  refine q_mk rfl rfl (Nat.le_of_ble_eq_true rfl) (q_cs rfl (q_cs rfl q_nil)) (fun hv => ?_)
  unfold wp_X11_top at Wq
  refine xe_iconst 0 dX11_top_0 (by decide) ?_
  refine xe_istore_n dX11_top_1 (by decide) ?_
  obtain ⟨n_2, Wq⟩ := Wq
  refine q_wk (ls := [some (q_O 11 0), some (q_I x1), some (q_I 0)]) ⟨rfl, ⟨rfl, ⟨rfl, trivial⟩⟩⟩ ?_
  exact el_X11_top_2 hS n_2 _ _ _ Wq
def wp_X11_within (t p : Nat) (x0 : Int32) (x1 : Int32) (x2 : Int32) (a : qa) (post : Int32 → qa → Prop) : Prop := ((x0 < x1 → post 0 a) ∧ (¬ x0 < x1 → ((x2 < x0 → post 0 a) ∧ (¬ x2 < x0 → post 1 a))))
set_option maxHeartbeats 4000000 in
theorem ct_X11_within {g : q_G} {s : q_S} {t p : Nat} (hS : q_Sh t p s) {x0 : Int32} {x1 : Int32} {x2 : Int32} {a : qa} {post : Int32 → qa → Prop} (Wq : wp_X11_within t p x0 x1 x2 a post) : q_Ct g mX11_within (q_Rm 1 0 0) [q_I x0, q_I x1, q_I x2] (a, s) (q_kI s post) := by
  refine q_mk rfl rfl (Nat.le_of_ble_eq_true rfl) (q_cs rfl (q_cs rfl (q_cs rfl q_nil))) (fun hv => ?_)
  unfold wp_X11_within at Wq
  refine xe_iload_n dX11_within_0 rfl ?_
  refine xe_iload_n dX11_within_1 rfl ?_
  refine xe_ic_lt 14 dX11_within_2 (by decide) (fun c_2 => ?_) (fun c_2 => ?_)
  · replace Wq := Wq.1 c_2
    refine xe_iconst 0 dX11_within_14 (by decide) ?_
    exact xe_iret .boolean dX11_within_15 rfl (by decide) ⟨_, _, rfl, rfl, Wq⟩
  · replace Wq := Wq.2 c_2
    refine xe_iload_n dX11_within_5 rfl ?_
    refine xe_iload_n dX11_within_6 rfl ?_
    refine xe_ic_gt 14 dX11_within_7 (by decide) (fun c_7 => ?_) (fun c_7 => ?_)
    · replace Wq := Wq.1 c_7
      refine xe_iconst 0 dX11_within_14 (by decide) ?_
      exact xe_iret .boolean dX11_within_15 rfl (by decide) ⟨_, _, rfl, rfl, Wq⟩
    · replace Wq := Wq.2 c_7
      refine xe_iconst 1 dX11_within_10 (by decide) ?_
      refine xe_goto 15 dX11_within_11 (by decide) ?_
      exact xe_iret .boolean dX11_within_15 rfl (by decide) ⟨_, _, rfl, rfl, Wq⟩
