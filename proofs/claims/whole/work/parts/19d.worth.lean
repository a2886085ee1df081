def rlV (a : qa) (k : Nat) (y : Int32) : Bool := if a 77 0 k = nI 60 then decide (y < a 78 0 k) else if a 77 0 k = nI 62 then decide (a 78 0 k < y) else decide (y = a 78 0 k)
theorem sp_holds69 {t p k : Nat} {a : qa} {y : Int32} {post : Int32 → qa → Prop} (hk : k < 880) (kk : post (bb (rlV a k y)) a) : wl_X11_holds__69 t p post (nI k) y a := by
  unfold rlV at kk
  unfold wl_X11_holds__69
  by_cases c1 : a 77 0 k = nI 60
  · rw [if_pos c1] at kk
    by_cases d : y < a 78 0 k
    · have d' := Int32.not_le.mpr d
      rw [decide_eq_true d] at kk
      simp (disch := first | assumption | omega) only [l0, l1, l2, l3, l4, l5, l6, l7, l8, l9, l10, l20, l60, l61, l62, bb_t, bb_f, l100, l120, l512, l400, l401, l700, l9999, nm1, lm1, nlt, nle, neq, glt, gle, lgt, lge, geq, egq, mI_l, mI_e, e_mI, l_mI, le_mI, mI_le, bI_z, nC, vnI, nI_add, nI_sb, nI_mul, a1m, qs_eq, qs_nc, qs_ni, qs_nk, bq_l, bq_r, bq_l', bq_r', bq_t, bq_f, bq_t', bq_f', bq_n, bq_m, iT, iS, iN, true_and, and_true, eq_self, not_true_eq_false, not_false_eq_true, forall_const, bx_t, bx_f, reduceCtorEq, Option.some.injEq, forall_eq', ite_true, ite_false]
      exact kk
    · have d' := Int32.not_lt.mp d
      rw [decide_eq_false d] at kk
      simp (disch := first | assumption | omega) only [l0, l1, l2, l3, l4, l5, l6, l7, l8, l9, l10, l20, l60, l61, l62, bb_t, bb_f, l100, l120, l512, l400, l401, l700, l9999, nm1, lm1, nlt, nle, neq, glt, gle, lgt, lge, geq, egq, mI_l, mI_e, e_mI, l_mI, le_mI, mI_le, bI_z, nC, vnI, nI_add, nI_sb, nI_mul, a1m, qs_eq, qs_nc, qs_ni, qs_nk, bq_l, bq_r, bq_l', bq_r', bq_t, bq_f, bq_t', bq_f', bq_n, bq_m, iT, iS, iN, true_and, and_true, eq_self, not_true_eq_false, not_false_eq_true, forall_const, bx_t, bx_f, reduceCtorEq, Option.some.injEq, forall_eq', ite_true, ite_false]
      exact kk
  · rw [if_neg c1] at kk
    by_cases c2 : a 77 0 k = nI 62
    · rw [if_pos c2] at kk
      by_cases d : a 78 0 k < y
      · have d' := Int32.not_le.mpr d
        rw [decide_eq_true d] at kk
        simp (disch := first | assumption | omega) only [l0, l1, l2, l3, l4, l5, l6, l7, l8, l9, l10, l20, l60, l61, l62, bb_t, bb_f, l100, l120, l512, l400, l401, l700, l9999, nm1, lm1, nlt, nle, neq, glt, gle, lgt, lge, geq, egq, mI_l, mI_e, e_mI, l_mI, le_mI, mI_le, bI_z, nC, vnI, nI_add, nI_sb, nI_mul, a1m, qs_eq, qs_nc, qs_ni, qs_nk, bq_l, bq_r, bq_l', bq_r', bq_t, bq_f, bq_t', bq_f', bq_n, bq_m, iT, iS, iN, true_and, and_true, eq_self, not_true_eq_false, not_false_eq_true, forall_const, bx_t, bx_f, reduceCtorEq, Option.some.injEq, forall_eq', ite_true, ite_false]
        exact kk
      · have d' := Int32.not_lt.mp d
        rw [decide_eq_false d] at kk
        simp (disch := first | assumption | omega) only [l0, l1, l2, l3, l4, l5, l6, l7, l8, l9, l10, l20, l60, l61, l62, bb_t, bb_f, l100, l120, l512, l400, l401, l700, l9999, nm1, lm1, nlt, nle, neq, glt, gle, lgt, lge, geq, egq, mI_l, mI_e, e_mI, l_mI, le_mI, mI_le, bI_z, nC, vnI, nI_add, nI_sb, nI_mul, a1m, qs_eq, qs_nc, qs_ni, qs_nk, bq_l, bq_r, bq_l', bq_r', bq_t, bq_f, bq_t', bq_f', bq_n, bq_m, iT, iS, iN, true_and, and_true, eq_self, not_true_eq_false, not_false_eq_true, forall_const, bx_t, bx_f, reduceCtorEq, Option.some.injEq, forall_eq', ite_true, ite_false]
        exact kk
    · rw [if_neg c2] at kk
      by_cases d : y = a 78 0 k
      · rw [decide_eq_true d] at kk
        simp (disch := first | assumption | omega) only [l0, l1, l2, l3, l4, l5, l6, l7, l8, l9, l10, l20, l60, l61, l62, bb_t, bb_f, l100, l120, l512, l400, l401, l700, l9999, nm1, lm1, nlt, nle, neq, glt, gle, lgt, lge, geq, egq, mI_l, mI_e, e_mI, l_mI, le_mI, mI_le, bI_z, nC, vnI, nI_add, nI_sb, nI_mul, a1m, qs_eq, qs_nc, qs_ni, qs_nk, bq_l, bq_r, bq_l', bq_r', bq_t, bq_f, bq_t', bq_f', bq_n, bq_m, iT, iS, iN, true_and, and_true, eq_self, not_true_eq_false, not_false_eq_true, forall_const, bx_t, bx_f, reduceCtorEq, Option.some.injEq, forall_eq', ite_true, ite_false]
        exact kk
      · rw [decide_eq_false d] at kk
        simp (disch := first | assumption | omega) only [l0, l1, l2, l3, l4, l5, l6, l7, l8, l9, l10, l20, l60, l61, l62, bb_t, bb_f, l100, l120, l512, l400, l401, l700, l9999, nm1, lm1, nlt, nle, neq, glt, gle, lgt, lge, geq, egq, mI_l, mI_e, e_mI, l_mI, le_mI, mI_le, bI_z, nC, vnI, nI_add, nI_sb, nI_mul, a1m, qs_eq, qs_nc, qs_ni, qs_nk, bq_l, bq_r, bq_l', bq_r', bq_t, bq_f, bq_t', bq_f', bq_n, bq_m, iT, iS, iN, true_and, and_true, eq_self, not_true_eq_false, not_false_eq_true, forall_const, bx_t, bx_f, reduceCtorEq, Option.some.injEq, forall_eq', ite_true, ite_false]
        exact kk
theorem sp_X11_holds_ {t p k q : Nat} {a : qa} {post : Int32 → qa → Prop} (hk : k < 880) (hq : q < 100) (kk : post (bb (tmH a q k)) a) : wp_X11_holds_ t p (nI k) (nI q) a post := by
  unfold wp_X11_holds_
  unfold tmH tmV at kk
  by_cases c1 : a 76 0 k < nI 4
  · have c1' := Int32.not_le.mpr c1
    rw [if_pos c1] at kk
    by_cases d : a 55 0 q = a 76 0 k
    · rw [decide_eq_true d] at kk
      simp (disch := first | assumption | omega) only [l0, l1, l2, l3, l4, l5, l6, l7, l8, l9, l10, l20, l60, l61, l62, bb_t, bb_f, l100, l120, l512, l400, l401, l700, l9999, nm1, lm1, nlt, nle, neq, glt, gle, lgt, lge, geq, egq, mI_l, mI_e, e_mI, l_mI, le_mI, mI_le, bI_z, nC, vnI, nI_add, nI_sb, nI_mul, a1m, qs_eq, qs_nc, qs_ni, qs_nk, bq_l, bq_r, bq_l', bq_r', bq_t, bq_f, bq_t', bq_f', bq_n, bq_m, iT, iS, iN, true_and, and_true, eq_self, not_true_eq_false, not_false_eq_true, forall_const, bx_t, bx_f, reduceCtorEq, Option.some.injEq, forall_eq', ite_true, ite_false]
      exact kk
    · rw [decide_eq_false d] at kk
      simp (disch := first | assumption | omega) only [l0, l1, l2, l3, l4, l5, l6, l7, l8, l9, l10, l20, l60, l61, l62, bb_t, bb_f, l100, l120, l512, l400, l401, l700, l9999, nm1, lm1, nlt, nle, neq, glt, gle, lgt, lge, geq, egq, mI_l, mI_e, e_mI, l_mI, le_mI, mI_le, bI_z, nC, vnI, nI_add, nI_sb, nI_mul, a1m, qs_eq, qs_nc, qs_ni, qs_nk, bq_l, bq_r, bq_l', bq_r', bq_t, bq_f, bq_t', bq_f', bq_n, bq_m, iT, iS, iN, true_and, and_true, eq_self, not_true_eq_false, not_false_eq_true, forall_const, bx_t, bx_f, reduceCtorEq, Option.some.injEq, forall_eq', ite_true, ite_false]
      exact kk
  · have c1' := Int32.not_lt.mp c1
    rw [if_neg c1] at kk
    by_cases c2 : a 76 0 k = nI 4
    · rw [if_pos c2] at kk
      simp (disch := first | assumption | omega) only [l0, l1, l2, l3, l4, l5, l6, l7, l8, l9, l10, l20, l60, l61, l62, bb_t, bb_f, l100, l120, l512, l400, l401, l700, l9999, nm1, lm1, nlt, nle, neq, glt, gle, lgt, lge, geq, egq, mI_l, mI_e, e_mI, l_mI, le_mI, mI_le, bI_z, nC, vnI, nI_add, nI_sb, nI_mul, a1m, qs_eq, qs_nc, qs_ni, qs_nk, bq_l, bq_r, bq_l', bq_r', bq_t, bq_f, bq_t', bq_f', bq_n, bq_m, iT, iS, iN, true_and, and_true, eq_self, not_true_eq_false, not_false_eq_true, forall_const, bx_t, bx_f, reduceCtorEq, Option.some.injEq, forall_eq', ite_true, ite_false]
      exact sp_holds69 hk kk
    · rw [if_neg c2] at kk
      by_cases c3 : a 76 0 k = nI 5
      · rw [if_pos c3] at kk
        simp (disch := first | assumption | omega) only [l0, l1, l2, l3, l4, l5, l6, l7, l8, l9, l10, l20, l60, l61, l62, bb_t, bb_f, l100, l120, l512, l400, l401, l700, l9999, nm1, lm1, nlt, nle, neq, glt, gle, lgt, lge, geq, egq, mI_l, mI_e, e_mI, l_mI, le_mI, mI_le, bI_z, nC, vnI, nI_add, nI_sb, nI_mul, a1m, qs_eq, qs_nc, qs_ni, qs_nk, bq_l, bq_r, bq_l', bq_r', bq_t, bq_f, bq_t', bq_f', bq_n, bq_m, iT, iS, iN, true_and, and_true, eq_self, not_true_eq_false, not_false_eq_true, forall_const, bx_t, bx_f, reduceCtorEq, Option.some.injEq, forall_eq', ite_true, ite_false]
        exact sp_holds69 hk kk
      · rw [if_neg c3] at kk
        simp (disch := first | assumption | omega) only [l0, l1, l2, l3, l4, l5, l6, l7, l8, l9, l10, l20, l60, l61, l62, bb_t, bb_f, l100, l120, l512, l400, l401, l700, l9999, nm1, lm1, nlt, nle, neq, glt, gle, lgt, lge, geq, egq, mI_l, mI_e, e_mI, l_mI, le_mI, mI_le, bI_z, nC, vnI, nI_add, nI_sb, nI_mul, a1m, qs_eq, qs_nc, qs_ni, qs_nk, bq_l, bq_r, bq_l', bq_r', bq_t, bq_f, bq_t', bq_f', bq_n, bq_m, iT, iS, iN, true_and, and_true, eq_self, not_true_eq_false, not_false_eq_true, forall_const, bx_t, bx_f, reduceCtorEq, Option.some.injEq, forall_eq', ite_true, ite_false]
        exact sp_holds69 hk kk
theorem sl_worth42 {t p q b r row n : Nat} {a : qa} {x3 : Int32} {J : Int32 → Int32 → Int32 → Int32 → qa → Prop} {post : Int32 → qa → Prop} (hq : q < 100) (hrow : row < 220) (hn : n ≤ 4) (e : a 74 0 row = nI n) (kk : J (nI q) (nI b) (x3 + if tmA a q row n then a 75 0 row else 0) (nI (r + 1)) a) : ∀ (m j : Nat), j + m = n → wl_X11_worth_42 t p J post (m + 1) (nI q) (nI b) x3 (nI r) (nI row) (bb (tmA a q row j)) (nI j) a := by
  intro m
  induction m with
  | zero =>
    intro j hj
    obtain rfl : j = n := by omega
    cases hb : tmA a q row j with
    | true =>
      rw [hb, if_pos rfl] at kk
      simp (disch := first | assumption | omega) only [wl_X11_worth_42, e, l0, l1, l2, l3, l4, l5, l6, l7, l8, l9, l10, l20, l60, l61, l62, bb_t, bb_f, l100, l120, l512, l400, l401, l700, l9999, nm1, lm1, nlt, nle, neq, glt, gle, lgt, lge, geq, egq, mI_l, mI_e, e_mI, l_mI, le_mI, mI_le, bI_z, nC, vnI, nI_add, nI_sb, nI_mul, a1m, qs_eq, qs_nc, qs_ni, qs_nk, bq_l, bq_r, bq_l', bq_r', bq_t, bq_f, bq_t', bq_f', bq_n, bq_m, iT, iS, iN, true_and, and_true, eq_self, not_true_eq_false, not_false_eq_true, forall_const, bx_t, bx_f, reduceCtorEq, Option.some.injEq, forall_eq', ite_true, ite_false]
      exact kk
    | false =>
      rw [hb, if_neg (by decide), az] at kk
      simp (disch := first | assumption | omega) only [wl_X11_worth_42, e, l0, l1, l2, l3, l4, l5, l6, l7, l8, l9, l10, l20, l60, l61, l62, bb_t, bb_f, l100, l120, l512, l400, l401, l700, l9999, nm1, lm1, nlt, nle, neq, glt, gle, lgt, lge, geq, egq, mI_l, mI_e, e_mI, l_mI, le_mI, mI_le, bI_z, nC, vnI, nI_add, nI_sb, nI_mul, a1m, qs_eq, qs_nc, qs_ni, qs_nk, bq_l, bq_r, bq_l', bq_r', bq_t, bq_f, bq_t', bq_f', bq_n, bq_m, iT, iS, iN, true_and, and_true, eq_self, not_true_eq_false, not_false_eq_true, forall_const, bx_t, bx_f, reduceCtorEq, Option.some.injEq, forall_eq', ite_true, ite_false]
      exact kk
  | succ m ih =>
    intro j hj
    have ih' := ih (j + 1) (by omega)
    have es : tmA a q row (j + 1) = (tmA a q row j && tmH a q (4 * row + j)) := rfl
    rw [es] at ih'
    unfold wl_X11_worth_42
    cases hb : tmA a q row j with
    | true =>
      rw [hb, Bool.true_and] at ih'
      simp (disch := first | assumption | omega) only [e, l0, l1, l2, l3, l4, l5, l6, l7, l8, l9, l10, l20, l60, l61, l62, bb_t, bb_f, l100, l120, l512, l400, l401, l700, l9999, nm1, lm1, nlt, nle, neq, glt, gle, lgt, lge, geq, egq, mI_l, mI_e, e_mI, l_mI, le_mI, mI_le, bI_z, nC, vnI, nI_add, nI_sb, nI_mul, a1m, qs_eq, qs_nc, qs_ni, qs_nk, bq_l, bq_r, bq_l', bq_r', bq_t, bq_f, bq_t', bq_f', bq_n, bq_m, iT, iS, iN, true_and, and_true, eq_self, not_true_eq_false, not_false_eq_true, forall_const, bx_t, bx_f, reduceCtorEq, Option.some.injEq, forall_eq', ite_true, ite_false]
      refine sp_X11_holds_ (by omega) hq ?_
      cases hc : tmH a q (4 * row + j) with
      | true =>
        rw [hc] at ih'
        simp (disch := first | assumption | omega) only [l0, l1, l2, l3, l4, l5, l6, l7, l8, l9, l10, l20, l60, l61, l62, bb_t, bb_f, l100, l120, l512, l400, l401, l700, l9999, nm1, lm1, nlt, nle, neq, glt, gle, lgt, lge, geq, egq, mI_l, mI_e, e_mI, l_mI, le_mI, mI_le, bI_z, nC, vnI, nI_add, nI_sb, nI_mul, a1m, qs_eq, qs_nc, qs_ni, qs_nk, bq_l, bq_r, bq_l', bq_r', bq_t, bq_f, bq_t', bq_f', bq_n, bq_m, iT, iS, iN, true_and, and_true, eq_self, not_true_eq_false, not_false_eq_true, forall_const, bx_t, bx_f, reduceCtorEq, Option.some.injEq, forall_eq', ite_true, ite_false]
        exact ih'
      | false =>
        rw [hc] at ih'
        simp (disch := first | assumption | omega) only [l0, l1, l2, l3, l4, l5, l6, l7, l8, l9, l10, l20, l60, l61, l62, bb_t, bb_f, l100, l120, l512, l400, l401, l700, l9999, nm1, lm1, nlt, nle, neq, glt, gle, lgt, lge, geq, egq, mI_l, mI_e, e_mI, l_mI, le_mI, mI_le, bI_z, nC, vnI, nI_add, nI_sb, nI_mul, a1m, qs_eq, qs_nc, qs_ni, qs_nk, bq_l, bq_r, bq_l', bq_r', bq_t, bq_f, bq_t', bq_f', bq_n, bq_m, iT, iS, iN, true_and, and_true, eq_self, not_true_eq_false, not_false_eq_true, forall_const, bx_t, bx_f, reduceCtorEq, Option.some.injEq, forall_eq', ite_true, ite_false]
        exact ih'
    | false =>
      rw [hb, Bool.false_and] at ih'
      simp (disch := first | assumption | omega) only [e, l0, l1, l2, l3, l4, l5, l6, l7, l8, l9, l10, l20, l60, l61, l62, bb_t, bb_f, l100, l120, l512, l400, l401, l700, l9999, nm1, lm1, nlt, nle, neq, glt, gle, lgt, lge, geq, egq, mI_l, mI_e, e_mI, l_mI, le_mI, mI_le, bI_z, nC, vnI, nI_add, nI_sb, nI_mul, a1m, qs_eq, qs_nc, qs_ni, qs_nk, bq_l, bq_r, bq_l', bq_r', bq_t, bq_f, bq_t', bq_f', bq_n, bq_m, iT, iS, iN, true_and, and_true, eq_self, not_true_eq_false, not_false_eq_true, forall_const, bx_t, bx_f, reduceCtorEq, Option.some.injEq, forall_eq', ite_true, ite_false]
      exact ih'
theorem sl_worth11 {t p q b R : Nat} {a : qa} {post : Int32 → qa → Prop} (hq : q < 100) (hb : b < 11) (hR : R ≤ 20) (e : a 73 0 b = nI R) (hT : ∀ r, r < R → ∃ n, n ≤ 4 ∧ a 74 0 (20 * b + r) = nI n) (kk : post (rlS a q b R) a) : ∀ (m r : Nat), r + m = R → wl_X11_worth_11 t p post (m + 1) (nI q) (nI b) (rlS a q b r) (nI r) a := by
  intro m
  induction m with
  | zero =>
    intro j hj
    obtain rfl : j = R := by omega
    simp (disch := first | assumption | omega) only [wl_X11_worth_11, e, l0, l1, l2, l3, l4, l5, l6, l7, l8, l9, l10, l20, l60, l61, l62, bb_t, bb_f, l100, l120, l512, l400, l401, l700, l9999, nm1, lm1, nlt, nle, neq, glt, gle, lgt, lge, geq, egq, mI_l, mI_e, e_mI, l_mI, le_mI, mI_le, bI_z, nC, vnI, nI_add, nI_sb, nI_mul, a1m, qs_eq, qs_nc, qs_ni, qs_nk, bq_l, bq_r, bq_l', bq_r', bq_t, bq_f, bq_t', bq_f', bq_n, bq_m, iT, iS, iN, true_and, and_true, eq_self, not_true_eq_false, not_false_eq_true, forall_const, bx_t, bx_f, reduceCtorEq, Option.some.injEq, forall_eq', ite_true, ite_false]
    exact kk
  | succ m ih =>
    intro r hr
    have ih' := ih (r + 1) (by omega)
    obtain ⟨n, hn, en⟩ := hT r (by omega)
    unfold wl_X11_worth_11
    simp (disch := first | assumption | omega) only [e, l0, l1, l2, l3, l4, l5, l6, l7, l8, l9, l10, l20, l60, l61, l62, bb_t, bb_f, l100, l120, l512, l400, l401, l700, l9999, nm1, lm1, nlt, nle, neq, glt, gle, lgt, lge, geq, egq, mI_l, mI_e, e_mI, l_mI, le_mI, mI_le, bI_z, nC, vnI, nI_add, nI_sb, nI_mul, a1m, qs_eq, qs_nc, qs_ni, qs_nk, bq_l, bq_r, bq_l', bq_r', bq_t, bq_f, bq_t', bq_f', bq_n, bq_m, iT, iS, iN, true_and, and_true, eq_self, not_true_eq_false, not_false_eq_true, forall_const, bx_t, bx_f, reduceCtorEq, Option.some.injEq, forall_eq', ite_true, ite_false]
    refine ⟨n + 1, ?_⟩
    refine sl_worth42 (n := n) hq (by omega) hn en ?_ n 0 (by omega)
    have es : rlS a q b (r + 1) = rlS a q b r + (if tmA a q (20 * b + r) (a 74 0 (20 * b + r)).toNatClampNeg then a 75 0 (20 * b + r) else 0) := rfl
    rw [es, en, nC (by omega)] at ih'
    exact ih'
theorem lstN_r (f : Nat → Bool) : ∀ n, lstN f n = mI ∨ ∃ b, b < n ∧ lstN f n = nI b ∧ f b = true := by
  intro n
  induction n with
  | zero => exact Or.inl rfl
  | succ n ih =>
    unfold lstN
    by_cases h : f n = true
    · rw [if_pos h]
      exact Or.inr ⟨n, by omega, rfl, h⟩
    · rw [if_neg h]
      rcases ih with e | ⟨b, hb, e⟩
      · exact Or.inl e
      · exact Or.inr ⟨b, by omega, e⟩
theorem iH.T {Hh B b : Nat} {a : qa} (h : iH Hh B a) (hb : b < B) : ∃ R, R ≤ 20 ∧ a 73 0 b = nI R ∧ ∀ r, r < R → ∃ n, n ≤ 4 ∧ a 74 0 (20 * b + r) = nI n := by
  obtain ⟨h1, h2, R, c, h3, h4, h5, h6, h7, h8⟩ := h.2.2.2 b hb
  refine ⟨R, h3, h5, fun r hr => ?_⟩
  obtain ⟨g1, g2, g3, n, g4, g5, g6, g7⟩ := h8 r hr
  exact ⟨n, g4, g6⟩
theorem sp_X11_worth {t p Hh B q : Nat} {a : qa} {post : Int32 → qa → Prop} (hH : iH Hh B a) (hq : q < 100) (kk : post (wth a B q) a) : wp_X11_worth t p (nI q) a post := by
  unfold wp_X11_worth
  refine sp_X11_bargainOf hq hH.1 hH.2.2.1 ?_
  unfold wth at kk
  rcases lstN_r (fun n => decide (a 72 0 n ≤ a 62 0 q)) B with e | ⟨b, hb, e, _⟩
  · have e' : bgO a (a 62 0 q) B = mI := e
    rw [e'] at kk ⊢
    rw [if_pos lm1.symm] at kk
    refine ⟨1, ?_⟩
    simp (disch := first | assumption | omega) only [wl_X11_worth_11, l0, l1, l2, l3, l4, l5, l6, l7, l8, l9, l10, l20, l60, l61, l62, bb_t, bb_f, l100, l120, l512, l400, l401, l700, l9999, nm1, lm1, nlt, nle, neq, glt, gle, lgt, lge, geq, egq, mI_l, mI_e, e_mI, l_mI, le_mI, mI_le, bI_z, nC, vnI, nI_add, nI_sb, nI_mul, a1m, qs_eq, qs_nc, qs_ni, qs_nk, bq_l, bq_r, bq_l', bq_r', bq_t, bq_f, bq_t', bq_f', bq_n, bq_m, iT, iS, iN, true_and, and_true, eq_self, not_true_eq_false, not_false_eq_true, forall_const, bx_t, bx_f, reduceCtorEq, Option.some.injEq, forall_eq', ite_true, ite_false]
    exact kk
  · have e' : bgO a (a 62 0 q) B = nI b := e
    have h10 := hH.1
    rw [e'] at kk ⊢
    rw [if_neg (by rw [lm1, e_mI (by omega)]; exact id)] at kk
    obtain ⟨R, h3, h5, h8⟩ := hH.T hb
    rw [nC (by omega), h5, nC (by omega)] at kk
    exact ⟨R + 1, sl_worth11 hq (by omega) h3 h5 h8 kk R 0 (by omega)⟩
def brS (a : qa) (B q : Nat) : Int32 := if a 58 0 q = nI 2 then wth a B q else 0
theorem sl_X11_allBrought {t p Hh B : Nat} {a : qa} {post : Int32 → qa → Prop} (hp : p ≤ 100) (hH : iH Hh B a) (h20 : a 11 0 20 = nI p) (kk : post (sumN (brS a B) p) a) : ∀ (m j : Nat), j + m = p → wl_X11_allBrought_4 t p post (m + 1) (sumN (brS a B) j) (nI j) a := by
  intro m
  induction m with
  | zero =>
    intro j hj
    obtain rfl : j = p := by omega
    simp (disch := first | assumption | omega) only [wl_X11_allBrought_4, h20, l0, l1, l2, l3, l4, l5, l6, l7, l8, l9, l10, l20, l60, l61, l62, bb_t, bb_f, l100, l120, l512, l400, l401, l700, l9999, nm1, lm1, nlt, nle, neq, glt, gle, lgt, lge, geq, egq, mI_l, mI_e, e_mI, l_mI, le_mI, mI_le, bI_z, nC, vnI, nI_add, nI_sb, nI_mul, a1m, qs_eq, qs_nc, qs_ni, qs_nk, bq_l, bq_r, bq_l', bq_r', bq_t, bq_f, bq_t', bq_f', bq_n, bq_m, iT, iS, iN, true_and, and_true, eq_self, not_true_eq_false, not_false_eq_true, forall_const, bx_t, bx_f, reduceCtorEq, Option.some.injEq, forall_eq', ite_true, ite_false]
    exact kk
  | succ m ih =>
    intro j hj
    have ih' := ih (j + 1) (by omega)
    simp only [sumN, brS] at ih'
    unfold wl_X11_allBrought_4
    simp (disch := first | assumption | omega) only [h20, l0, l1, l2, l3, l4, l5, l6, l7, l8, l9, l10, l20, l60, l61, l62, bb_t, bb_f, l100, l120, l512, l400, l401, l700, l9999, nm1, lm1, nlt, nle, neq, glt, gle, lgt, lge, geq, egq, mI_l, mI_e, e_mI, l_mI, le_mI, mI_le, bI_z, nC, vnI, nI_add, nI_sb, nI_mul, a1m, qs_eq, qs_nc, qs_ni, qs_nk, bq_l, bq_r, bq_l', bq_r', bq_t, bq_f, bq_t', bq_f', bq_n, bq_m, iT, iS, iN, true_and, and_true, eq_self, not_true_eq_false, not_false_eq_true, forall_const, bx_t, bx_f, reduceCtorEq, Option.some.injEq, forall_eq', ite_true, ite_false]
    refine ⟨fun c => ?_, fun c => ?_⟩
    · rw [if_neg c, az] at ih'
      exact ih'
    · rw [if_pos c] at ih'
      refine sp_X11_worth hH (by omega) ?_
      exact ih'
theorem sp_X11_allBrought {t p Hh B : Nat} {a : qa} {post : Int32 → qa → Prop} (hp : p ≤ 100) (hH : iH Hh B a) (h20 : a 11 0 20 = nI p) (kk : post (sumN (brS a B) p) a) : wp_X11_allBrought t p a post :=
  ⟨p + 1, sl_X11_allBrought hp hH h20 kk p 0 (by omega)⟩
theorem sumN_eq {f g : Nat → Int32} : ∀ n, (∀ j, j < n → f j = g j) → sumN f n = sumN g n := by
  intro n
  induction n with
  | zero => intro _; rfl
  | succ n ih =>
    intro h
    unfold sumN
    rw [ih (fun j hj => h j (by omega)), h n (by omega)]
theorem pay_sum {I Hh t p B : Nat} {a : qa} (hF : iF I Hh t p B a) : sumN (fun q => a 4 q 9) p = sumN (brS a B) p := by
  refine sumN_eq p (fun q hq => ?_)
  obtain ⟨g1, g2, g3, g4, g5, g6, g7, g8, g9, g10, g11⟩ := hF.2.2 q hq
  unfold brS
  rcases g11 with ⟨e1, e2, e3, e4, e5⟩ | ⟨e1, e2, e3, e4, e5⟩ | ⟨e1, e2, e3, e4, e5⟩
  · rw [e1, if_neg (by decide)]
    exact e4
  · rw [e1, if_neg (by decide)]
    exact e5
  · rw [e1, if_pos l2]
    exact e5
