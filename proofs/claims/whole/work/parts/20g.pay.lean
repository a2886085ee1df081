theorem l80 : (80 : Int32) = nI 80 := rfl
def rlW (r v n : Int32) : Bool := if r = nI 60 then decide (v < n) else if r = nI 62 then decide (n < v) else decide (v = n)
theorem sp_X0_holds {t p : Nat} {r v n : Int32} {a : qa} {post : Int32 → qa → Prop} (kk : post (bb (rlW r v n)) a) : wp_X0_holds t p r v n a post := by
  unfold rlW at kk
  unfold wp_X0_holds
  by_cases c1 : r = nI 60
  · rw [if_pos c1] at kk
    by_cases d : v < n
    · have d' := Int32.not_le.mpr d
      rw [decide_eq_true d] at kk
      simp (disch := first | assumption | omega) only [l0, l1, l2, l3, l4, l5, l6, l7, l8, l9, l10, l20, l60, l61, l62, bb_t, bb_f, l100, l120, l512, l400, l401, l700, l9999, nm1, lm1, nlt, nle, neq, glt, gle, lgt, lge, geq, egq, mI_l, mI_e, e_mI, l_mI, le_mI, mI_le, bI_z, nC, vnI, nI_add, nI_sb, nI_mul, a1m, qs_eq, qs_nc, qs_ni, qs_nk, bq_l, bq_r, bq_l', bq_r', bq_t, bq_f, bq_t', bq_f', bq_n, bq_m, iT, iS, iN, true_and, and_true, eq_self, not_true_eq_false, not_false_eq_true, forall_const, bx_t, bx_f, reduceCtorEq, Option.some.injEq, forall_eq', ite_true, ite_false]
      exact kk
    · have d' := Int32.not_lt.mp d
      rw [decide_eq_false d] at kk
      simp (disch := first | assumption | omega) only [l0, l1, l2, l3, l4, l5, l6, l7, l8, l9, l10, l20, l60, l61, l62, bb_t, bb_f, l100, l120, l512, l400, l401, l700, l9999, nm1, lm1, nlt, nle, neq, glt, gle, lgt, lge, geq, egq, mI_l, mI_e, e_mI, l_mI, le_mI, mI_le, bI_z, nC, vnI, nI_add, nI_sb, nI_mul, a1m, qs_eq, qs_nc, qs_ni, qs_nk, bq_l, bq_r, bq_l', bq_r', bq_t, bq_f, bq_t', bq_f', bq_n, bq_m, iT, iS, iN, true_and, and_true, eq_self, not_true_eq_false, not_false_eq_true, forall_const, bx_t, bx_f, reduceCtorEq, Option.some.injEq, forall_eq', ite_true, ite_false]
      exact kk
  · rw [if_neg c1] at kk
    by_cases c2 : r = nI 62
    · rw [if_pos c2] at kk
      by_cases d : n < v
      · have d' := Int32.not_le.mpr d
        rw [decide_eq_true d] at kk
        simp (disch := first | assumption | omega) only [l0, l1, l2, l3, l4, l5, l6, l7, l8, l9, l10, l20, l60, l61, l62, bb_t, bb_f, l100, l120, l512, l400, l401, l700, l9999, nm1, lm1, nlt, nle, neq, glt, gle, lgt, lge, geq, egq, mI_l, mI_e, e_mI, l_mI, le_mI, mI_le, bI_z, nC, vnI, nI_add, nI_sb, nI_mul, a1m, qs_eq, qs_nc, qs_ni, qs_nk, bq_l, bq_r, bq_l', bq_r', bq_t, bq_f, bq_t', bq_f', bq_n, bq_m, iT, iS, iN, true_and, and_true, eq_self, not_true_eq_false, not_false_eq_true, forall_const, bx_t, bx_f, reduceCtorEq, Option.some.injEq, forall_eq', ite_true, ite_false]
        exact kk
      · have d' := Int32.not_lt.mp d
        rw [decide_eq_false d] at kk
        simp (disch := first | assumption | omega) only [l0, l1, l2, l3, l4, l5, l6, l7, l8, l9, l10, l20, l60, l61, l62, bb_t, bb_f, l100, l120, l512, l400, l401, l700, l9999, nm1, lm1, nlt, nle, neq, glt, gle, lgt, lge, geq, egq, mI_l, mI_e, e_mI, l_mI, le_mI, mI_le, bI_z, nC, vnI, nI_add, nI_sb, nI_mul, a1m, qs_eq, qs_nc, qs_ni, qs_nk, bq_l, bq_r, bq_l', bq_r', bq_t, bq_f, bq_t', bq_f', bq_n, bq_m, iT, iS, iN, true_and, and_true, eq_self, not_true_eq_false, not_false_eq_true, forall_const, bx_t, bx_f, reduceCtorEq, Option.some.injEq, forall_eq', ite_true, ite_false]
        exact kk
    · rw [if_neg c2] at kk
      by_cases d : v = n
      · rw [decide_eq_true d] at kk
        simp (disch := first | assumption | omega) only [l0, l1, l2, l3, l4, l5, l6, l7, l8, l9, l10, l20, l60, l61, l62, bb_t, bb_f, l100, l120, l512, l400, l401, l700, l9999, nm1, lm1, nlt, nle, neq, glt, gle, lgt, lge, geq, egq, mI_l, mI_e, e_mI, l_mI, le_mI, mI_le, bI_z, nC, vnI, nI_add, nI_sb, nI_mul, a1m, qs_eq, qs_nc, qs_ni, qs_nk, bq_l, bq_r, bq_l', bq_r', bq_t, bq_f, bq_t', bq_f', bq_n, bq_m, iT, iS, iN, true_and, and_true, eq_self, not_true_eq_false, not_false_eq_true, forall_const, bx_t, bx_f, reduceCtorEq, Option.some.injEq, forall_eq', ite_true, ite_false]
        exact kk
      · rw [decide_eq_false d] at kk
        simp (disch := first | assumption | omega) only [l0, l1, l2, l3, l4, l5, l6, l7, l8, l9, l10, l20, l60, l61, l62, bb_t, bb_f, l100, l120, l512, l400, l401, l700, l9999, nm1, lm1, nlt, nle, neq, glt, gle, lgt, lge, geq, egq, mI_l, mI_e, e_mI, l_mI, le_mI, mI_le, bI_z, nC, vnI, nI_add, nI_sb, nI_mul, a1m, qs_eq, qs_nc, qs_ni, qs_nk, bq_l, bq_r, bq_l', bq_r', bq_t, bq_f, bq_t', bq_f', bq_n, bq_m, iT, iS, iN, true_and, and_true, eq_self, not_true_eq_false, not_false_eq_true, forall_const, bx_t, bx_f, reduceCtorEq, Option.some.injEq, forall_eq', ite_true, ite_false]
        exact kk
theorem sp_term {t p b x y q Hh : Nat} {a : qa} {post : Int32 → qa → Prop} (hx : x < 80) (hR : tmR a b x y) (q0 : a 4 q 0 = a 55 0 q) (q1 : a 4 q 1 = a 56 0 q) (q8 : a 4 q 8 = a 64 0 q) (kk : post (bb (tmH (qs a 63 0 q (nI Hh)) q y)) a) : wp_X0_measure t p (a 14 b x) q (nI Hh - a 62 0 q) a (fun r33 a33 => wp_X0_holds t p (a 15 b x) r33 (a33 16 b x) a33 post) := by
  unfold wp_X0_measure
  unfold tmH tmV at kk
  rcases hR with ⟨e1, e2, e3, k, hk, e4⟩ | ⟨k, hk, e1, e2, e3, e4⟩
  · rw [e1]
    simp (disch := first | assumption | omega) only [l0, l1, l2, l3, l4, l5, l6, l7, l8, l9, l10, l20, l60, l61, l62, bb_t, bb_f, l100, l120, l512, l400, l401, l700, l9999, nm1, lm1, nlt, nle, neq, glt, gle, lgt, lge, geq, egq, mI_l, mI_e, e_mI, l_mI, le_mI, mI_le, bI_z, nC, vnI, nI_add, nI_sb, nI_mul, a1m, qs_eq, qs_nc, qs_ni, qs_nk, bq_l, bq_r, bq_l', bq_r', bq_t, bq_f, bq_t', bq_f', bq_n, bq_m, iT, iS, iN, true_and, and_true, eq_self, not_true_eq_false, not_false_eq_true, forall_const, bx_t, bx_f, reduceCtorEq, Option.some.injEq, forall_eq', ite_true, ite_false]
    refine sp_X0_holds ?_
    have h1 : (qs a 63 0 q (nI Hh)) 76 0 y < nI 4 := by
      rw [qs_nc (by decide), e4, nlt (by omega) (by omega)]
      omega
    rw [if_pos h1, qs_nc (by decide), qs_nc (by decide)] at kk
    unfold rlW
    rw [e2, if_neg (by decide), if_neg (by decide), e3, q0]
    exact kk
  · have h1 : ¬ (qs a 63 0 q (nI Hh)) 76 0 y < nI 4 := by
      rw [qs_nc (by decide), e2, nlt (by omega) (by omega)]
      omega
    rw [if_neg h1, qs_nc (c := 63) (d := 76) (by decide), qs_nc (c := 63) (d := 77) (by decide), qs_nc (c := 63) (d := 78) (by decide), qs_nc (c := 63) (d := 56) (by decide), qs_nc (c := 63) (d := 62) (by decide), qs_nc (c := 63) (d := 64) (by decide), qs_eq, e2] at kk
    rw [e1]
    obtain rfl | rfl | rfl : k = 0 ∨ k = 1 ∨ k = 2 := by omega
    · rw [if_pos rfl] at kk
      simp (disch := first | assumption | omega) only [l0, l1, l2, l3, l4, l5, l6, l7, l8, l9, l10, l20, l60, l61, l62, bb_t, bb_f, l100, l120, l512, l400, l401, l700, l9999, nm1, lm1, nlt, nle, neq, glt, gle, lgt, lge, geq, egq, mI_l, mI_e, e_mI, l_mI, le_mI, mI_le, bI_z, nC, vnI, nI_add, nI_sb, nI_mul, a1m, qs_eq, qs_nc, qs_ni, qs_nk, bq_l, bq_r, bq_l', bq_r', bq_t, bq_f, bq_t', bq_f', bq_n, bq_m, iT, iS, iN, true_and, and_true, eq_self, not_true_eq_false, not_false_eq_true, forall_const, bx_t, bx_f, reduceCtorEq, Option.some.injEq, forall_eq', ite_true, ite_false]
      refine sp_X0_holds ?_
      unfold rlW
      rw [e3, e4, q1]
      exact kk
    · rw [if_neg (show ¬ nI (1 + 4) = nI 4 by decide), if_pos (show nI (1 + 4) = nI 5 from rfl)] at kk
      simp (disch := first | assumption | omega) only [l0, l1, l2, l3, l4, l5, l6, l7, l8, l9, l10, l20, l60, l61, l62, bb_t, bb_f, l100, l120, l512, l400, l401, l700, l9999, nm1, lm1, nlt, nle, neq, glt, gle, lgt, lge, geq, egq, mI_l, mI_e, e_mI, l_mI, le_mI, mI_le, bI_z, nC, vnI, nI_add, nI_sb, nI_mul, a1m, qs_eq, qs_nc, qs_ni, qs_nk, bq_l, bq_r, bq_l', bq_r', bq_t, bq_f, bq_t', bq_f', bq_n, bq_m, iT, iS, iN, true_and, and_true, eq_self, not_true_eq_false, not_false_eq_true, forall_const, bx_t, bx_f, reduceCtorEq, Option.some.injEq, forall_eq', ite_true, ite_false]
      refine sp_X0_holds ?_
      unfold rlW
      rw [e3, e4]
      exact kk
    · rw [if_neg (show ¬ nI (2 + 4) = nI 4 by decide), if_neg (show ¬ nI (2 + 4) = nI 5 by decide)] at kk
      simp (disch := first | assumption | omega) only [l0, l1, l2, l3, l4, l5, l6, l7, l8, l9, l10, l20, l60, l61, l62, bb_t, bb_f, l100, l120, l512, l400, l401, l700, l9999, nm1, lm1, nlt, nle, neq, glt, gle, lgt, lge, geq, egq, mI_l, mI_e, e_mI, l_mI, le_mI, mI_le, bI_z, nC, vnI, nI_add, nI_sb, nI_mul, a1m, qs_eq, qs_nc, qs_ni, qs_nk, bq_l, bq_r, bq_l', bq_r', bq_t, bq_f, bq_t', bq_f', bq_n, bq_m, iT, iS, iN, true_and, and_true, eq_self, not_true_eq_false, not_false_eq_true, forall_const, bx_t, bx_f, reduceCtorEq, Option.some.injEq, forall_eq', ite_true, ite_false]
      refine sp_X0_holds ?_
      unfold rlW
      rw [e3, e4, q8]
      exact kk
theorem allN_f {f : Nat → Bool} {i : Nat} (h : f i = false) : ∀ n, i < n → allN f n = false := by
  intro n
  induction n with
  | zero => intro h; omega
  | succ n ih =>
    intro hn
    unfold allN
    by_cases c : i = n
    · subst c
      rw [h, Bool.and_false]
    · rw [ih (by omega), Bool.false_and]
theorem sl_holdAll {t p b c n row q Hh : Nat} {a : qa} {post : Int32 → qa → Prop} (hc : c + n ≤ 80) (hR : ∀ i, i < n → tmR a b (c + i) (4 * row + i)) (q0 : a 4 q 0 = a 55 0 q) (q1 : a 4 q 1 = a 56 0 q) (q8 : a 4 q 8 = a 64 0 q) (kk : post (bb (tmA (qs a 63 0 q (nI Hh)) q row n)) a) : ∀ (m i : Nat), i + m = n → tmA (qs a 63 0 q (nI Hh)) q row i = true → wl_X0_holdAll_3 t p post (m + 1) b (nI (c + n)) q (nI Hh - a 62 0 q) (nI (c + i)) a := by
  intro m
  induction m with
  | zero =>
    intro i hi ha
    obtain rfl : i = n := by omega
    rw [ha] at kk
    simp (disch := first | assumption | omega) only [wl_X0_holdAll_3, l0, l1, l2, l3, l4, l5, l6, l7, l8, l9, l10, l20, l60, l61, l62, bb_t, bb_f, l100, l120, l512, l400, l401, l700, l9999, nm1, lm1, nlt, nle, neq, glt, gle, lgt, lge, geq, egq, mI_l, mI_e, e_mI, l_mI, le_mI, mI_le, bI_z, nC, vnI, nI_add, nI_sb, nI_mul, a1m, qs_eq, qs_nc, qs_ni, qs_nk, bq_l, bq_r, bq_l', bq_r', bq_t, bq_f, bq_t', bq_f', bq_n, bq_m, iT, iS, iN, true_and, and_true, eq_self, not_true_eq_false, not_false_eq_true, forall_const, bx_t, bx_f, reduceCtorEq, Option.some.injEq, forall_eq', ite_true, ite_false]
    exact kk
  | succ m ih =>
    intro i hi ha
    unfold wl_X0_holdAll_3
    simp (disch := first | assumption | omega) only [l80, l0, l1, l2, l3, l4, l5, l6, l7, l8, l9, l10, l20, l60, l61, l62, bb_t, bb_f, l100, l120, l512, l400, l401, l700, l9999, nm1, lm1, nlt, nle, neq, glt, gle, lgt, lge, geq, egq, mI_l, mI_e, e_mI, l_mI, le_mI, mI_le, bI_z, nC, vnI, nI_add, nI_sb, nI_mul, a1m, qs_eq, qs_nc, qs_ni, qs_nk, bq_l, bq_r, bq_l', bq_r', bq_t, bq_f, bq_t', bq_f', bq_n, bq_m, iT, iS, iN, true_and, and_true, eq_self, not_true_eq_false, not_false_eq_true, forall_const, bx_t, bx_f, reduceCtorEq, Option.some.injEq, forall_eq', ite_true, ite_false]
    refine sp_term (y := 4 * row + i) (Hh := Hh) (by omega) (hR i (by omega)) q0 q1 q8 ?_
    cases hh : tmH (qs a 63 0 q (nI Hh)) q (4 * row + i) with
    | true =>
      have := ih (i + 1) (by omega) (by
        have es : tmA (qs a 63 0 q (nI Hh)) q row (i + 1) = (tmA (qs a 63 0 q (nI Hh)) q row i && tmH (qs a 63 0 q (nI Hh)) q (4 * row + i)) := rfl
        rw [es, ha, hh]
        rfl)
      simp (disch := first | assumption | omega) only [l0, l1, l2, l3, l4, l5, l6, l7, l8, l9, l10, l20, l60, l61, l62, bb_t, bb_f, l100, l120, l512, l400, l401, l700, l9999, nm1, lm1, nlt, nle, neq, glt, gle, lgt, lge, geq, egq, mI_l, mI_e, e_mI, l_mI, le_mI, mI_le, bI_z, nC, vnI, nI_add, nI_sb, nI_mul, a1m, qs_eq, qs_nc, qs_ni, qs_nk, bq_l, bq_r, bq_l', bq_r', bq_t, bq_f, bq_t', bq_f', bq_n, bq_m, iT, iS, iN, true_and, and_true, eq_self, not_true_eq_false, not_false_eq_true, forall_const, bx_t, bx_f, reduceCtorEq, Option.some.injEq, forall_eq', ite_true, ite_false]
      exact this
    | false =>
      have es : tmA (qs a 63 0 q (nI Hh)) q row n = false := allN_f (i := i) hh n (by omega)
      rw [es] at kk
      simp (disch := first | assumption | omega) only [l0, l1, l2, l3, l4, l5, l6, l7, l8, l9, l10, l20, l60, l61, l62, bb_t, bb_f, l100, l120, l512, l400, l401, l700, l9999, nm1, lm1, nlt, nle, neq, glt, gle, lgt, lge, geq, egq, mI_l, mI_e, e_mI, l_mI, le_mI, mI_le, bI_z, nC, vnI, nI_add, nI_sb, nI_mul, a1m, qs_eq, qs_nc, qs_ni, qs_nk, bq_l, bq_r, bq_l', bq_r', bq_t, bq_f, bq_t', bq_f', bq_n, bq_m, iT, iS, iN, true_and, and_true, eq_self, not_true_eq_false, not_false_eq_true, forall_const, bx_t, bx_f, reduceCtorEq, Option.some.injEq, forall_eq', ite_true, ite_false]
      exact kk
theorem sl_payFor {t p b q Hh R : Nat} {c : Nat → Nat} {a : qa} {post : Int32 → qa → Prop} (hR : R ≤ 20) (e5 : a 0 b 5 = nI R) (hc : c 0 = 0) (hr : ∀ r, r < R → a 13 b r = a 75 0 (20 * b + r) ∧ a 12 b r = nI (c (r + 1)) ∧ c (r + 1) ≤ 80 ∧ ∃ n, n ≤ 4 ∧ c (r + 1) = c r + n ∧ a 74 0 (20 * b + r) = nI n ∧ ∀ i, i < n → tmR a b (c r + i) (4 * (20 * b + r) + i)) (q0 : a 4 q 0 = a 55 0 q) (q1 : a 4 q 1 = a 56 0 q) (q8 : a 4 q 8 = a 64 0 q) (kk : post (rlS (qs a 63 0 q (nI Hh)) q b R) a) : ∀ (m r : Nat), r + m = R → wl_X0_payFor_8 t p post (m + 1) b q (nI Hh - a 62 0 q) (rlS (qs a 63 0 q (nI Hh)) q b r) (nI (c r)) (nI r) a := by
  intro m
  induction m with
  | zero =>
    intro r hr'
    obtain rfl : r = R := by omega
    simp (disch := first | assumption | omega) only [wl_X0_payFor_8, e5, l0, l1, l2, l3, l4, l5, l6, l7, l8, l9, l10, l20, l60, l61, l62, bb_t, bb_f, l100, l120, l512, l400, l401, l700, l9999, nm1, lm1, nlt, nle, neq, glt, gle, lgt, lge, geq, egq, mI_l, mI_e, e_mI, l_mI, le_mI, mI_le, bI_z, nC, vnI, nI_add, nI_sb, nI_mul, a1m, qs_eq, qs_nc, qs_ni, qs_nk, bq_l, bq_r, bq_l', bq_r', bq_t, bq_f, bq_t', bq_f', bq_n, bq_m, iT, iS, iN, true_and, and_true, eq_self, not_true_eq_false, not_false_eq_true, forall_const, bx_t, bx_f, reduceCtorEq, Option.some.injEq, forall_eq', ite_true, ite_false]
    exact kk
  | succ m ih =>
    intro r hr'
    have ih' := ih (r + 1) (by omega)
    obtain ⟨g1, g2, g3, n, g4, g5, g6, g7⟩ := hr r (by omega)
    have es : rlS (qs a 63 0 q (nI Hh)) q b (r + 1) = rlS (qs a 63 0 q (nI Hh)) q b r + (if tmA (qs a 63 0 q (nI Hh)) q (20 * b + r) ((qs a 63 0 q (nI Hh)) 74 0 (20 * b + r)).toNatClampNeg then (qs a 63 0 q (nI Hh)) 75 0 (20 * b + r) else 0) := rfl
    rw [es, qs_nc (by decide), qs_nc (by decide), g6, nC (by omega)] at ih'
    unfold wl_X0_payFor_8
    simp (disch := first | assumption | omega) only [e5, g2, l0, l1, l2, l3, l4, l5, l6, l7, l8, l9, l10, l20, l60, l61, l62, bb_t, bb_f, l100, l120, l512, l400, l401, l700, l9999, nm1, lm1, nlt, nle, neq, glt, gle, lgt, lge, geq, egq, mI_l, mI_e, e_mI, l_mI, le_mI, mI_le, bI_z, nC, vnI, nI_add, nI_sb, nI_mul, a1m, qs_eq, qs_nc, qs_ni, qs_nk, bq_l, bq_r, bq_l', bq_r', bq_t, bq_f, bq_t', bq_f', bq_n, bq_m, iT, iS, iN, true_and, and_true, eq_self, not_true_eq_false, not_false_eq_true, forall_const, bx_t, bx_f, reduceCtorEq, Option.some.injEq, forall_eq', ite_true, ite_false]
    refine ⟨n + 1, ?_⟩
    rw [g5] at ih' ⊢
    refine sl_holdAll (row := 20 * b + r) (Hh := Hh) (by omega) g7 q0 q1 q8 ?_ n 0 (by omega) rfl
    cases hh : tmA (qs a 63 0 q (nI Hh)) q (20 * b + r) n with
    | true =>
      rw [hh, if_pos rfl, ← g1] at ih'
      simp (disch := first | assumption | omega) only [wl_X0_payFor_52, g2, g5, l0, l1, l2, l3, l4, l5, l6, l7, l8, l9, l10, l20, l60, l61, l62, bb_t, bb_f, l100, l120, l512, l400, l401, l700, l9999, nm1, lm1, nlt, nle, neq, glt, gle, lgt, lge, geq, egq, mI_l, mI_e, e_mI, l_mI, le_mI, mI_le, bI_z, nC, vnI, nI_add, nI_sb, nI_mul, a1m, qs_eq, qs_nc, qs_ni, qs_nk, bq_l, bq_r, bq_l', bq_r', bq_t, bq_f, bq_t', bq_f', bq_n, bq_m, iT, iS, iN, true_and, and_true, eq_self, not_true_eq_false, not_false_eq_true, forall_const, bx_t, bx_f, reduceCtorEq, Option.some.injEq, forall_eq', ite_true, ite_false]
      exact ih'
    | false =>
      rw [hh, if_neg (by decide), az] at ih'
      simp (disch := first | assumption | omega) only [wl_X0_payFor_52, g2, g5, l0, l1, l2, l3, l4, l5, l6, l7, l8, l9, l10, l20, l60, l61, l62, bb_t, bb_f, l100, l120, l512, l400, l401, l700, l9999, nm1, lm1, nlt, nle, neq, glt, gle, lgt, lge, geq, egq, mI_l, mI_e, e_mI, l_mI, le_mI, mI_le, bI_z, nC, vnI, nI_add, nI_sb, nI_mul, a1m, qs_eq, qs_nc, qs_ni, qs_nk, bq_l, bq_r, bq_l', bq_r', bq_t, bq_f, bq_t', bq_f', bq_n, bq_m, iT, iS, iN, true_and, and_true, eq_self, not_true_eq_false, not_false_eq_true, forall_const, bx_t, bx_f, reduceCtorEq, Option.some.injEq, forall_eq', ite_true, ite_false]
      exact ih'
theorem sp_payFor {t p B q Hh : Nat} {a : qa} {post : Int32 → qa → Prop} (hC : iC Hh a) (hH : iH Hh B a) (q0 : a 4 q 0 = a 55 0 q) (q1 : a 4 q 1 = a 56 0 q) (q3 : a 4 q 3 = a 62 0 q) (q8 : a 4 q 8 = a 64 0 q) (kk : post (wth (qs a 63 0 q (nI Hh)) B q) a) : wp_X10_payFor t p q a post := by
  unfold wp_X10_payFor
  rw [q3]
  refine sp_X10_bargainIn hH ?_
  unfold wth at kk
  rw [qs_nc (c := 63) (d := 62) (by decide)] at kk
  have eb : bgO (qs a 63 0 q (nI Hh)) (a 62 0 q) B = bgO a (a 62 0 q) B := rfl
  rw [eb] at kk
  have h10 := hH.1
  rcases lstN_r (fun n => decide (a 72 0 n ≤ a 62 0 q)) B with e | ⟨b, hb, e, _⟩
  · have e' : bgO a (a 62 0 q) B = mI := e
    rw [e'] at kk ⊢
    rw [if_pos lm1.symm] at kk
    simp (disch := first | assumption | omega) only [l0, l1, l2, l3, l4, l5, l6, l7, l8, l9, l10, l20, l60, l61, l62, bb_t, bb_f, l100, l120, l512, l400, l401, l700, l9999, nm1, lm1, nlt, nle, neq, glt, gle, lgt, lge, geq, egq, mI_l, mI_e, e_mI, l_mI, le_mI, mI_le, bI_z, nC, vnI, nI_add, nI_sb, nI_mul, a1m, qs_eq, qs_nc, qs_ni, qs_nk, bq_l, bq_r, bq_l', bq_r', bq_t, bq_f, bq_t', bq_f', bq_n, bq_m, iT, iS, iN, true_and, and_true, eq_self, not_true_eq_false, not_false_eq_true, forall_const, bx_t, bx_f, reduceCtorEq, Option.some.injEq, forall_eq', ite_true, ite_false]
    exact kk
  · have e' : bgO a (a 62 0 q) B = nI b := e
    rw [e'] at kk ⊢
    rw [if_neg (by rw [lm1, e_mI (by omega)]; exact id)] at kk
    obtain ⟨h1, h2, R, c, h3, h4, h5, h6, h7, h8⟩ := hH.2.2.2 b hb
    rw [nC (by omega), qs_nc (c := 63) (d := 73) (by decide), h5, nC (by omega)] at kk
    simp (disch := first | assumption | omega) only [hC.2.1, q3, l0, l1, l2, l3, l4, l5, l6, l7, l8, l9, l10, l20, l60, l61, l62, bb_t, bb_f, l100, l120, l512, l400, l401, l700, l9999, nm1, lm1, nlt, nle, neq, glt, gle, lgt, lge, geq, egq, mI_l, mI_e, e_mI, l_mI, le_mI, mI_le, bI_z, nC, vnI, nI_add, nI_sb, nI_mul, a1m, qs_eq, qs_nc, qs_ni, qs_nk, bq_l, bq_r, bq_l', bq_r', bq_t, bq_f, bq_t', bq_f', bq_n, bq_m, iT, iS, iN, true_and, and_true, eq_self, not_true_eq_false, not_false_eq_true, forall_const, bx_t, bx_f, reduceCtorEq, Option.some.injEq, forall_eq', ite_true, ite_false]
    refine ⟨R + 1, ?_⟩
    have := sl_payFor (t := t) (p := p) (Hh := Hh) h3 h4 h6 h8 q0 q1 q8 kk R 0 (by omega)
    rw [h6] at this
    exact this
