def shP (a : qa) (x1 x2 x3 : Int32) (j : Nat) : Prop := a 43 0 j = x1 ∧ ¬ x3 < a 46 0 j ∧ ¬ x2 < a 44 0 j ∧ ¬ a 45 0 j < x2
def shE (a : qa) (S : Nat) (x1 x2 x3 : Int32) : Prop := ∃ j, j < S ∧ shP a x1 x2 x3 j
theorem sl_X6_isShut {t p : Nat} {a : qa} {S : Nat} {x1 x2 x3 : Int32} {post : Int32 → qa → Prop} (hS : S ≤ 60) (h8 : a 6 0 8 = nI S) (e1 : ∀ j, a 28 0 j = a 43 0 j) (e2 : ∀ j, a 29 0 j = a 44 0 j) (e3 : ∀ j, a 30 0 j = a 45 0 j) (e4 : ∀ j, a 31 0 j = a 46 0 j) (k1 : shE a S x1 x2 x3 → post (nI 1) a) (k0 : ¬ shE a S x1 x2 x3 → post (nI 0) a) : ∀ (m j : Nat), j + m = S → (∀ i, i < j → ¬ shP a x1 x2 x3 i) → wl_X6_isShut_3 t p post (m + 1) x1 x2 x3 (nI j) a := by
  intro m
  induction m with
  | zero =>
    intro j hj hn
    simp (disch := first | assumption | omega) only [wl_X6_isShut_3, h8, l0, l1, l2, l3, l4, l5, l6, l7, l8, l9, l10, l20, l60, l61, l62, bb_t, bb_f, l100, l120, l512, l400, l401, l700, l9999, nm1, lm1, nlt, nle, neq, glt, gle, lgt, lge, geq, egq, mI_l, mI_e, e_mI, l_mI, le_mI, mI_le, bI_z, nC, vnI, nI_add, nI_sb, nI_mul, a1m, qs_eq, qs_nc, qs_ni, qs_nk, bq_l, bq_r, bq_l', bq_r', bq_t, bq_f, bq_t', bq_f', bq_n, bq_m, iT, iS, iN, true_and, and_true, eq_self, not_true_eq_false, not_false_eq_true, forall_const, bx_t, bx_f, reduceCtorEq, Option.some.injEq, forall_eq', ite_true, ite_false]
    exact k0 (fun ⟨i, hi, hP⟩ => hn i (by omega) hP)
  | succ m ih =>
    intro j hj hn
    by_cases hP : shP a x1 x2 x3 j
    · obtain ⟨p1, p2, p3, p4⟩ := id hP
      simp (disch := first | assumption | omega) only [wl_X6_isShut_3, h8, e1, e2, e3, e4, l0, l1, l2, l3, l4, l5, l6, l7, l8, l9, l10, l20, l60, l61, l62, bb_t, bb_f, l100, l120, l512, l400, l401, l700, l9999, nm1, lm1, nlt, nle, neq, glt, gle, lgt, lge, geq, egq, mI_l, mI_e, e_mI, l_mI, le_mI, mI_le, bI_z, nC, vnI, nI_add, nI_sb, nI_mul, a1m, qs_eq, qs_nc, qs_ni, qs_nk, bq_l, bq_r, bq_l', bq_r', bq_t, bq_f, bq_t', bq_f', bq_n, bq_m, iT, iS, iN, true_and, and_true, eq_self, not_true_eq_false, not_false_eq_true, forall_const, bx_t, bx_f, reduceCtorEq, Option.some.injEq, forall_eq', ite_true, ite_false]
      exact k1 ⟨j, by omega, hP⟩
    · have ih' := ih (j + 1) (by omega) (fun i hi => by
        by_cases q : i = j
        · subst q
          exact hP
        · exact hn i (by omega))
      unfold wl_X6_isShut_3
      simp (disch := first | assumption | omega) only [h8, e1, e2, e3, e4, l0, l1, l2, l3, l4, l5, l6, l7, l8, l9, l10, l20, l60, l61, l62, bb_t, bb_f, l100, l120, l512, l400, l401, l700, l9999, nm1, lm1, nlt, nle, neq, glt, gle, lgt, lge, geq, egq, mI_l, mI_e, e_mI, l_mI, le_mI, mI_le, bI_z, nC, vnI, nI_add, nI_sb, nI_mul, a1m, qs_eq, qs_nc, qs_ni, qs_nk, bq_l, bq_r, bq_l', bq_r', bq_t, bq_f, bq_t', bq_f', bq_n, bq_m, iT, iS, iN, true_and, and_true, eq_self, not_true_eq_false, not_false_eq_true, forall_const, bx_t, bx_f, reduceCtorEq, Option.some.injEq, forall_eq', ite_true, ite_false]
      refine ⟨fun _ => ih', fun p1 => ⟨fun _ => ih', fun p2 => ⟨fun _ => ih', fun p3 => ⟨fun _ => ih', fun p4 => absurd ⟨p1, p2, p3, p4⟩ hP⟩⟩⟩⟩
theorem sl_X11_isShut {t p : Nat} {a : qa} {S : Nat} {x1 x2 x3 : Int32} {post : Int32 → qa → Prop} (hS : S ≤ 60) (h8 : a 11 0 6 = nI S) (k1 : shE a S x1 x2 x3 → post (nI 1) a) (k0 : ¬ shE a S x1 x2 x3 → post (nI 0) a) : ∀ (m j : Nat), j + m = S → (∀ i, i < j → ¬ shP a x1 x2 x3 i) → wl_X11_isShut_3 t p post (m + 1) x1 x2 x3 (nI j) a := by
  intro m
  induction m with
  | zero =>
    intro j hj hn
    simp (disch := first | assumption | omega) only [wl_X11_isShut_3, h8, l0, l1, l2, l3, l4, l5, l6, l7, l8, l9, l10, l20, l60, l61, l62, bb_t, bb_f, l100, l120, l512, l400, l401, l700, l9999, nm1, lm1, nlt, nle, neq, glt, gle, lgt, lge, geq, egq, mI_l, mI_e, e_mI, l_mI, le_mI, mI_le, bI_z, nC, vnI, nI_add, nI_sb, nI_mul, a1m, qs_eq, qs_nc, qs_ni, qs_nk, bq_l, bq_r, bq_l', bq_r', bq_t, bq_f, bq_t', bq_f', bq_n, bq_m, iT, iS, iN, true_and, and_true, eq_self, not_true_eq_false, not_false_eq_true, forall_const, bx_t, bx_f, reduceCtorEq, Option.some.injEq, forall_eq', ite_true, ite_false]
    exact k0 (fun ⟨i, hi, hP⟩ => hn i (by omega) hP)
  | succ m ih =>
    intro j hj hn
    by_cases hP : shP a x1 x2 x3 j
    · obtain ⟨p1, p2, p3, p4⟩ := id hP
      simp (disch := first | assumption | omega) only [wl_X11_isShut_3, wp_X11_within, h8, l0, l1, l2, l3, l4, l5, l6, l7, l8, l9, l10, l20, l60, l61, l62, bb_t, bb_f, l100, l120, l512, l400, l401, l700, l9999, nm1, lm1, nlt, nle, neq, glt, gle, lgt, lge, geq, egq, mI_l, mI_e, e_mI, l_mI, le_mI, mI_le, bI_z, nC, vnI, nI_add, nI_sb, nI_mul, a1m, qs_eq, qs_nc, qs_ni, qs_nk, bq_l, bq_r, bq_l', bq_r', bq_t, bq_f, bq_t', bq_f', bq_n, bq_m, iT, iS, iN, true_and, and_true, eq_self, not_true_eq_false, not_false_eq_true, forall_const, bx_t, bx_f, reduceCtorEq, Option.some.injEq, forall_eq', ite_true, ite_false]
      exact k1 ⟨j, by omega, hP⟩
    · have ih' := ih (j + 1) (by omega) (fun i hi => by
        by_cases q : i = j
        · subst q
          exact hP
        · exact hn i (by omega))
      unfold wl_X11_isShut_3
      simp (disch := first | assumption | omega) only [h8, wp_X11_within, l0, l1, l2, l3, l4, l5, l6, l7, l8, l9, l10, l20, l60, l61, l62, bb_t, bb_f, l100, l120, l512, l400, l401, l700, l9999, nm1, lm1, nlt, nle, neq, glt, gle, lgt, lge, geq, egq, mI_l, mI_e, e_mI, l_mI, le_mI, mI_le, bI_z, nC, vnI, nI_add, nI_sb, nI_mul, a1m, qs_eq, qs_nc, qs_ni, qs_nk, bq_l, bq_r, bq_l', bq_r', bq_t, bq_f, bq_t', bq_f', bq_n, bq_m, iT, iS, iN, true_and, and_true, eq_self, not_true_eq_false, not_false_eq_true, forall_const, bx_t, bx_f, reduceCtorEq, Option.some.injEq, forall_eq', ite_true, ite_false]
      refine ⟨fun _ => ih', fun p1 => ⟨fun _ => ih', fun p2 => ⟨fun _ => ih', fun p3 => ⟨fun _ => ih', fun p4 => absurd ⟨p1, p2, p3, p4⟩ hP⟩⟩⟩⟩
theorem sp_X6_isShut {t p I Hh : Nat} {a : qa} {S : Nat} {x1 x2 x3 : Int32} {post : Int32 → qa → Prop} (hB : iB I S Hh a) (k1 : shE a S x1 x2 x3 → post (nI 1) a) (k0 : ¬ shE a S x1 x2 x3 → post (nI 0) a) : wp_X6_isShut t p x1 x2 x3 a post :=
  ⟨S + 1, sl_X6_isShut hB.1 hB.2.1 hB.2.2.2.1 hB.2.2.2.2.1 hB.2.2.2.2.2.1 hB.2.2.2.2.2.2.1 k1 k0 S 0 (by omega) (fun i hi => by omega)⟩
theorem sp_X11_isShut {t p I Hh : Nat} {a : qa} {S : Nat} {x1 x2 x3 : Int32} {post : Int32 → qa → Prop} (hB : iB I S Hh a) (k1 : shE a S x1 x2 x3 → post (nI 1) a) (k0 : ¬ shE a S x1 x2 x3 → post (nI 0) a) : wp_X11_isShut t p x1 x2 x3 a post :=
  ⟨S + 1, sl_X11_isShut hB.1 hB.2.2.1 k1 k0 S 0 (by omega) (fun i hi => by omega)⟩
set_option maxHeartbeats 4000000 in
theorem pr_shut : ob_shut Inv := by
  intro t p k a x1 x2 x3 hk ht hp hI
  obtain ⟨I, S, Hh, B, T, M, ⟨a1, a2, a3, a4, a5, a6, a7, a8, a9⟩, hB, ⟨c1, c2, c3⟩, hD, hE, hF, hG, hH, hT, hJ⟩ := id hI
  have no : Inv t p (k + 1) (qs a 11 0 0 0) := hI.th 0
  rcases i32c x1 with g1 | ⟨y1, h1, rfl⟩
  · simp (disch := first | assumption | omega) only [wp_X10_shut, wp_X6_hasLeg, wp_X11_shut, wp_X11_isLeg, l0, l1, l2, l3, l4, l5, l6, l7, l8, l9, l10, l20, l60, l61, l62, bb_t, bb_f, l100, l120, l512, l400, l401, l700, l9999, nm1, lm1, nlt, nle, neq, glt, gle, lgt, lge, geq, egq, mI_l, mI_e, e_mI, l_mI, le_mI, mI_le, bI_z, nC, vnI, nI_add, nI_sb, nI_mul, a1m, qs_eq, qs_nc, qs_ni, qs_nk, bq_l, bq_r, bq_l', bq_r', bq_t, bq_f, bq_t', bq_f', bq_n, bq_m, iT, iS, iN, true_and, and_true, eq_self, not_true_eq_false, not_false_eq_true, forall_const, bx_t, bx_f, reduceCtorEq, Option.some.injEq, forall_eq', ite_true, ite_false]
    exact no
  by_cases i0 : I = 0
  · have h0 : nI I - nI 1 ≤ nI y1 := by
      subst i0
      exact (gle (x := nI 0 - nI 1) (by decide) h1).mpr trivial
    simp (disch := first | assumption | omega) only [wp_X10_shut, wp_X6_hasLeg, wp_X11_shut, wp_X11_isLeg, a2, a3, l0, l1, l2, l3, l4, l5, l6, l7, l8, l9, l10, l20, l60, l61, l62, bb_t, bb_f, l100, l120, l512, l400, l401, l700, l9999, nm1, lm1, nlt, nle, neq, glt, gle, lgt, lge, geq, egq, mI_l, mI_e, e_mI, l_mI, le_mI, mI_le, bI_z, nC, vnI, nI_add, nI_sb, nI_mul, a1m, qs_eq, qs_nc, qs_ni, qs_nk, bq_l, bq_r, bq_l', bq_r', bq_t, bq_f, bq_t', bq_f', bq_n, bq_m, iT, iS, iN, true_and, and_true, eq_self, not_true_eq_false, not_false_eq_true, forall_const, bx_t, bx_f, reduceCtorEq, Option.some.injEq, forall_eq', ite_true, ite_false]
    exact no
  by_cases e1 : I - 1 ≤ y1
  · simp (disch := first | assumption | omega) only [wp_X10_shut, wp_X6_hasLeg, wp_X11_shut, wp_X11_isLeg, a2, a3, l0, l1, l2, l3, l4, l5, l6, l7, l8, l9, l10, l20, l60, l61, l62, bb_t, bb_f, l100, l120, l512, l400, l401, l700, l9999, nm1, lm1, nlt, nle, neq, glt, gle, lgt, lge, geq, egq, mI_l, mI_e, e_mI, l_mI, le_mI, mI_le, bI_z, nC, vnI, nI_add, nI_sb, nI_mul, a1m, qs_eq, qs_nc, qs_ni, qs_nk, bq_l, bq_r, bq_l', bq_r', bq_t, bq_f, bq_t', bq_f', bq_n, bq_m, iT, iS, iN, true_and, and_true, eq_self, not_true_eq_false, not_false_eq_true, forall_const, bx_t, bx_f, reduceCtorEq, Option.some.injEq, forall_eq', ite_true, ite_false]
    exact no
  rcases i32c x2 with g2 | ⟨y2, h2, rfl⟩
  · simp (disch := first | assumption | omega) only [wp_X10_shut, wp_X6_hasLeg, wp_X11_shut, wp_X11_isLeg, wp_X10_isHour, wp_X11_within, a2, a3, l0, l1, l2, l3, l4, l5, l6, l7, l8, l9, l10, l20, l60, l61, l62, bb_t, bb_f, l100, l120, l512, l400, l401, l700, l9999, nm1, lm1, nlt, nle, neq, glt, gle, lgt, lge, geq, egq, mI_l, mI_e, e_mI, l_mI, le_mI, mI_le, bI_z, nC, vnI, nI_add, nI_sb, nI_mul, a1m, qs_eq, qs_nc, qs_ni, qs_nk, bq_l, bq_r, bq_l', bq_r', bq_t, bq_f, bq_t', bq_f', bq_n, bq_m, iT, iS, iN, true_and, and_true, eq_self, not_true_eq_false, not_false_eq_true, forall_const, bx_t, bx_f, reduceCtorEq, Option.some.injEq, forall_eq', ite_true, ite_false]
    exact no
  by_cases e2 : 9999 < y2
  · simp (disch := first | assumption | omega) only [wp_X10_shut, wp_X6_hasLeg, wp_X11_shut, wp_X11_isLeg, wp_X10_isHour, wp_X11_within, a2, a3, l0, l1, l2, l3, l4, l5, l6, l7, l8, l9, l10, l20, l60, l61, l62, bb_t, bb_f, l100, l120, l512, l400, l401, l700, l9999, nm1, lm1, nlt, nle, neq, glt, gle, lgt, lge, geq, egq, mI_l, mI_e, e_mI, l_mI, le_mI, mI_le, bI_z, nC, vnI, nI_add, nI_sb, nI_mul, a1m, qs_eq, qs_nc, qs_ni, qs_nk, bq_l, bq_r, bq_l', bq_r', bq_t, bq_f, bq_t', bq_f', bq_n, bq_m, iT, iS, iN, true_and, and_true, eq_self, not_true_eq_false, not_false_eq_true, forall_const, bx_t, bx_f, reduceCtorEq, Option.some.injEq, forall_eq', ite_true, ite_false]
    exact no
  rcases i32c x3 with g3 | ⟨y3, h3, rfl⟩
  · simp (disch := first | assumption | omega) only [wp_X10_shut, wp_X6_hasLeg, wp_X11_shut, wp_X11_isLeg, wp_X10_isHour, wp_X11_within, a2, a3, c2, c3, l0, l1, l2, l3, l4, l5, l6, l7, l8, l9, l10, l20, l60, l61, l62, bb_t, bb_f, l100, l120, l512, l400, l401, l700, l9999, nm1, lm1, nlt, nle, neq, glt, gle, lgt, lge, geq, egq, mI_l, mI_e, e_mI, l_mI, le_mI, mI_le, bI_z, nC, vnI, nI_add, nI_sb, nI_mul, a1m, qs_eq, qs_nc, qs_ni, qs_nk, bq_l, bq_r, bq_l', bq_r', bq_t, bq_f, bq_t', bq_f', bq_n, bq_m, iT, iS, iN, true_and, and_true, eq_self, not_true_eq_false, not_false_eq_true, forall_const, bx_t, bx_f, reduceCtorEq, Option.some.injEq, forall_eq', ite_true, ite_false]
    exact no
  by_cases e3 : Hh < y3
  · simp (disch := first | assumption | omega) only [wp_X10_shut, wp_X6_hasLeg, wp_X11_shut, wp_X11_isLeg, wp_X10_isHour, wp_X11_within, a2, a3, c2, c3, l0, l1, l2, l3, l4, l5, l6, l7, l8, l9, l10, l20, l60, l61, l62, bb_t, bb_f, l100, l120, l512, l400, l401, l700, l9999, nm1, lm1, nlt, nle, neq, glt, gle, lgt, lge, geq, egq, mI_l, mI_e, e_mI, l_mI, le_mI, mI_le, bI_z, nC, vnI, nI_add, nI_sb, nI_mul, a1m, qs_eq, qs_nc, qs_ni, qs_nk, bq_l, bq_r, bq_l', bq_r', bq_t, bq_f, bq_t', bq_f', bq_n, bq_m, iT, iS, iN, true_and, and_true, eq_self, not_true_eq_false, not_false_eq_true, forall_const, bx_t, bx_f, reduceCtorEq, Option.some.injEq, forall_eq', ite_true, ite_false]
    exact no
  simp (disch := first | assumption | omega) only [wp_X10_shut, wp_X6_hasLeg, wp_X11_shut, wp_X11_isLeg, wp_X10_isHour, wp_X11_within, a2, a3, c2, c3, l0, l1, l2, l3, l4, l5, l6, l7, l8, l9, l10, l20, l60, l61, l62, bb_t, bb_f, l100, l120, l512, l400, l401, l700, l9999, nm1, lm1, nlt, nle, neq, glt, gle, lgt, lge, geq, egq, mI_l, mI_e, e_mI, l_mI, le_mI, mI_le, bI_z, nC, vnI, nI_add, nI_sb, nI_mul, a1m, qs_eq, qs_nc, qs_ni, qs_nk, bq_l, bq_r, bq_l', bq_r', bq_t, bq_f, bq_t', bq_f', bq_n, bq_m, iT, iS, iN, true_and, and_true, eq_self, not_true_eq_false, not_false_eq_true, forall_const, bx_t, bx_f, reduceCtorEq, Option.some.injEq, forall_eq', ite_true, ite_false]
  have hB' : iB I S Hh (qs a 11 0 0 (nI 0)) := hB
  refine sp_X6_isShut hB (fun q => ?_) (fun q => ?_)
  · simp (disch := first | assumption | omega) only [wp_X10_shut, wp_X6_hasLeg, wp_X11_shut, wp_X11_isLeg, wp_X10_isHour, wp_X11_within, a2, a3, c2, c3, l0, l1, l2, l3, l4, l5, l6, l7, l8, l9, l10, l20, l60, l61, l62, bb_t, bb_f, l100, l120, l512, l400, l401, l700, l9999, nm1, lm1, nlt, nle, neq, glt, gle, lgt, lge, geq, egq, mI_l, mI_e, e_mI, l_mI, le_mI, mI_le, bI_z, nC, vnI, nI_add, nI_sb, nI_mul, a1m, qs_eq, qs_nc, qs_ni, qs_nk, bq_l, bq_r, bq_l', bq_r', bq_t, bq_f, bq_t', bq_f', bq_n, bq_m, iT, iS, iN, true_and, and_true, eq_self, not_true_eq_false, not_false_eq_true, forall_const, bx_t, bx_f, reduceCtorEq, Option.some.injEq, forall_eq', ite_true, ite_false]
    refine sp_X11_isShut hB' (fun q' => ?_) (fun q' => absurd q q')
    simp (disch := first | assumption | omega) only [wp_X10_shut, wp_X6_hasLeg, wp_X11_shut, wp_X11_isLeg, wp_X10_isHour, wp_X11_within, a2, a3, c2, c3, l0, l1, l2, l3, l4, l5, l6, l7, l8, l9, l10, l20, l60, l61, l62, bb_t, bb_f, l100, l120, l512, l400, l401, l700, l9999, nm1, lm1, nlt, nle, neq, glt, gle, lgt, lge, geq, egq, mI_l, mI_e, e_mI, l_mI, le_mI, mI_le, bI_z, nC, vnI, nI_add, nI_sb, nI_mul, a1m, qs_eq, qs_nc, qs_ni, qs_nk, bq_l, bq_r, bq_l', bq_r', bq_t, bq_f, bq_t', bq_f', bq_n, bq_m, iT, iS, iN, true_and, and_true, eq_self, not_true_eq_false, not_false_eq_true, forall_const, bx_t, bx_f, reduceCtorEq, Option.some.injEq, forall_eq', ite_true, ite_false]
    exact no
  · simp (disch := first | assumption | omega) only [wp_X10_shut, wp_X6_hasLeg, wp_X11_shut, wp_X11_isLeg, wp_X10_isHour, wp_X11_within, a2, a3, c2, c3, l0, l1, l2, l3, l4, l5, l6, l7, l8, l9, l10, l20, l60, l61, l62, bb_t, bb_f, l100, l120, l512, l400, l401, l700, l9999, nm1, lm1, nlt, nle, neq, glt, gle, lgt, lge, geq, egq, mI_l, mI_e, e_mI, l_mI, le_mI, mI_le, bI_z, nC, vnI, nI_add, nI_sb, nI_mul, a1m, qs_eq, qs_nc, qs_ni, qs_nk, bq_l, bq_r, bq_l', bq_r', bq_t, bq_f, bq_t', bq_f', bq_n, bq_m, iT, iS, iN, true_and, and_true, eq_self, not_true_eq_false, not_false_eq_true, forall_const, bx_t, bx_f, reduceCtorEq, Option.some.injEq, forall_eq', ite_true, ite_false]
    refine sp_X11_isShut hB' (fun q' => absurd q' q) (fun q' => ?_)
    simp (disch := first | assumption | omega) only [wp_X10_shut, wp_X6_hasLeg, wp_X11_shut, wp_X11_isLeg, wp_X10_isHour, wp_X11_within, a2, a3, c2, c3, l0, l1, l2, l3, l4, l5, l6, l7, l8, l9, l10, l20, l60, l61, l62, bb_t, bb_f, l100, l120, l512, l400, l401, l700, l9999, nm1, lm1, nlt, nle, neq, glt, gle, lgt, lge, geq, egq, mI_l, mI_e, e_mI, l_mI, le_mI, mI_le, bI_z, nC, vnI, nI_add, nI_sb, nI_mul, a1m, qs_eq, qs_nc, qs_ni, qs_nk, bq_l, bq_r, bq_l', bq_r', bq_t, bq_f, bq_t', bq_f', bq_n, bq_m, iT, iS, iN, true_and, and_true, eq_self, not_true_eq_false, not_false_eq_true, forall_const, bx_t, bx_f, reduceCtorEq, Option.some.injEq, forall_eq', ite_true, ite_false]
    exact no
set_option maxHeartbeats 4000000 in
theorem pr_snow : ob_snow Inv := by
  intro t p k a x1 x2 x3 hk ht hp hI
  obtain ⟨I, S, Hh, B, T, M, ⟨a1, a2, a3, a4, a5, a6, a7, a8, a9⟩, hB, ⟨c1, c2, c3⟩, hD, hE, hF, hG, hH, hT, hJ⟩ := id hI
  have no : Inv t p (k + 1) (qs a 11 0 0 0) := hI.th 0
  rcases i32c x1 with g1 | ⟨y1, h1, rfl⟩
  · simp (disch := first | assumption | omega) only [wp_X10_snow, wp_X6_addTelling, wp_X6_hasLeg, wp_X11_snow, wp_X11_isLeg, l0, l1, l2, l3, l4, l5, l6, l7, l8, l9, l10, l20, l60, l61, l62, bb_t, bb_f, l100, l120, l512, l400, l401, l700, l9999, nm1, lm1, nlt, nle, neq, glt, gle, lgt, lge, geq, egq, mI_l, mI_e, e_mI, l_mI, le_mI, mI_le, bI_z, nC, vnI, nI_add, nI_sb, nI_mul, a1m, qs_eq, qs_nc, qs_ni, qs_nk, bq_l, bq_r, bq_l', bq_r', bq_t, bq_f, bq_t', bq_f', bq_n, bq_m, iT, iS, iN, true_and, and_true, eq_self, not_true_eq_false, not_false_eq_true, forall_const, bx_t, bx_f, reduceCtorEq, Option.some.injEq, forall_eq', ite_true, ite_false]
    exact no
  by_cases i0 : I = 0
  · have h0 : nI I - nI 1 ≤ nI y1 := by
      subst i0
      exact (gle (x := nI 0 - nI 1) (by decide) h1).mpr trivial
    simp (disch := first | assumption | omega) only [wp_X10_snow, wp_X6_addTelling, wp_X6_hasLeg, wp_X11_snow, wp_X11_isLeg, a2, a3, l0, l1, l2, l3, l4, l5, l6, l7, l8, l9, l10, l20, l60, l61, l62, bb_t, bb_f, l100, l120, l512, l400, l401, l700, l9999, nm1, lm1, nlt, nle, neq, glt, gle, lgt, lge, geq, egq, mI_l, mI_e, e_mI, l_mI, le_mI, mI_le, bI_z, nC, vnI, nI_add, nI_sb, nI_mul, a1m, qs_eq, qs_nc, qs_ni, qs_nk, bq_l, bq_r, bq_l', bq_r', bq_t, bq_f, bq_t', bq_f', bq_n, bq_m, iT, iS, iN, true_and, and_true, eq_self, not_true_eq_false, not_false_eq_true, forall_const, bx_t, bx_f, reduceCtorEq, Option.some.injEq, forall_eq', ite_true, ite_false]
    exact no
  by_cases e1 : I - 1 ≤ y1
  · simp (disch := first | assumption | omega) only [wp_X10_snow, wp_X6_addTelling, wp_X6_hasLeg, wp_X11_snow, wp_X11_isLeg, a2, a3, l0, l1, l2, l3, l4, l5, l6, l7, l8, l9, l10, l20, l60, l61, l62, bb_t, bb_f, l100, l120, l512, l400, l401, l700, l9999, nm1, lm1, nlt, nle, neq, glt, gle, lgt, lge, geq, egq, mI_l, mI_e, e_mI, l_mI, le_mI, mI_le, bI_z, nC, vnI, nI_add, nI_sb, nI_mul, a1m, qs_eq, qs_nc, qs_ni, qs_nk, bq_l, bq_r, bq_l', bq_r', bq_t, bq_f, bq_t', bq_f', bq_n, bq_m, iT, iS, iN, true_and, and_true, eq_self, not_true_eq_false, not_false_eq_true, forall_const, bx_t, bx_f, reduceCtorEq, Option.some.injEq, forall_eq', ite_true, ite_false]
    exact no
  rcases i32c x2 with g2 | ⟨y2, h2, rfl⟩
  · simp (disch := first | assumption | omega) only [wp_X10_snow, wp_X6_addTelling, wp_X6_hasLeg, wp_X11_snow, wp_X11_isLeg, wp_X10_isHour, wp_X11_within, a2, a3, c2, c3, l0, l1, l2, l3, l4, l5, l6, l7, l8, l9, l10, l20, l60, l61, l62, bb_t, bb_f, l100, l120, l512, l400, l401, l700, l9999, nm1, lm1, nlt, nle, neq, glt, gle, lgt, lge, geq, egq, mI_l, mI_e, e_mI, l_mI, le_mI, mI_le, bI_z, nC, vnI, nI_add, nI_sb, nI_mul, a1m, qs_eq, qs_nc, qs_ni, qs_nk, bq_l, bq_r, bq_l', bq_r', bq_t, bq_f, bq_t', bq_f', bq_n, bq_m, iT, iS, iN, true_and, and_true, eq_self, not_true_eq_false, not_false_eq_true, forall_const, bx_t, bx_f, reduceCtorEq, Option.some.injEq, forall_eq', ite_true, ite_false]
    exact no
  by_cases e2 : 9999 < y2
  · simp (disch := first | assumption | omega) only [wp_X10_snow, wp_X6_addTelling, wp_X6_hasLeg, wp_X11_snow, wp_X11_isLeg, wp_X10_isHour, wp_X11_within, a2, a3, c2, c3, l0, l1, l2, l3, l4, l5, l6, l7, l8, l9, l10, l20, l60, l61, l62, bb_t, bb_f, l100, l120, l512, l400, l401, l700, l9999, nm1, lm1, nlt, nle, neq, glt, gle, lgt, lge, geq, egq, mI_l, mI_e, e_mI, l_mI, le_mI, mI_le, bI_z, nC, vnI, nI_add, nI_sb, nI_mul, a1m, qs_eq, qs_nc, qs_ni, qs_nk, bq_l, bq_r, bq_l', bq_r', bq_t, bq_f, bq_t', bq_f', bq_n, bq_m, iT, iS, iN, true_and, and_true, eq_self, not_true_eq_false, not_false_eq_true, forall_const, bx_t, bx_f, reduceCtorEq, Option.some.injEq, forall_eq', ite_true, ite_false]
    exact no
  rcases i32c x3 with g3 | ⟨y3, h3, rfl⟩
  · simp (disch := first | assumption | omega) only [wp_X10_snow, wp_X6_addTelling, wp_X6_hasLeg, wp_X11_snow, wp_X11_isLeg, wp_X10_isHour, wp_X11_within, a2, a3, c2, c3, l0, l1, l2, l3, l4, l5, l6, l7, l8, l9, l10, l20, l60, l61, l62, bb_t, bb_f, l100, l120, l512, l400, l401, l700, l9999, nm1, lm1, nlt, nle, neq, glt, gle, lgt, lge, geq, egq, mI_l, mI_e, e_mI, l_mI, le_mI, mI_le, bI_z, nC, vnI, nI_add, nI_sb, nI_mul, a1m, qs_eq, qs_nc, qs_ni, qs_nk, bq_l, bq_r, bq_l', bq_r', bq_t, bq_f, bq_t', bq_f', bq_n, bq_m, iT, iS, iN, true_and, and_true, eq_self, not_true_eq_false, not_false_eq_true, forall_const, bx_t, bx_f, reduceCtorEq, Option.some.injEq, forall_eq', ite_true, ite_false]
    exact no
  by_cases e3 : 9999 < y3
  · simp (disch := first | assumption | omega) only [wp_X10_snow, wp_X6_addTelling, wp_X6_hasLeg, wp_X11_snow, wp_X11_isLeg, wp_X10_isHour, wp_X11_within, a2, a3, c2, c3, l0, l1, l2, l3, l4, l5, l6, l7, l8, l9, l10, l20, l60, l61, l62, bb_t, bb_f, l100, l120, l512, l400, l401, l700, l9999, nm1, lm1, nlt, nle, neq, glt, gle, lgt, lge, geq, egq, mI_l, mI_e, e_mI, l_mI, le_mI, mI_le, bI_z, nC, vnI, nI_add, nI_sb, nI_mul, a1m, qs_eq, qs_nc, qs_ni, qs_nk, bq_l, bq_r, bq_l', bq_r', bq_t, bq_f, bq_t', bq_f', bq_n, bq_m, iT, iS, iN, true_and, and_true, eq_self, not_true_eq_false, not_false_eq_true, forall_const, bx_t, bx_f, reduceCtorEq, Option.some.injEq, forall_eq', ite_true, ite_false]
    exact no
  by_cases e4 : y3 < y2
  · simp (disch := first | assumption | omega) only [wp_X10_snow, wp_X6_addTelling, wp_X6_hasLeg, wp_X11_snow, wp_X11_isLeg, wp_X10_isHour, wp_X11_within, a2, a3, c2, c3, l0, l1, l2, l3, l4, l5, l6, l7, l8, l9, l10, l20, l60, l61, l62, bb_t, bb_f, l100, l120, l512, l400, l401, l700, l9999, nm1, lm1, nlt, nle, neq, glt, gle, lgt, lge, geq, egq, mI_l, mI_e, e_mI, l_mI, le_mI, mI_le, bI_z, nC, vnI, nI_add, nI_sb, nI_mul, a1m, qs_eq, qs_nc, qs_ni, qs_nk, bq_l, bq_r, bq_l', bq_r', bq_t, bq_f, bq_t', bq_f', bq_n, bq_m, iT, iS, iN, true_and, and_true, eq_self, not_true_eq_false, not_false_eq_true, forall_const, bx_t, bx_f, reduceCtorEq, Option.some.injEq, forall_eq', ite_true, ite_false]
    exact no
  obtain ⟨b1, b2, b3, b4, b5, b6, b7, b8⟩ := id hB
  by_cases e5 : S = 60
  · simp (disch := first | assumption | omega) only [wp_X10_snow, wp_X6_addTelling, wp_X6_hasLeg, wp_X11_snow, wp_X11_isLeg, wp_X10_isHour, wp_X11_within, a2, a3, c2, c3, b2, b3, l0, l1, l2, l3, l4, l5, l6, l7, l8, l9, l10, l20, l60, l61, l62, bb_t, bb_f, l100, l120, l512, l400, l401, l700, l9999, nm1, lm1, nlt, nle, neq, glt, gle, lgt, lge, geq, egq, mI_l, mI_e, e_mI, l_mI, le_mI, mI_le, bI_z, nC, vnI, nI_add, nI_sb, nI_mul, a1m, qs_eq, qs_nc, qs_ni, qs_nk, bq_l, bq_r, bq_l', bq_r', bq_t, bq_f, bq_t', bq_f', bq_n, bq_m, iT, iS, iN, true_and, and_true, eq_self, not_true_eq_false, not_false_eq_true, forall_const, bx_t, bx_f, reduceCtorEq, Option.some.injEq, forall_eq', ite_true, ite_false]
    exact no
  simp (disch := first | assumption | omega) only [wp_X10_snow, wp_X6_addTelling, wp_X6_hasLeg, wp_X11_snow, wp_X11_isLeg, wp_X10_isHour, wp_X11_within, a2, a3, c2, c3, b2, b3, l0, l1, l2, l3, l4, l5, l6, l7, l8, l9, l10, l20, l60, l61, l62, bb_t, bb_f, l100, l120, l512, l400, l401, l700, l9999, nm1, lm1, nlt, nle, neq, glt, gle, lgt, lge, geq, egq, mI_l, mI_e, e_mI, l_mI, le_mI, mI_le, bI_z, nC, vnI, nI_add, nI_sb, nI_mul, a1m, qs_eq, qs_nc, qs_ni, qs_nk, bq_l, bq_r, bq_l', bq_r', bq_t, bq_f, bq_t', bq_f', bq_n, bq_m, iT, iS, iN, true_and, and_true, eq_self, not_true_eq_false, not_false_eq_true, forall_const, bx_t, bx_f, reduceCtorEq, Option.some.injEq, forall_eq', ite_true, ite_false]
  refine ⟨I, S + 1, Hh, B, T, M, ⟨a1, a2, a3, a4, a5, a6, a7, a8, a9⟩, ⟨by omega, rfl, rfl, ?_, ?_, ?_, ?_, ?_⟩, ⟨c1, c2, c3⟩, hD, hE, hF, hG.k, hH, hT, hJ⟩
  · intro j
    simp (disch := first | assumption | omega) only [qsr, b4, l0, l1, l2, l3, l4, l5, l6, l7, l8, l9, l10, l20, l60, l61, l62, bb_t, bb_f, l100, l120, l512, l400, l401, l700, l9999, nm1, lm1, nlt, nle, neq, glt, gle, lgt, lge, geq, egq, mI_l, mI_e, e_mI, l_mI, le_mI, mI_le, bI_z, nC, vnI, nI_add, nI_sb, nI_mul, a1m, qs_eq, qs_nc, qs_ni, qs_nk, bq_l, bq_r, bq_l', bq_r', bq_t, bq_f, bq_t', bq_f', bq_n, bq_m, iT, iS, iN, true_and, and_true, eq_self, not_true_eq_false, not_false_eq_true, forall_const, bx_t, bx_f, reduceCtorEq, Option.some.injEq, forall_eq', ite_true, ite_false]
  · intro j
    simp (disch := first | assumption | omega) only [qsr, b5, l0, l1, l2, l3, l4, l5, l6, l7, l8, l9, l10, l20, l60, l61, l62, bb_t, bb_f, l100, l120, l512, l400, l401, l700, l9999, nm1, lm1, nlt, nle, neq, glt, gle, lgt, lge, geq, egq, mI_l, mI_e, e_mI, l_mI, le_mI, mI_le, bI_z, nC, vnI, nI_add, nI_sb, nI_mul, a1m, qs_eq, qs_nc, qs_ni, qs_nk, bq_l, bq_r, bq_l', bq_r', bq_t, bq_f, bq_t', bq_f', bq_n, bq_m, iT, iS, iN, true_and, and_true, eq_self, not_true_eq_false, not_false_eq_true, forall_const, bx_t, bx_f, reduceCtorEq, Option.some.injEq, forall_eq', ite_true, ite_false]
  · intro j
    simp (disch := first | assumption | omega) only [qsr, b6, l0, l1, l2, l3, l4, l5, l6, l7, l8, l9, l10, l20, l60, l61, l62, bb_t, bb_f, l100, l120, l512, l400, l401, l700, l9999, nm1, lm1, nlt, nle, neq, glt, gle, lgt, lge, geq, egq, mI_l, mI_e, e_mI, l_mI, le_mI, mI_le, bI_z, nC, vnI, nI_add, nI_sb, nI_mul, a1m, qs_eq, qs_nc, qs_ni, qs_nk, bq_l, bq_r, bq_l', bq_r', bq_t, bq_f, bq_t', bq_f', bq_n, bq_m, iT, iS, iN, true_and, and_true, eq_self, not_true_eq_false, not_false_eq_true, forall_const, bx_t, bx_f, reduceCtorEq, Option.some.injEq, forall_eq', ite_true, ite_false]
  · intro j
    simp (disch := first | assumption | omega) only [qsr, b7, l0, l1, l2, l3, l4, l5, l6, l7, l8, l9, l10, l20, l60, l61, l62, bb_t, bb_f, l100, l120, l512, l400, l401, l700, l9999, nm1, lm1, nlt, nle, neq, glt, gle, lgt, lge, geq, egq, mI_l, mI_e, e_mI, l_mI, le_mI, mI_le, bI_z, nC, vnI, nI_add, nI_sb, nI_mul, a1m, qs_eq, qs_nc, qs_ni, qs_nk, bq_l, bq_r, bq_l', bq_r', bq_t, bq_f, bq_t', bq_f', bq_n, bq_m, iT, iS, iN, true_and, and_true, eq_self, not_true_eq_false, not_false_eq_true, forall_const, bx_t, bx_f, reduceCtorEq, Option.some.injEq, forall_eq', ite_true, ite_false]
  · intro j hj
    by_cases q : j = S
    · subst q
      exact ⟨⟨Hh, by omega, by simp (disch := first | assumption | omega) only [qsr, l0, l1, l2, l3, l4, l5, l6, l7, l8, l9, l10, l20, l60, l61, l62, bb_t, bb_f, l100, l120, l512, l400, l401, l700, l9999, nm1, lm1, nlt, nle, neq, glt, gle, lgt, lge, geq, egq, mI_l, mI_e, e_mI, l_mI, le_mI, mI_le, bI_z, nC, vnI, nI_add, nI_sb, nI_mul, a1m, qs_eq, qs_nc, qs_ni, qs_nk, bq_l, bq_r, bq_l', bq_r', bq_t, bq_f, bq_t', bq_f', bq_n, bq_m, iT, iS, iN, true_and, and_true, eq_self, not_true_eq_false, not_false_eq_true, forall_const, bx_t, bx_f, reduceCtorEq, Option.some.injEq, forall_eq', ite_true, ite_false]⟩, y1, by omega, by simp (disch := first | assumption | omega) only [qsr, l0, l1, l2, l3, l4, l5, l6, l7, l8, l9, l10, l20, l60, l61, l62, bb_t, bb_f, l100, l120, l512, l400, l401, l700, l9999, nm1, lm1, nlt, nle, neq, glt, gle, lgt, lge, geq, egq, mI_l, mI_e, e_mI, l_mI, le_mI, mI_le, bI_z, nC, vnI, nI_add, nI_sb, nI_mul, a1m, qs_eq, qs_nc, qs_ni, qs_nk, bq_l, bq_r, bq_l', bq_r', bq_t, bq_f, bq_t', bq_f', bq_n, bq_m, iT, iS, iN, true_and, and_true, eq_self, not_true_eq_false, not_false_eq_true, forall_const, bx_t, bx_f, reduceCtorEq, Option.some.injEq, forall_eq', ite_true, ite_false]⟩
    · have := b8 j (by omega)
      simp (disch := first | assumption | omega) only [qsr, l0, l1, l2, l3, l4, l5, l6, l7, l8, l9, l10, l20, l60, l61, l62, bb_t, bb_f, l100, l120, l512, l400, l401, l700, l9999, nm1, lm1, nlt, nle, neq, glt, gle, lgt, lge, geq, egq, mI_l, mI_e, e_mI, l_mI, le_mI, mI_le, bI_z, nC, vnI, nI_add, nI_sb, nI_mul, a1m, qs_eq, qs_nc, qs_ni, qs_nk, bq_l, bq_r, bq_l', bq_r', bq_t, bq_f, bq_t', bq_f', bq_n, bq_m, iT, iS, iN, true_and, and_true, eq_self, not_true_eq_false, not_false_eq_true, forall_const, bx_t, bx_f, reduceCtorEq, Option.some.injEq, forall_eq', ite_true, ite_false]
      exact this
