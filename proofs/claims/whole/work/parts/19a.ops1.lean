theorem iB.I {I S Hh : Nat} {a : qa} (h : iB I S Hh a) : iB (I + 1) S Hh a := by
  obtain ⟨h1, h2, h3, h4, h5, h6, h7, h8⟩ := h
  refine ⟨h1, h2, h3, h4, h5, h6, h7, fun j hj => ⟨(h8 j hj).1, ?_⟩⟩
  obtain ⟨l, hl, e⟩ := (h8 j hj).2
  exact ⟨l, by omega, e⟩
theorem iD.I {I t p : Nat} {a : qa} (h : iD I t p a) : iD (I + 1) t p a := by
  obtain ⟨h1, h2, h3⟩ := h
  refine ⟨h1, h2, fun i hi => ?_⟩
  obtain ⟨g1, g2, g3, g4⟩ := h3 i hi
  refine ⟨g1, g2, g3, ?_⟩
  rcases g4 with ⟨q, hq, e⟩ | ⟨e1, ⟨l, hl, e2⟩, e3⟩
  · exact Or.inl ⟨q, by omega, e⟩
  · exact Or.inr ⟨e1, ⟨l, by omega, e2⟩, e3⟩
theorem iF.I {I Hh t p B : Nat} {a : qa} (h : iF I Hh t p B a) : iF (I + 1) Hh t p B a := by
  obtain ⟨h1, h2, h3⟩ := h
  refine ⟨h1, h2, fun q hq => ?_⟩
  obtain ⟨g1, g2, g3, g4, g5, g6, g7, g8, ⟨r, hr, e⟩, g10, g11⟩ := h3 q hq
  refine ⟨g1, g2, g3, g4, g5, g6, g7, g8, ⟨r, by omega, e⟩, g10, ?_⟩
  rcases g11 with ⟨e1, e2, ⟨r, hr, e3⟩, e4⟩ | e | ⟨e1, e2, ⟨r, hr, e3⟩, e4⟩
  · exact Or.inl ⟨e1, e2, ⟨r, by omega, e3⟩, e4⟩
  · exact Or.inr (Or.inl e)
  · exact Or.inr (Or.inr ⟨e1, e2, ⟨r, by omega, e3⟩, e4⟩)
theorem iG.k {Hh p k M : Nat} {a : qa} (h : iG Hh p k M a) : iG Hh p (k + 1) M a := ⟨Nat.le_succ_of_le h.1, h.2⟩
theorem qs_all {a : qa} {c k d : Nat} {x : Int32} (h : ∀ j, a c 0 j = a d 0 j) : ∀ j, (if j = k then x else a c 0 j) = (if j = k then x else a d 0 j) := by
  intro j
  rw [h j]
theorem qsr (a : qa) (c k : Nat) (x : Int32) (j : Nat) : qs a c 0 k x c 0 j = if j = k then x else a c 0 j := by
  simp [qs]
set_option maxHeartbeats 4000000 in
theorem pr_inn : ob_inn Inv := by
  intro t p k a x1 x2 x3 hk ht hp hb hI
  obtain ⟨I, S, Hh, B, T, M, ⟨a1, a2, a3, a4, a5, a6, a7, a8, a9⟩, hB, hC, hD, hE, hF, hG, hH, hT, hJ⟩ := id hI
  have no : Inv t p (k + 1) (qs a 11 0 0 0) := hI.th 0
  by_cases c1 : I = 6
  · simp (disch := first | assumption | omega) only [wp_X10_inn, wp_X6_addInn, wp_X11_inn, a2, a3, l0, l1, l2, l3, l4, l5, l6, l7, l8, l9, l10, l20, l60, l61, l62, bb_t, bb_f, l100, l120, l512, l400, l401, l700, l9999, nm1, lm1, nlt, nle, neq, glt, gle, lgt, lge, geq, egq, mI_l, mI_e, e_mI, l_mI, le_mI, mI_le, bI_z, nC, vnI, nI_add, nI_sb, nI_mul, a1m, qs_eq, qs_nc, qs_ni, qs_nk, bq_l, bq_r, bq_l', bq_r', bq_t, bq_f, bq_t', bq_f', bq_n, bq_m, iT, iS, iN, true_and, and_true, eq_self, not_true_eq_false, not_false_eq_true, forall_const, bx_t, bx_f, reduceCtorEq, Option.some.injEq, forall_eq', ite_true, ite_false]
    exact no
  by_cases c0 : I = 0
  · subst c0
    by_cases e : x1 = nI 0 ∧ x2 = nI 0 ∧ x3 = nI 0
    · obtain ⟨rfl, rfl, rfl⟩ := e
      simp (disch := first | assumption | omega) only [wp_X10_inn, wp_X6_addInn, wp_X11_inn, a2, a3, wl_X11_inn_39, wl_X11_inn_67, wl_X11_inn_68, wl_X6_addInn_91, wl_X11_inn_120, l0, l1, l2, l3, l4, l5, l6, l7, l8, l9, l10, l20, l60, l61, l62, bb_t, bb_f, l100, l120, l512, l400, l401, l700, l9999, nm1, lm1, nlt, nle, neq, glt, gle, lgt, lge, geq, egq, mI_l, mI_e, e_mI, l_mI, le_mI, mI_le, bI_z, nC, vnI, nI_add, nI_sb, nI_mul, a1m, qs_eq, qs_nc, qs_ni, qs_nk, bq_l, bq_r, bq_l', bq_r', bq_t, bq_f, bq_t', bq_f', bq_n, bq_m, iT, iS, iN, true_and, and_true, eq_self, not_true_eq_false, not_false_eq_true, forall_const, bx_t, bx_f, reduceCtorEq, Option.some.injEq, forall_eq', ite_true, ite_false]
      exact ⟨1, S, Hh, B, T, M, ⟨by omega, rfl, rfl, a4, a5, a6, fun j h => by omega, fun j h => by omega, a9⟩, hB.I, hC, hD.I, hE, hF.I, hG.k, hH, hT, hJ⟩
    · by_cases e1 : x1 = nI 0
      · by_cases e2 : x2 = nI 0
        · have e3 : ¬ x3 = nI 0 := fun q => e ⟨e1, e2, q⟩
          simp (disch := first | assumption | omega) only [wp_X10_inn, wp_X6_addInn, wp_X11_inn, a2, a3, wl_X11_inn_39, wl_X11_inn_67, wl_X11_inn_68, l0, l1, l2, l3, l4, l5, l6, l7, l8, l9, l10, l20, l60, l61, l62, bb_t, bb_f, l100, l120, l512, l400, l401, l700, l9999, nm1, lm1, nlt, nle, neq, glt, gle, lgt, lge, geq, egq, mI_l, mI_e, e_mI, l_mI, le_mI, mI_le, bI_z, nC, vnI, nI_add, nI_sb, nI_mul, a1m, qs_eq, qs_nc, qs_ni, qs_nk, bq_l, bq_r, bq_l', bq_r', bq_t, bq_f, bq_t', bq_f', bq_n, bq_m, iT, iS, iN, true_and, and_true, eq_self, not_true_eq_false, not_false_eq_true, forall_const, bx_t, bx_f, reduceCtorEq, Option.some.injEq, forall_eq', ite_true, ite_false]
          exact no
        · simp (disch := first | assumption | omega) only [wp_X10_inn, wp_X6_addInn, wp_X11_inn, a2, a3, wl_X11_inn_39, wl_X11_inn_67, wl_X11_inn_68, l0, l1, l2, l3, l4, l5, l6, l7, l8, l9, l10, l20, l60, l61, l62, bb_t, bb_f, l100, l120, l512, l400, l401, l700, l9999, nm1, lm1, nlt, nle, neq, glt, gle, lgt, lge, geq, egq, mI_l, mI_e, e_mI, l_mI, le_mI, mI_le, bI_z, nC, vnI, nI_add, nI_sb, nI_mul, a1m, qs_eq, qs_nc, qs_ni, qs_nk, bq_l, bq_r, bq_l', bq_r', bq_t, bq_f, bq_t', bq_f', bq_n, bq_m, iT, iS, iN, true_and, and_true, eq_self, not_true_eq_false, not_false_eq_true, forall_const, bx_t, bx_f, reduceCtorEq, Option.some.injEq, forall_eq', ite_true, ite_false]
          exact no
      · simp (disch := first | assumption | omega) only [wp_X10_inn, wp_X6_addInn, wp_X11_inn, a2, a3, wl_X11_inn_39, wl_X11_inn_67, wl_X11_inn_68, l0, l1, l2, l3, l4, l5, l6, l7, l8, l9, l10, l20, l60, l61, l62, bb_t, bb_f, l100, l120, l512, l400, l401, l700, l9999, nm1, lm1, nlt, nle, neq, glt, gle, lgt, lge, geq, egq, mI_l, mI_e, e_mI, l_mI, le_mI, mI_le, bI_z, nC, vnI, nI_add, nI_sb, nI_mul, a1m, qs_eq, qs_nc, qs_ni, qs_nk, bq_l, bq_r, bq_l', bq_r', bq_t, bq_f, bq_t', bq_f', bq_n, bq_m, iT, iS, iN, true_and, and_true, eq_self, not_true_eq_false, not_false_eq_true, forall_const, bx_t, bx_f, reduceCtorEq, Option.some.injEq, forall_eq', ite_true, ite_false]
        exact no
  rcases i32c x1 with g1 | ⟨y1, h1, rfl⟩
  · simp (disch := first | assumption | omega) only [wp_X10_inn, wp_X6_addInn, wp_X11_inn, wp_X11_within, a2, a3, wl_X11_inn_39, wl_X11_inn_67, wl_X11_inn_68, l0, l1, l2, l3, l4, l5, l6, l7, l8, l9, l10, l20, l60, l61, l62, bb_t, bb_f, l100, l120, l512, l400, l401, l700, l9999, nm1, lm1, nlt, nle, neq, glt, gle, lgt, lge, geq, egq, mI_l, mI_e, e_mI, l_mI, le_mI, mI_le, bI_z, nC, vnI, nI_add, nI_sb, nI_mul, a1m, qs_eq, qs_nc, qs_ni, qs_nk, bq_l, bq_r, bq_l', bq_r', bq_t, bq_f, bq_t', bq_f', bq_n, bq_m, iT, iS, iN, true_and, and_true, eq_self, not_true_eq_false, not_false_eq_true, forall_const, bx_t, bx_f, reduceCtorEq, Option.some.injEq, forall_eq', ite_true, ite_false]
    exact no
  by_cases e1 : y1 < 1
  · simp (disch := first | assumption | omega) only [wp_X10_inn, wp_X6_addInn, wp_X11_inn, wp_X11_within, a2, a3, wl_X11_inn_39, wl_X11_inn_67, wl_X11_inn_68, l0, l1, l2, l3, l4, l5, l6, l7, l8, l9, l10, l20, l60, l61, l62, bb_t, bb_f, l100, l120, l512, l400, l401, l700, l9999, nm1, lm1, nlt, nle, neq, glt, gle, lgt, lge, geq, egq, mI_l, mI_e, e_mI, l_mI, le_mI, mI_le, bI_z, nC, vnI, nI_add, nI_sb, nI_mul, a1m, qs_eq, qs_nc, qs_ni, qs_nk, bq_l, bq_r, bq_l', bq_r', bq_t, bq_f, bq_t', bq_f', bq_n, bq_m, iT, iS, iN, true_and, and_true, eq_self, not_true_eq_false, not_false_eq_true, forall_const, bx_t, bx_f, reduceCtorEq, Option.some.injEq, forall_eq', ite_true, ite_false]
    exact no
  by_cases e2 : 9 < y1
  · simp (disch := first | assumption | omega) only [wp_X10_inn, wp_X6_addInn, wp_X11_inn, wp_X11_within, a2, a3, wl_X11_inn_39, wl_X11_inn_67, wl_X11_inn_68, l0, l1, l2, l3, l4, l5, l6, l7, l8, l9, l10, l20, l60, l61, l62, bb_t, bb_f, l100, l120, l512, l400, l401, l700, l9999, nm1, lm1, nlt, nle, neq, glt, gle, lgt, lge, geq, egq, mI_l, mI_e, e_mI, l_mI, le_mI, mI_le, bI_z, nC, vnI, nI_add, nI_sb, nI_mul, a1m, qs_eq, qs_nc, qs_ni, qs_nk, bq_l, bq_r, bq_l', bq_r', bq_t, bq_f, bq_t', bq_f', bq_n, bq_m, iT, iS, iN, true_and, and_true, eq_self, not_true_eq_false, not_false_eq_true, forall_const, bx_t, bx_f, reduceCtorEq, Option.some.injEq, forall_eq', ite_true, ite_false]
    exact no
  rcases i32c x2 with g2 | ⟨y2, h2, rfl⟩
  · simp (disch := first | assumption | omega) only [wp_X10_inn, wp_X6_addInn, wp_X11_inn, wp_X11_within, a2, a3, wl_X11_inn_39, wl_X11_inn_67, wl_X11_inn_68, l0, l1, l2, l3, l4, l5, l6, l7, l8, l9, l10, l20, l60, l61, l62, bb_t, bb_f, l100, l120, l512, l400, l401, l700, l9999, nm1, lm1, nlt, nle, neq, glt, gle, lgt, lge, geq, egq, mI_l, mI_e, e_mI, l_mI, le_mI, mI_le, bI_z, nC, vnI, nI_add, nI_sb, nI_mul, a1m, qs_eq, qs_nc, qs_ni, qs_nk, bq_l, bq_r, bq_l', bq_r', bq_t, bq_f, bq_t', bq_f', bq_n, bq_m, iT, iS, iN, true_and, and_true, eq_self, not_true_eq_false, not_false_eq_true, forall_const, bx_t, bx_f, reduceCtorEq, Option.some.injEq, forall_eq', ite_true, ite_false]
    exact no
  by_cases e3 : 9 < y2
  · simp (disch := first | assumption | omega) only [wp_X10_inn, wp_X6_addInn, wp_X11_inn, wp_X11_within, a2, a3, wl_X11_inn_39, wl_X11_inn_67, wl_X11_inn_68, l0, l1, l2, l3, l4, l5, l6, l7, l8, l9, l10, l20, l60, l61, l62, bb_t, bb_f, l100, l120, l512, l400, l401, l700, l9999, nm1, lm1, nlt, nle, neq, glt, gle, lgt, lge, geq, egq, mI_l, mI_e, e_mI, l_mI, le_mI, mI_le, bI_z, nC, vnI, nI_add, nI_sb, nI_mul, a1m, qs_eq, qs_nc, qs_ni, qs_nk, bq_l, bq_r, bq_l', bq_r', bq_t, bq_f, bq_t', bq_f', bq_n, bq_m, iT, iS, iN, true_and, and_true, eq_self, not_true_eq_false, not_false_eq_true, forall_const, bx_t, bx_f, reduceCtorEq, Option.some.injEq, forall_eq', ite_true, ite_false]
    exact no
  have hv := q_ib hb
  simp (disch := first | assumption | omega) only [wp_X10_inn, wp_X6_addInn, wp_X11_inn, wp_X11_within, a2, a3, wl_X11_inn_39, wl_X11_inn_67, wl_X11_inn_68, wl_X6_addInn_91, wl_X11_inn_120, hv, l0, l1, l2, l3, l4, l5, l6, l7, l8, l9, l10, l20, l60, l61, l62, bb_t, bb_f, l100, l120, l512, l400, l401, l700, l9999, nm1, lm1, nlt, nle, neq, glt, gle, lgt, lge, geq, egq, mI_l, mI_e, e_mI, l_mI, le_mI, mI_le, bI_z, nC, vnI, nI_add, nI_sb, nI_mul, a1m, qs_eq, qs_nc, qs_ni, qs_nk, bq_l, bq_r, bq_l', bq_r', bq_t, bq_f, bq_t', bq_f', bq_n, bq_m, iT, iS, iN, true_and, and_true, eq_self, not_true_eq_false, not_false_eq_true, forall_const, bx_t, bx_f, reduceCtorEq, Option.some.injEq, forall_eq', ite_true, ite_false]
  refine ⟨I + 1, S, Hh, B, T, M, ⟨by omega, rfl, rfl, ?_, ?_, ?_, ?_, ?_, ?_⟩, hB.I, hC, hD.I, hE, hF.I, hG.k, hH, hT, hJ⟩
  · intro j
    simp (disch := first | assumption | omega) only [qsr, a4, l0, l1, l2, l3, l4, l5, l6, l7, l8, l9, l10, l20, l60, l61, l62, bb_t, bb_f, l100, l120, l512, l400, l401, l700, l9999, nm1, lm1, nlt, nle, neq, glt, gle, lgt, lge, geq, egq, mI_l, mI_e, e_mI, l_mI, le_mI, mI_le, bI_z, nC, vnI, nI_add, nI_sb, nI_mul, a1m, qs_eq, qs_nc, qs_ni, qs_nk, bq_l, bq_r, bq_l', bq_r', bq_t, bq_f, bq_t', bq_f', bq_n, bq_m, iT, iS, iN, true_and, and_true, eq_self, not_true_eq_false, not_false_eq_true, forall_const, bx_t, bx_f, reduceCtorEq, Option.some.injEq, forall_eq', ite_true, ite_false]
  · intro j
    simp (disch := first | assumption | omega) only [qsr, a5, l0, l1, l2, l3, l4, l5, l6, l7, l8, l9, l10, l20, l60, l61, l62, bb_t, bb_f, l100, l120, l512, l400, l401, l700, l9999, nm1, lm1, nlt, nle, neq, glt, gle, lgt, lge, geq, egq, mI_l, mI_e, e_mI, l_mI, le_mI, mI_le, bI_z, nC, vnI, nI_add, nI_sb, nI_mul, a1m, qs_eq, qs_nc, qs_ni, qs_nk, bq_l, bq_r, bq_l', bq_r', bq_t, bq_f, bq_t', bq_f', bq_n, bq_m, iT, iS, iN, true_and, and_true, eq_self, not_true_eq_false, not_false_eq_true, forall_const, bx_t, bx_f, reduceCtorEq, Option.some.injEq, forall_eq', ite_true, ite_false]
  · intro j
    simp (disch := first | assumption | omega) only [qsr, a6, l0, l1, l2, l3, l4, l5, l6, l7, l8, l9, l10, l20, l60, l61, l62, bb_t, bb_f, l100, l120, l512, l400, l401, l700, l9999, nm1, lm1, nlt, nle, neq, glt, gle, lgt, lge, geq, egq, mI_l, mI_e, e_mI, l_mI, le_mI, mI_le, bI_z, nC, vnI, nI_add, nI_sb, nI_mul, a1m, qs_eq, qs_nc, qs_ni, qs_nk, bq_l, bq_r, bq_l', bq_r', bq_t, bq_f, bq_t', bq_f', bq_n, bq_m, iT, iS, iN, true_and, and_true, eq_self, not_true_eq_false, not_false_eq_true, forall_const, bx_t, bx_f, reduceCtorEq, Option.some.injEq, forall_eq', ite_true, ite_false]
  · intro j hj
    by_cases q : j = I - 1
    · subst q
      exact ⟨y1, by omega, by omega, by simp (disch := first | assumption | omega) only [qsr, l0, l1, l2, l3, l4, l5, l6, l7, l8, l9, l10, l20, l60, l61, l62, bb_t, bb_f, l100, l120, l512, l400, l401, l700, l9999, nm1, lm1, nlt, nle, neq, glt, gle, lgt, lge, geq, egq, mI_l, mI_e, e_mI, l_mI, le_mI, mI_le, bI_z, nC, vnI, nI_add, nI_sb, nI_mul, a1m, qs_eq, qs_nc, qs_ni, qs_nk, bq_l, bq_r, bq_l', bq_r', bq_t, bq_f, bq_t', bq_f', bq_n, bq_m, iT, iS, iN, true_and, and_true, eq_self, not_true_eq_false, not_false_eq_true, forall_const, bx_t, bx_f, reduceCtorEq, Option.some.injEq, forall_eq', ite_true, ite_false]⟩
    · obtain ⟨w, w1, w2, w3⟩ := a7 j (by omega)
      exact ⟨w, w1, w2, by simp (disch := first | assumption | omega) only [qsr, w3, l0, l1, l2, l3, l4, l5, l6, l7, l8, l9, l10, l20, l60, l61, l62, bb_t, bb_f, l100, l120, l512, l400, l401, l700, l9999, nm1, lm1, nlt, nle, neq, glt, gle, lgt, lge, geq, egq, mI_l, mI_e, e_mI, l_mI, le_mI, mI_le, bI_z, nC, vnI, nI_add, nI_sb, nI_mul, a1m, qs_eq, qs_nc, qs_ni, qs_nk, bq_l, bq_r, bq_l', bq_r', bq_t, bq_f, bq_t', bq_f', bq_n, bq_m, iT, iS, iN, true_and, and_true, eq_self, not_true_eq_false, not_false_eq_true, forall_const, bx_t, bx_f, reduceCtorEq, Option.some.injEq, forall_eq', ite_true, ite_false]⟩
  · intro j hj
    by_cases q : j = I - 1
    · subst q
      exact ⟨y2, by omega, by simp (disch := first | assumption | omega) only [qsr, l0, l1, l2, l3, l4, l5, l6, l7, l8, l9, l10, l20, l60, l61, l62, bb_t, bb_f, l100, l120, l512, l400, l401, l700, l9999, nm1, lm1, nlt, nle, neq, glt, gle, lgt, lge, geq, egq, mI_l, mI_e, e_mI, l_mI, le_mI, mI_le, bI_z, nC, vnI, nI_add, nI_sb, nI_mul, a1m, qs_eq, qs_nc, qs_ni, qs_nk, bq_l, bq_r, bq_l', bq_r', bq_t, bq_f, bq_t', bq_f', bq_n, bq_m, iT, iS, iN, true_and, and_true, eq_self, not_true_eq_false, not_false_eq_true, forall_const, bx_t, bx_f, reduceCtorEq, Option.some.injEq, forall_eq', ite_true, ite_false]⟩
    · obtain ⟨w, w1, w2⟩ := a8 j (by omega)
      exact ⟨w, w1, by simp (disch := first | assumption | omega) only [qsr, w2, l0, l1, l2, l3, l4, l5, l6, l7, l8, l9, l10, l20, l60, l61, l62, bb_t, bb_f, l100, l120, l512, l400, l401, l700, l9999, nm1, lm1, nlt, nle, neq, glt, gle, lgt, lge, geq, egq, mI_l, mI_e, e_mI, l_mI, le_mI, mI_le, bI_z, nC, vnI, nI_add, nI_sb, nI_mul, a1m, qs_eq, qs_nc, qs_ni, qs_nk, bq_l, bq_r, bq_l', bq_r', bq_t, bq_f, bq_t', bq_f', bq_n, bq_m, iT, iS, iN, true_and, and_true, eq_self, not_true_eq_false, not_false_eq_true, forall_const, bx_t, bx_f, reduceCtorEq, Option.some.injEq, forall_eq', ite_true, ite_false]⟩
  · intro j
    by_cases q : j = I - 1
    · subst q
      simp (disch := first | assumption | omega) only [qsr, l0, l1, l2, l3, l4, l5, l6, l7, l8, l9, l10, l20, l60, l61, l62, bb_t, bb_f, l100, l120, l512, l400, l401, l700, l9999, nm1, lm1, nlt, nle, neq, glt, gle, lgt, lge, geq, egq, mI_l, mI_e, e_mI, l_mI, le_mI, mI_le, bI_z, nC, vnI, nI_add, nI_sb, nI_mul, a1m, qs_eq, qs_nc, qs_ni, qs_nk, bq_l, bq_r, bq_l', bq_r', bq_t, bq_f, bq_t', bq_f', bq_n, bq_m, iT, iS, iN, true_and, and_true, eq_self, not_true_eq_false, not_false_eq_true, forall_const, bx_t, bx_f, reduceCtorEq, Option.some.injEq, forall_eq', ite_true, ite_false]
      exact hb
    · simp (disch := first | assumption | omega) only [qsr, l0, l1, l2, l3, l4, l5, l6, l7, l8, l9, l10, l20, l60, l61, l62, bb_t, bb_f, l100, l120, l512, l400, l401, l700, l9999, nm1, lm1, nlt, nle, neq, glt, gle, lgt, lge, geq, egq, mI_l, mI_e, e_mI, l_mI, le_mI, mI_le, bI_z, nC, vnI, nI_add, nI_sb, nI_mul, a1m, qs_eq, qs_nc, qs_ni, qs_nk, bq_l, bq_r, bq_l', bq_r', bq_t, bq_f, bq_t', bq_f', bq_n, bq_m, iT, iS, iN, true_and, and_true, eq_self, not_true_eq_false, not_false_eq_true, forall_const, bx_t, bx_f, reduceCtorEq, Option.some.injEq, forall_eq', ite_true, ite_false]
      exact a9 j
