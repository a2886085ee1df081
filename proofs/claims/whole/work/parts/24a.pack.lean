theorem pk1_u {a : qa} {s : q_S} {x1 x2 x3 x4 : Int32} {c i n : Nat} (h : c ≠ 4) : (q_pk1 (a, s) x1 x2 x3 x4).1 c i n = a c i n := by
  simp [q_pk1, q_pi, q_sr, q_set, q_nu, h]
theorem pk1_i {a : qa} {s : q_S} {x1 x2 x3 x4 : Int32} {i n : Nat} (h : i ≠ s.2 4) : (q_pk1 (a, s) x1 x2 x3 x4).1 4 i n = a 4 i n := by
  simp [q_pk1, q_pi, q_sr, q_set, q_nu, h]
theorem pk1_v {a : qa} {s : q_S} {x1 x2 x3 x4 : Int32} : (q_pk1 (a, s) x1 x2 x3 x4).1 4 (s.2 4) 0 = x3 ∧ (q_pk1 (a, s) x1 x2 x3 x4).1 4 (s.2 4) 1 = x4 ∧ (q_pk1 (a, s) x1 x2 x3 x4).1 4 (s.2 4) 2 = x2 ∧ (q_pk1 (a, s) x1 x2 x3 x4).1 4 (s.2 4) 3 = a 10 0 12 ∧ (q_pk1 (a, s) x1 x2 x3 x4).1 4 (s.2 4) 4 = 0 ∧ (q_pk1 (a, s) x1 x2 x3 x4).1 4 (s.2 4) 5 = x1 ∧ (q_pk1 (a, s) x1 x2 x3 x4).1 4 (s.2 4) 8 = 0 ∧ (q_pk1 (a, s) x1 x2 x3 x4).1 4 (s.2 4) 9 = 0 := by
  refine ⟨?_, ?_, ?_, ?_, ?_, ?_, ?_, ?_⟩ <;> simp [q_pk1, q_pi, q_sr, q_set, q_nu]
theorem pack_inv {I S Hh B T M t p k : Nat} {a a' : qa} {r tg kd wt : Nat} (hp : p < 100) (hA : iA I a) (hB : iB I S Hh a) (hC : iC Hh a) (hD : iD I t p a) (hE : iE t p a) (hF : iF I Hh t p B a) (hG : iG Hh p k M a) (hH : iH Hh B a) (hT : iI T a) (hJ : a 10 0 11 = a 11 0 49) (hr : r < I) (htg : tg < I) (hne : ¬ r = tg) (hkd : kd ≤ 3) (hw1 : 1 ≤ wt) (hw2 : wt ≤ 60)
    (w : ∀ c, c ≠ 2 → c ≠ 4 → c ≠ 10 → c ≠ 11 → c ≠ 22 → c ≠ 23 → c ≠ 24 → c ≠ 55 → c ≠ 56 → c ≠ 57 → c ≠ 58 → c ≠ 59 → c ≠ 62 → c ≠ 64 → c ≠ 65 → c ≠ 66 → c ≠ 67 → a' c = a c) (w10 : ∀ n, n ≠ 9 → a' 10 0 n = a 10 0 n) (v9 : a' 10 0 9 = nI (p + 1)) (w11 : ∀ n, n ≠ 0 → n ≠ 20 → n ≠ 31 → a' 11 0 n = a 11 0 n) (v20 : a' 11 0 20 = nI (p + 1)) (u4 : ∀ q n, q ≠ p → a' 4 q n = a 4 q n) (x0 : a' 4 p 0 = nI kd) (x1 : a' 4 p 1 = nI wt) (x2 : a' 4 p 2 = nI tg) (x3 : a' 4 p 3 = nI Hh) (x4 : a' 4 p 4 = nI 0) (x5 : a' 4 p 5 = nI r) (x8 : a' 4 p 8 = nI 0) (x9 : a' 4 p 9 = nI 0) (u55 : ∀ m, a' 55 0 m = if m = p then nI kd else a 55 0 m) (u56 : ∀ m, a' 56 0 m = if m = p then nI wt else a 56 0 m) (u57 : ∀ m, a' 57 0 m = if m = p then nI tg else a 57 0 m) (u58 : ∀ m, a' 58 0 m = if m = p then nI 0 else a 58 0 m) (u59 : ∀ m, a' 59 0 m = if m = p then nI r else a 59 0 m) (u62 : ∀ m, a' 62 0 m = if m = p then nI Hh else a 62 0 m) (u64 : ∀ m, a' 64 0 m = if m = p then nI 0 else a 64 0 m) (m2 : a' 2 0 3 = nI (M + 1)) (m3 : a' 11 0 31 = nI (M + 1)) (u22 : ∀ m, a' 22 0 m = if m = M then nI p else a 22 0 m) (u23 : ∀ m, a' 23 0 m = if m = M then nI Hh else a 23 0 m) (u24 : ∀ m, a' 24 0 m = if m = M then nI r else a 24 0 m) (u65 : ∀ m, a' 65 0 m = if m = M then nI p else a 65 0 m) (u66 : ∀ m, a' 66 0 m = if m = M then nI Hh else a 66 0 m) (u67 : ∀ m, a' 67 0 m = if m = M then nI r else a 67 0 m) : Inv t (p + 1) (k + 1) a' := by
  have hI6 := hA.1
  have ww : ∀ c, c = 0 ∨ c = 3 ∨ c = 6 ∨ c = 7 ∨ c = 9 ∨ (12 ≤ c ∧ c ≤ 21) ∨ (25 ≤ c ∧ c ≤ 54) ∨ (60 ≤ c ∧ c ≤ 61) ∨ c = 63 ∨ (68 ≤ c ∧ c ≤ 80) → a' c = a c := fun c hc => w c (by omega) (by omega) (by omega) (by omega) (by omega) (by omega) (by omega) (by omega) (by omega) (by omega) (by omega) (by omega) (by omega) (by omega) (by omega) (by omega) (by omega)
  have s58 : ∀ q, q < p → a' 58 0 q = a 58 0 q := fun q hq => by rw [u58, if_neg (by omega)]
  have z58 : ¬ a' 58 0 p = 1 := by
    rw [u58, if_pos rfl]
    decide
  have lT : ∀ i, sumN (ldT a' i) (p + 1) = sumN (ldT a i) p := by
    intro i
    have e : ldT a' i p = 0 := by
      unfold ldT
      exact if_neg (fun h => z58 h.1)
    show sumN (ldT a' i) p + ldT a' i p = _
    rw [e, az]
    refine sumN_eq p (fun j hj => ?_)
    unfold ldT
    rw [s58 j hj, ww 60 (by omega)]
  have lW : ∀ m x, sumN (ldW a' m x) (p + 1) = sumN (ldW a m x) p := by
    intro m x
    have e : ldW a' m x p = 0 := by
      unfold ldW
      exact if_neg (fun h => z58 h.1)
    show sumN (ldW a' m x) p + ldW a' m x p = _
    rw [e, az]
    refine sumN_eq p (fun j hj => ?_)
    have s56 : a' 56 0 j = a 56 0 j := by rw [u56, if_neg (by omega)]
    unfold ldW
    rw [s58 j hj, ww 60 (by omega), ww 61 (by omega), s56]
  have hO : ∀ m q, q < p → (onM a' m 2 q ↔ onM a m 2 q) := by
    intro m q hq
    unfold onM
    rw [s58 q hq, ww 60 (by omega), ww 61 (by omega)]
  have hO' : ∀ m, ¬ onM a' m 2 p := fun m h => z58 h.1
  refine ⟨I, S, Hh, B, T, M + 1, hA.cg ?_ ?_ ?_ ?_ ?_ ?_ ?_ ?_, hB.cg ?_ ?_ ?_ ?_ ?_ ?_ ?_ ?_ ?_ ?_, ⟨hC.1, (w10 12 (by decide)).trans hC.2.1, (w11 1 (by decide) (by decide) (by decide)).trans hC.2.2⟩, ?_, ?_, ?_, ?_, hH.cg ?_ ?_ ?_ ?_ ?_ ?_ ?_ ?_ ?_ ?_ ?_ ?_ ?_ ?_ ?_, hT.cg ?_ ?_ ?_ ?_, ?_⟩
  all_goals first
    | exact ww _ (by omega)
    | exact w10 _ (by decide)
    | exact w11 _ (by decide) (by decide) (by decide)
    | exact congrFun (congrFun (ww _ (by omega)) _) _
    | skip
  · refine ⟨(w10 8 (by decide)).trans hD.1, (w11 11 (by decide) (by decide) (by decide)).trans hD.2.1, fun i hi => ?_⟩
    rw [lT, ww 9 (by omega), ww 47 (by omega), ww 48 (by omega), ww 49 (by omega), ww 50 (by omega)]
    exact hD.2.2 i hi
  · intro m hm
    rw [lW, lW, lW, ww 3 (by omega), ww 51 (by omega), ww 52 (by omega), ww 53 (by omega), ww 54 (by omega)]
    obtain ⟨f0, f1, f2, f3, f4, f5, f6, f7, f8, f9, f10, f11⟩ := hE m hm
    refine ⟨f0, f1, f2, f3, f4, f5, f6, f7, f8, f9, f10, ?_⟩
    rcases f11 with ⟨h1, h2⟩ | ⟨q, hq, h1, h2, h3⟩
    · refine Or.inl ⟨h1, fun q hq => ?_⟩
      by_cases c : q = p
      · subst c
        exact hO' m
      · rw [hO m q (by omega)]
        exact h2 q (by omega)
    · refine Or.inr ⟨q, by omega, h1, (hO m q hq).mpr h2, fun q' hq' ho => ?_⟩
      by_cases c : q' = p
      · subst c
        exact absurd ho (hO' m)
      · exact h3 q' (by omega) ((hO m q' (by omega)).mp ho)
  · refine ⟨v9, v20, fun q hq => ?_⟩
    by_cases c : q = p
    · subst c
      rw [u55, u56, u57, u58, u59, u62, u64]
      simp only [if_true]
      refine ⟨x0, x1, x2, x3, x4, x8, ⟨kd, hkd, rfl⟩, ⟨wt, hw1, hw2, rfl⟩, ⟨tg, htg, rfl⟩, ⟨Hh, Nat.le_refl _, rfl⟩, Or.inl ⟨rfl, x5, ⟨r, hr, rfl⟩, x9, fun _ => ?_⟩⟩
      exact nne hne (by omega) (by omega)
    · obtain ⟨g1, g2, g3, g4, g5, g6, g7, g8, g9, g10, g11⟩ := hF.2.2 q (by omega)
      have ew : wth a' B q = wth a B q := by
        refine wth_cg (q' := 0) ?_ ?_ ?_ ?_ ?_ ?_ ?_ ?_ ?_ ?_ ?_ ?_
        · rw [u55, if_neg c]
        · rw [u56, if_neg c]
        · rw [u62, if_neg c]
        · rw [ww 63 (by omega)]
        · rw [u64, if_neg c]
        · rw [ww 72 (by omega)]
        · rw [ww 73 (by omega)]
        · rw [ww 74 (by omega)]
        · rw [ww 75 (by omega)]
        · rw [ww 76 (by omega)]
        · rw [ww 77 (by omega)]
        · rw [ww 78 (by omega)]
      simp only [u4 q _ c, u55, u56, u57, u58, u59, u62, u64, if_neg c, ew, ww 60 (by omega), ww 61 (by omega), ww 47 (by omega)]
      exact ⟨g1, g2, g3, g4, g5, g6, g7, g8, g9, g10, g11⟩
  · obtain ⟨h1, h2, h3, h4⟩ := hG
    refine ⟨by omega, m2, m3, fun j hj => ?_⟩
    rw [u22, u23, u24, u65, u66, u67]
    by_cases c : j = M
    · simp only [if_pos c]
      refine ⟨trivial, trivial, trivial, p, Hh, Hh, by omega, rfl, ?_, rfl, Nat.le_refl _, Nat.le_refl _⟩
      rw [u62, if_pos rfl]
    · simp only [if_neg c]
      obtain ⟨q1, q2, q3, q, cc, h, y1, y2, y3, y4, y5, y6⟩ := h4 j (by omega)
      refine ⟨q1, q2, q3, q, cc, h, by omega, y2, ?_, y4, y5, y6⟩
      rw [u62, if_neg (by omega)]
      exact y3
  · rw [w10 11 (by decide), w11 49 (by decide) (by decide) (by decide)]
    exact hJ
set_option maxHeartbeats 8000000 in
theorem pr_pack : ob_pack Inv := by
  intro t p k s a x1 x2 x3 x4 hk hS hI
  obtain ⟨I, S, Hh, B, T, M, hA, hB, hC, hD, hE, hF, hG, hH, hT, hJ⟩ := id hI
  have no : Inv t p (k + 1) (qs a 11 0 0 0) := hI.th 0
  have ht : t ≤ 4 := hS.2.2.2.2.2.2.2.2.2.2.2.2.1
  have hp : p ≤ 100 := hS.2.2.2.2.2.2.2.2.2.2.2.2.2
  obtain ⟨a1, a2, a3, a4, a5, a6, a7, a8, a9⟩ := id hA
  have f1 := hF.1
  have f2 := hF.2.1
  rcases i32c x1 with g1 | ⟨r, h1, rfl⟩
  · simp (disch := first | assumption | omega) only [wp_X10_pack, wp_X6_hasInn, a2, f1, l0, l1, l2, l3, l4, l5, l6, l7, l8, l9, l10, l20, l60, l61, l62, bb_t, bb_f, l100, l120, l512, l400, l401, l700, l9999, nm1, lm1, nlt, nle, neq, glt, gle, lgt, lge, geq, egq, mI_l, mI_e, e_mI, l_mI, le_mI, mI_le, bI_z, nC, vnI, nI_add, nI_sb, nI_mul, a1m, qs_eq, qs_nc, qs_ni, qs_nk, bq_l, bq_r, bq_l', bq_r', bq_t, bq_f, bq_t', bq_f', bq_n, bq_m, iT, iS, iN, true_and, and_true, eq_self, not_true_eq_false, not_false_eq_true, forall_const, bx_t, bx_f, reduceCtorEq, Option.some.injEq, forall_eq', ite_true, ite_false]
    refine ⟨a, s, t, p, rfl, hS, ?_⟩
    simp (disch := first | assumption | omega) only [wp_X11_pack, wp_X11_isInn, wp_X11_within, a3, f2, l0, l1, l2, l3, l4, l5, l6, l7, l8, l9, l10, l20, l60, l61, l62, bb_t, bb_f, l100, l120, l512, l400, l401, l700, l9999, nm1, lm1, nlt, nle, neq, glt, gle, lgt, lge, geq, egq, mI_l, mI_e, e_mI, l_mI, le_mI, mI_le, bI_z, nC, vnI, nI_add, nI_sb, nI_mul, a1m, qs_eq, qs_nc, qs_ni, qs_nk, bq_l, bq_r, bq_l', bq_r', bq_t, bq_f, bq_t', bq_f', bq_n, bq_m, iT, iS, iN, true_and, and_true, eq_self, not_true_eq_false, not_false_eq_true, forall_const, bx_t, bx_f, reduceCtorEq, Option.some.injEq, forall_eq', ite_true, ite_false]
    exact no
  by_cases c1 : I ≤ r
  · simp (disch := first | assumption | omega) only [wp_X10_pack, wp_X6_hasInn, a2, f1, l0, l1, l2, l3, l4, l5, l6, l7, l8, l9, l10, l20, l60, l61, l62, bb_t, bb_f, l100, l120, l512, l400, l401, l700, l9999, nm1, lm1, nlt, nle, neq, glt, gle, lgt, lge, geq, egq, mI_l, mI_e, e_mI, l_mI, le_mI, mI_le, bI_z, nC, vnI, nI_add, nI_sb, nI_mul, a1m, qs_eq, qs_nc, qs_ni, qs_nk, bq_l, bq_r, bq_l', bq_r', bq_t, bq_f, bq_t', bq_f', bq_n, bq_m, iT, iS, iN, true_and, and_true, eq_self, not_true_eq_false, not_false_eq_true, forall_const, bx_t, bx_f, reduceCtorEq, Option.some.injEq, forall_eq', ite_true, ite_false]
    refine ⟨a, s, t, p, rfl, hS, ?_⟩
    simp (disch := first | assumption | omega) only [wp_X11_pack, wp_X11_isInn, wp_X11_within, a3, f2, l0, l1, l2, l3, l4, l5, l6, l7, l8, l9, l10, l20, l60, l61, l62, bb_t, bb_f, l100, l120, l512, l400, l401, l700, l9999, nm1, lm1, nlt, nle, neq, glt, gle, lgt, lge, geq, egq, mI_l, mI_e, e_mI, l_mI, le_mI, mI_le, bI_z, nC, vnI, nI_add, nI_sb, nI_mul, a1m, qs_eq, qs_nc, qs_ni, qs_nk, bq_l, bq_r, bq_l', bq_r', bq_t, bq_f, bq_t', bq_f', bq_n, bq_m, iT, iS, iN, true_and, and_true, eq_self, not_true_eq_false, not_false_eq_true, forall_const, bx_t, bx_f, reduceCtorEq, Option.some.injEq, forall_eq', ite_true, ite_false]
    exact no
  rcases i32c x2 with g2 | ⟨tg, h2, rfl⟩
  · simp (disch := first | assumption | omega) only [wp_X10_pack, wp_X6_hasInn, a2, f1, l0, l1, l2, l3, l4, l5, l6, l7, l8, l9, l10, l20, l60, l61, l62, bb_t, bb_f, l100, l120, l512, l400, l401, l700, l9999, nm1, lm1, nlt, nle, neq, glt, gle, lgt, lge, geq, egq, mI_l, mI_e, e_mI, l_mI, le_mI, mI_le, bI_z, nC, vnI, nI_add, nI_sb, nI_mul, a1m, qs_eq, qs_nc, qs_ni, qs_nk, bq_l, bq_r, bq_l', bq_r', bq_t, bq_f, bq_t', bq_f', bq_n, bq_m, iT, iS, iN, true_and, and_true, eq_self, not_true_eq_false, not_false_eq_true, forall_const, bx_t, bx_f, reduceCtorEq, Option.some.injEq, forall_eq', ite_true, ite_false]
    refine ⟨a, s, t, p, rfl, hS, ?_⟩
    simp (disch := first | assumption | omega) only [wp_X11_pack, wp_X11_isInn, wp_X11_within, a3, f2, l0, l1, l2, l3, l4, l5, l6, l7, l8, l9, l10, l20, l60, l61, l62, bb_t, bb_f, l100, l120, l512, l400, l401, l700, l9999, nm1, lm1, nlt, nle, neq, glt, gle, lgt, lge, geq, egq, mI_l, mI_e, e_mI, l_mI, le_mI, mI_le, bI_z, nC, vnI, nI_add, nI_sb, nI_mul, a1m, qs_eq, qs_nc, qs_ni, qs_nk, bq_l, bq_r, bq_l', bq_r', bq_t, bq_f, bq_t', bq_f', bq_n, bq_m, iT, iS, iN, true_and, and_true, eq_self, not_true_eq_false, not_false_eq_true, forall_const, bx_t, bx_f, reduceCtorEq, Option.some.injEq, forall_eq', ite_true, ite_false]
    exact no
  by_cases c2 : I ≤ tg
  · simp (disch := first | assumption | omega) only [wp_X10_pack, wp_X6_hasInn, a2, f1, l0, l1, l2, l3, l4, l5, l6, l7, l8, l9, l10, l20, l60, l61, l62, bb_t, bb_f, l100, l120, l512, l400, l401, l700, l9999, nm1, lm1, nlt, nle, neq, glt, gle, lgt, lge, geq, egq, mI_l, mI_e, e_mI, l_mI, le_mI, mI_le, bI_z, nC, vnI, nI_add, nI_sb, nI_mul, a1m, qs_eq, qs_nc, qs_ni, qs_nk, bq_l, bq_r, bq_l', bq_r', bq_t, bq_f, bq_t', bq_f', bq_n, bq_m, iT, iS, iN, true_and, and_true, eq_self, not_true_eq_false, not_false_eq_true, forall_const, bx_t, bx_f, reduceCtorEq, Option.some.injEq, forall_eq', ite_true, ite_false]
    refine ⟨a, s, t, p, rfl, hS, ?_⟩
    simp (disch := first | assumption | omega) only [wp_X11_pack, wp_X11_isInn, wp_X11_within, a3, f2, l0, l1, l2, l3, l4, l5, l6, l7, l8, l9, l10, l20, l60, l61, l62, bb_t, bb_f, l100, l120, l512, l400, l401, l700, l9999, nm1, lm1, nlt, nle, neq, glt, gle, lgt, lge, geq, egq, mI_l, mI_e, e_mI, l_mI, le_mI, mI_le, bI_z, nC, vnI, nI_add, nI_sb, nI_mul, a1m, qs_eq, qs_nc, qs_ni, qs_nk, bq_l, bq_r, bq_l', bq_r', bq_t, bq_f, bq_t', bq_f', bq_n, bq_m, iT, iS, iN, true_and, and_true, eq_self, not_true_eq_false, not_false_eq_true, forall_const, bx_t, bx_f, reduceCtorEq, Option.some.injEq, forall_eq', ite_true, ite_false]
    exact no
  by_cases c3 : r = tg
  · subst c3
    simp (disch := first | assumption | omega) only [wp_X10_pack, wp_X6_hasInn, a2, f1, l0, l1, l2, l3, l4, l5, l6, l7, l8, l9, l10, l20, l60, l61, l62, bb_t, bb_f, l100, l120, l512, l400, l401, l700, l9999, nm1, lm1, nlt, nle, neq, glt, gle, lgt, lge, geq, egq, mI_l, mI_e, e_mI, l_mI, le_mI, mI_le, bI_z, nC, vnI, nI_add, nI_sb, nI_mul, a1m, qs_eq, qs_nc, qs_ni, qs_nk, bq_l, bq_r, bq_l', bq_r', bq_t, bq_f, bq_t', bq_f', bq_n, bq_m, iT, iS, iN, true_and, and_true, eq_self, not_true_eq_false, not_false_eq_true, forall_const, bx_t, bx_f, reduceCtorEq, Option.some.injEq, forall_eq', ite_true, ite_false]
    refine ⟨a, s, t, p, rfl, hS, ?_⟩
    simp (disch := first | assumption | omega) only [wp_X11_pack, wp_X11_isInn, wp_X11_within, a3, f2, l0, l1, l2, l3, l4, l5, l6, l7, l8, l9, l10, l20, l60, l61, l62, bb_t, bb_f, l100, l120, l512, l400, l401, l700, l9999, nm1, lm1, nlt, nle, neq, glt, gle, lgt, lge, geq, egq, mI_l, mI_e, e_mI, l_mI, le_mI, mI_le, bI_z, nC, vnI, nI_add, nI_sb, nI_mul, a1m, qs_eq, qs_nc, qs_ni, qs_nk, bq_l, bq_r, bq_l', bq_r', bq_t, bq_f, bq_t', bq_f', bq_n, bq_m, iT, iS, iN, true_and, and_true, eq_self, not_true_eq_false, not_false_eq_true, forall_const, bx_t, bx_f, reduceCtorEq, Option.some.injEq, forall_eq', ite_true, ite_false]
    exact no
  rcases i32c x3 with g4 | ⟨kd, h4, rfl⟩
  · simp (disch := first | assumption | omega) only [wp_X10_pack, wp_X6_hasInn, a2, f1, l0, l1, l2, l3, l4, l5, l6, l7, l8, l9, l10, l20, l60, l61, l62, bb_t, bb_f, l100, l120, l512, l400, l401, l700, l9999, nm1, lm1, nlt, nle, neq, glt, gle, lgt, lge, geq, egq, mI_l, mI_e, e_mI, l_mI, le_mI, mI_le, bI_z, nC, vnI, nI_add, nI_sb, nI_mul, a1m, qs_eq, qs_nc, qs_ni, qs_nk, bq_l, bq_r, bq_l', bq_r', bq_t, bq_f, bq_t', bq_f', bq_n, bq_m, iT, iS, iN, true_and, and_true, eq_self, not_true_eq_false, not_false_eq_true, forall_const, bx_t, bx_f, reduceCtorEq, Option.some.injEq, forall_eq', ite_true, ite_false]
    refine ⟨a, s, t, p, rfl, hS, ?_⟩
    simp (disch := first | assumption | omega) only [wp_X11_pack, wp_X11_isInn, wp_X11_within, a3, f2, l0, l1, l2, l3, l4, l5, l6, l7, l8, l9, l10, l20, l60, l61, l62, bb_t, bb_f, l100, l120, l512, l400, l401, l700, l9999, nm1, lm1, nlt, nle, neq, glt, gle, lgt, lge, geq, egq, mI_l, mI_e, e_mI, l_mI, le_mI, mI_le, bI_z, nC, vnI, nI_add, nI_sb, nI_mul, a1m, qs_eq, qs_nc, qs_ni, qs_nk, bq_l, bq_r, bq_l', bq_r', bq_t, bq_f, bq_t', bq_f', bq_n, bq_m, iT, iS, iN, true_and, and_true, eq_self, not_true_eq_false, not_false_eq_true, forall_const, bx_t, bx_f, reduceCtorEq, Option.some.injEq, forall_eq', ite_true, ite_false]
    exact no
  by_cases c4 : 3 < kd
  · simp (disch := first | assumption | omega) only [wp_X10_pack, wp_X6_hasInn, a2, f1, l0, l1, l2, l3, l4, l5, l6, l7, l8, l9, l10, l20, l60, l61, l62, bb_t, bb_f, l100, l120, l512, l400, l401, l700, l9999, nm1, lm1, nlt, nle, neq, glt, gle, lgt, lge, geq, egq, mI_l, mI_e, e_mI, l_mI, le_mI, mI_le, bI_z, nC, vnI, nI_add, nI_sb, nI_mul, a1m, qs_eq, qs_nc, qs_ni, qs_nk, bq_l, bq_r, bq_l', bq_r', bq_t, bq_f, bq_t', bq_f', bq_n, bq_m, iT, iS, iN, true_and, and_true, eq_self, not_true_eq_false, not_false_eq_true, forall_const, bx_t, bx_f, reduceCtorEq, Option.some.injEq, forall_eq', ite_true, ite_false]
    refine ⟨a, s, t, p, rfl, hS, ?_⟩
    simp (disch := first | assumption | omega) only [wp_X11_pack, wp_X11_isInn, wp_X11_within, a3, f2, l0, l1, l2, l3, l4, l5, l6, l7, l8, l9, l10, l20, l60, l61, l62, bb_t, bb_f, l100, l120, l512, l400, l401, l700, l9999, nm1, lm1, nlt, nle, neq, glt, gle, lgt, lge, geq, egq, mI_l, mI_e, e_mI, l_mI, le_mI, mI_le, bI_z, nC, vnI, nI_add, nI_sb, nI_mul, a1m, qs_eq, qs_nc, qs_ni, qs_nk, bq_l, bq_r, bq_l', bq_r', bq_t, bq_f, bq_t', bq_f', bq_n, bq_m, iT, iS, iN, true_and, and_true, eq_self, not_true_eq_false, not_false_eq_true, forall_const, bx_t, bx_f, reduceCtorEq, Option.some.injEq, forall_eq', ite_true, ite_false]
    exact no
  rcases i32c x4 with g5 | ⟨wt, h5, rfl⟩
  · simp (disch := first | assumption | omega) only [wp_X10_pack, wp_X6_hasInn, a2, f1, l0, l1, l2, l3, l4, l5, l6, l7, l8, l9, l10, l20, l60, l61, l62, bb_t, bb_f, l100, l120, l512, l400, l401, l700, l9999, nm1, lm1, nlt, nle, neq, glt, gle, lgt, lge, geq, egq, mI_l, mI_e, e_mI, l_mI, le_mI, mI_le, bI_z, nC, vnI, nI_add, nI_sb, nI_mul, a1m, qs_eq, qs_nc, qs_ni, qs_nk, bq_l, bq_r, bq_l', bq_r', bq_t, bq_f, bq_t', bq_f', bq_n, bq_m, iT, iS, iN, true_and, and_true, eq_self, not_true_eq_false, not_false_eq_true, forall_const, bx_t, bx_f, reduceCtorEq, Option.some.injEq, forall_eq', ite_true, ite_false]
    refine ⟨a, s, t, p, rfl, hS, ?_⟩
    simp (disch := first | assumption | omega) only [wp_X11_pack, wp_X11_isInn, wp_X11_within, a3, f2, l0, l1, l2, l3, l4, l5, l6, l7, l8, l9, l10, l20, l60, l61, l62, bb_t, bb_f, l100, l120, l512, l400, l401, l700, l9999, nm1, lm1, nlt, nle, neq, glt, gle, lgt, lge, geq, egq, mI_l, mI_e, e_mI, l_mI, le_mI, mI_le, bI_z, nC, vnI, nI_add, nI_sb, nI_mul, a1m, qs_eq, qs_nc, qs_ni, qs_nk, bq_l, bq_r, bq_l', bq_r', bq_t, bq_f, bq_t', bq_f', bq_n, bq_m, iT, iS, iN, true_and, and_true, eq_self, not_true_eq_false, not_false_eq_true, forall_const, bx_t, bx_f, reduceCtorEq, Option.some.injEq, forall_eq', ite_true, ite_false]
    exact no
  by_cases c5 : wt < 1
  · simp (disch := first | assumption | omega) only [wp_X10_pack, wp_X6_hasInn, a2, f1, l0, l1, l2, l3, l4, l5, l6, l7, l8, l9, l10, l20, l60, l61, l62, bb_t, bb_f, l100, l120, l512, l400, l401, l700, l9999, nm1, lm1, nlt, nle, neq, glt, gle, lgt, lge, geq, egq, mI_l, mI_e, e_mI, l_mI, le_mI, mI_le, bI_z, nC, vnI, nI_add, nI_sb, nI_mul, a1m, qs_eq, qs_nc, qs_ni, qs_nk, bq_l, bq_r, bq_l', bq_r', bq_t, bq_f, bq_t', bq_f', bq_n, bq_m, iT, iS, iN, true_and, and_true, eq_self, not_true_eq_false, not_false_eq_true, forall_const, bx_t, bx_f, reduceCtorEq, Option.some.injEq, forall_eq', ite_true, ite_false]
    refine ⟨a, s, t, p, rfl, hS, ?_⟩
    simp (disch := first | assumption | omega) only [wp_X11_pack, wp_X11_isInn, wp_X11_within, a3, f2, l0, l1, l2, l3, l4, l5, l6, l7, l8, l9, l10, l20, l60, l61, l62, bb_t, bb_f, l100, l120, l512, l400, l401, l700, l9999, nm1, lm1, nlt, nle, neq, glt, gle, lgt, lge, geq, egq, mI_l, mI_e, e_mI, l_mI, le_mI, mI_le, bI_z, nC, vnI, nI_add, nI_sb, nI_mul, a1m, qs_eq, qs_nc, qs_ni, qs_nk, bq_l, bq_r, bq_l', bq_r', bq_t, bq_f, bq_t', bq_f', bq_n, bq_m, iT, iS, iN, true_and, and_true, eq_self, not_true_eq_false, not_false_eq_true, forall_const, bx_t, bx_f, reduceCtorEq, Option.some.injEq, forall_eq', ite_true, ite_false]
    exact no
  by_cases c6 : 60 < wt
  · simp (disch := first | assumption | omega) only [wp_X10_pack, wp_X6_hasInn, a2, f1, l0, l1, l2, l3, l4, l5, l6, l7, l8, l9, l10, l20, l60, l61, l62, bb_t, bb_f, l100, l120, l512, l400, l401, l700, l9999, nm1, lm1, nlt, nle, neq, glt, gle, lgt, lge, geq, egq, mI_l, mI_e, e_mI, l_mI, le_mI, mI_le, bI_z, nC, vnI, nI_add, nI_sb, nI_mul, a1m, qs_eq, qs_nc, qs_ni, qs_nk, bq_l, bq_r, bq_l', bq_r', bq_t, bq_f, bq_t', bq_f', bq_n, bq_m, iT, iS, iN, true_and, and_true, eq_self, not_true_eq_false, not_false_eq_true, forall_const, bx_t, bx_f, reduceCtorEq, Option.some.injEq, forall_eq', ite_true, ite_false]
    refine ⟨a, s, t, p, rfl, hS, ?_⟩
    simp (disch := first | assumption | omega) only [wp_X11_pack, wp_X11_isInn, wp_X11_within, a3, f2, l0, l1, l2, l3, l4, l5, l6, l7, l8, l9, l10, l20, l60, l61, l62, bb_t, bb_f, l100, l120, l512, l400, l401, l700, l9999, nm1, lm1, nlt, nle, neq, glt, gle, lgt, lge, geq, egq, mI_l, mI_e, e_mI, l_mI, le_mI, mI_le, bI_z, nC, vnI, nI_add, nI_sb, nI_mul, a1m, qs_eq, qs_nc, qs_ni, qs_nk, bq_l, bq_r, bq_l', bq_r', bq_t, bq_f, bq_t', bq_f', bq_n, bq_m, iT, iS, iN, true_and, and_true, eq_self, not_true_eq_false, not_false_eq_true, forall_const, bx_t, bx_f, reduceCtorEq, Option.some.injEq, forall_eq', ite_true, ite_false]
    exact no
  by_cases c7 : p = 100
  · subst c7
    simp (disch := first | assumption | omega) only [wp_X10_pack, wp_X6_hasInn, a2, f1, l0, l1, l2, l3, l4, l5, l6, l7, l8, l9, l10, l20, l60, l61, l62, bb_t, bb_f, l100, l120, l512, l400, l401, l700, l9999, nm1, lm1, nlt, nle, neq, glt, gle, lgt, lge, geq, egq, mI_l, mI_e, e_mI, l_mI, le_mI, mI_le, bI_z, nC, vnI, nI_add, nI_sb, nI_mul, a1m, qs_eq, qs_nc, qs_ni, qs_nk, bq_l, bq_r, bq_l', bq_r', bq_t, bq_f, bq_t', bq_f', bq_n, bq_m, iT, iS, iN, true_and, and_true, eq_self, not_true_eq_false, not_false_eq_true, forall_const, bx_t, bx_f, reduceCtorEq, Option.some.injEq, forall_eq', ite_true, ite_false]
    refine ⟨a, s, t, 100, rfl, hS, ?_⟩
    simp (disch := first | assumption | omega) only [wp_X11_pack, wp_X11_isInn, wp_X11_within, a3, f2, l0, l1, l2, l3, l4, l5, l6, l7, l8, l9, l10, l20, l60, l61, l62, bb_t, bb_f, l100, l120, l512, l400, l401, l700, l9999, nm1, lm1, nlt, nle, neq, glt, gle, lgt, lge, geq, egq, mI_l, mI_e, e_mI, l_mI, le_mI, mI_le, bI_z, nC, vnI, nI_add, nI_sb, nI_mul, a1m, qs_eq, qs_nc, qs_ni, qs_nk, bq_l, bq_r, bq_l', bq_r', bq_t, bq_f, bq_t', bq_f', bq_n, bq_m, iT, iS, iN, true_and, and_true, eq_self, not_true_eq_false, not_false_eq_true, forall_const, bx_t, bx_f, reduceCtorEq, Option.some.injEq, forall_eq', ite_true, ite_false]
    exact no
  have m0 := hG.1
  have m1 := hG.2.1
  have m2 := hG.2.2.1
  have es : s.2 4 = p := hS.2.2.2.2.2.2.2.2.2.1
  have hS' : q_Sh t (p + 1) (q_pk1 (a, s) (nI r) (nI tg) (nI kd) (nI wt)).2 := q_Sh_pack hS (by omega) (by rw [f1, nC (by omega)]) _ _ _ _
  simp (disch := first | assumption | omega) only [wp_X10_pack, wp_X6_hasInn, a2, f1, l0, l1, l2, l3, l4, l5, l6, l7, l8, l9, l10, l20, l60, l61, l62, bb_t, bb_f, l100, l120, l512, l400, l401, l700, l9999, nm1, lm1, nlt, nle, neq, glt, gle, lgt, lge, geq, egq, mI_l, mI_e, e_mI, l_mI, le_mI, mI_le, bI_z, nC, vnI, nI_add, nI_sb, nI_mul, a1m, qs_eq, qs_nc, qs_ni, qs_nk, bq_l, bq_r, bq_l', bq_r', bq_t, bq_f, bq_t', bq_f', bq_n, bq_m, iT, iS, iN, true_and, and_true, eq_self, not_true_eq_false, not_false_eq_true, forall_const, bx_t, bx_f, reduceCtorEq, Option.some.injEq, forall_eq', ite_true, ite_false]
  refine ⟨hS', fun h3 hh => ?_⟩
  have zu : ∀ c i n, c ≠ 4 → h3.1 c i n = a c i n := fun c i n h => by rw [hh]; exact pk1_u h
  have z4 : ∀ i n, i ≠ p → h3.1 4 i n = a 4 i n := fun i n h => by rw [hh]; exact pk1_i (by rw [es]; exact h)
  obtain ⟨v0, v1, v2, v3, v4, v5, v8, v9⟩ := pk1_v (a := a) (s := s) (x1 := nI r) (x2 := nI tg) (x3 := nI kd) (x4 := nI wt)
  rw [← hh, es] at v0 v1 v2 v3 v4 v5 v8 v9
  rw [← hh] at hS'
  clear hh
  obtain ⟨z, s3⟩ := h3
  have e109 : z 10 0 9 = nI p := (zu 10 0 9 (by decide)).trans f1
  have e1012 : z 10 0 12 = nI Hh := (zu 10 0 12 (by decide)).trans hC.2.1
  have e203 : z 2 0 3 = nI M := (zu 2 0 3 (by decide)).trans m1
  have e112 : z 11 0 2 = nI I := (zu 11 0 2 (by decide)).trans a3
  have e111 : z 11 0 1 = nI Hh := (zu 11 0 1 (by decide)).trans hC.2.2
  have e1120 : z 11 0 20 = nI p := (zu 11 0 20 (by decide)).trans f2
  have e1131 : z 11 0 31 = nI M := (zu 11 0 31 (by decide)).trans m2
  have zu' : ∀ c i n, c ≠ 4 → z c i n = a c i n := zu
  have z4' : ∀ i n, i ≠ p → z 4 i n = a 4 i n := z4
  have v0' : z 4 p 0 = nI kd := v0
  have v1' : z 4 p 1 = nI wt := v1
  have v2' : z 4 p 2 = nI tg := v2
  have v3' : z 4 p 3 = nI Hh := v3.trans hC.2.1
  have v4' : z 4 p 4 = nI 0 := v4
  have v5' : z 4 p 5 = nI r := v5
  have v8' : z 4 p 8 = nI 0 := v8
  have v9' : z 4 p 9 = nI 0 := v9
  clear zu z4 v0 v1 v2 v3 v4 v5 v8 v9
  simp (disch := first | assumption | omega) only [wp_X2_add, e109, e1012, e203, l0, l1, l2, l3, l4, l5, l6, l7, l8, l9, l10, l20, l60, l61, l62, bb_t, bb_f, l100, l120, l512, l400, l401, l700, l9999, nm1, lm1, nlt, nle, neq, glt, gle, lgt, lge, geq, egq, mI_l, mI_e, e_mI, l_mI, le_mI, mI_le, bI_z, nC, vnI, nI_add, nI_sb, nI_mul, a1m, qs_eq, qs_nc, qs_ni, qs_nk, bq_l, bq_r, bq_l', bq_r', bq_t, bq_f, bq_t', bq_f', bq_n, bq_m, iT, iS, iN, true_and, and_true, eq_self, not_true_eq_false, not_false_eq_true, forall_const, bx_t, bx_f, reduceCtorEq, Option.some.injEq, forall_eq', ite_true, ite_false]
  refine ⟨qs (qs (qs (qs (qs z 22 0 M (nI p)) 23 0 M (nI Hh)) 24 0 M (nI r)) 2 0 3 (nI (M + 1))) 10 0 9 (nI (p + 1)), s3, t, p + 1, rfl, hS', ?_⟩
  simp (disch := first | assumption | omega) only [wp_X11_pack, wp_X11_isInn, wp_X11_within, wp_X11_change, e112, e111, e1120, e1131, l0, l1, l2, l3, l4, l5, l6, l7, l8, l9, l10, l20, l60, l61, l62, bb_t, bb_f, l100, l120, l512, l400, l401, l700, l9999, nm1, lm1, nlt, nle, neq, glt, gle, lgt, lge, geq, egq, mI_l, mI_e, e_mI, l_mI, le_mI, mI_le, bI_z, nC, vnI, nI_add, nI_sb, nI_mul, a1m, qs_eq, qs_nc, qs_ni, qs_nk, bq_l, bq_r, bq_l', bq_r', bq_t, bq_f, bq_t', bq_f', bq_n, bq_m, iT, iS, iN, true_and, and_true, eq_self, not_true_eq_false, not_false_eq_true, forall_const, bx_t, bx_f, reduceCtorEq, Option.some.injEq, forall_eq', ite_true, ite_false]
  refine ⟨by omega, ?_⟩
  refine pack_inv (r := r) (tg := tg) (kd := kd) (wt := wt) (M := M) (by omega) hA hB hC hD hE hF hG hH hT hJ (by omega) (by omega) c3 (by omega) (by omega) (by omega) ?_ ?_ ?_ ?_ ?_ ?_ ?_ ?_ ?_ ?_ ?_ ?_ ?_ ?_ ?_ ?_ ?_ ?_ ?_ ?_ ?_ ?_ ?_ ?_ ?_ ?_ ?_ ?_ ?_
  · intro c k1 k2 k3 k4 k5 k6 k7 k8 k9 k10 k11 k12 k13 k14 k15 k16 k17
    funext m n
    simp (disch := first | assumption | omega) only [l0, l1, l2, l3, l4, l5, l6, l7, l8, l9, l10, l20, l60, l61, l62, bb_t, bb_f, l100, l120, l512, l400, l401, l700, l9999, nm1, lm1, nlt, nle, neq, glt, gle, lgt, lge, geq, egq, mI_l, mI_e, e_mI, l_mI, le_mI, mI_le, bI_z, nC, vnI, nI_add, nI_sb, nI_mul, a1m, qs_eq, qs_nc, qs_ni, qs_nk, bq_l, bq_r, bq_l', bq_r', bq_t, bq_f, bq_t', bq_f', bq_n, bq_m, iT, iS, iN, true_and, and_true, eq_self, not_true_eq_false, not_false_eq_true, forall_const, bx_t, bx_f, reduceCtorEq, Option.some.injEq, forall_eq', ite_true, ite_false]
    exact zu' c m n k2
  · intro n hn
    simp (disch := first | assumption | omega) only [l0, l1, l2, l3, l4, l5, l6, l7, l8, l9, l10, l20, l60, l61, l62, bb_t, bb_f, l100, l120, l512, l400, l401, l700, l9999, nm1, lm1, nlt, nle, neq, glt, gle, lgt, lge, geq, egq, mI_l, mI_e, e_mI, l_mI, le_mI, mI_le, bI_z, nC, vnI, nI_add, nI_sb, nI_mul, a1m, qs_eq, qs_nc, qs_ni, qs_nk, bq_l, bq_r, bq_l', bq_r', bq_t, bq_f, bq_t', bq_f', bq_n, bq_m, iT, iS, iN, true_and, and_true, eq_self, not_true_eq_false, not_false_eq_true, forall_const, bx_t, bx_f, reduceCtorEq, Option.some.injEq, forall_eq', ite_true, ite_false]
    exact zu' 10 0 n (by decide)
  · simp (disch := first | assumption | omega) only [l0, l1, l2, l3, l4, l5, l6, l7, l8, l9, l10, l20, l60, l61, l62, bb_t, bb_f, l100, l120, l512, l400, l401, l700, l9999, nm1, lm1, nlt, nle, neq, glt, gle, lgt, lge, geq, egq, mI_l, mI_e, e_mI, l_mI, le_mI, mI_le, bI_z, nC, vnI, nI_add, nI_sb, nI_mul, a1m, qs_eq, qs_nc, qs_ni, qs_nk, bq_l, bq_r, bq_l', bq_r', bq_t, bq_f, bq_t', bq_f', bq_n, bq_m, iT, iS, iN, true_and, and_true, eq_self, not_true_eq_false, not_false_eq_true, forall_const, bx_t, bx_f, reduceCtorEq, Option.some.injEq, forall_eq', ite_true, ite_false]
  · intro n n0 n1 n2
    simp (disch := first | assumption | omega) only [l0, l1, l2, l3, l4, l5, l6, l7, l8, l9, l10, l20, l60, l61, l62, bb_t, bb_f, l100, l120, l512, l400, l401, l700, l9999, nm1, lm1, nlt, nle, neq, glt, gle, lgt, lge, geq, egq, mI_l, mI_e, e_mI, l_mI, le_mI, mI_le, bI_z, nC, vnI, nI_add, nI_sb, nI_mul, a1m, qs_eq, qs_nc, qs_ni, qs_nk, bq_l, bq_r, bq_l', bq_r', bq_t, bq_f, bq_t', bq_f', bq_n, bq_m, iT, iS, iN, true_and, and_true, eq_self, not_true_eq_false, not_false_eq_true, forall_const, bx_t, bx_f, reduceCtorEq, Option.some.injEq, forall_eq', ite_true, ite_false]
    exact zu' 11 0 n (by decide)
  · simp (disch := first | assumption | omega) only [l0, l1, l2, l3, l4, l5, l6, l7, l8, l9, l10, l20, l60, l61, l62, bb_t, bb_f, l100, l120, l512, l400, l401, l700, l9999, nm1, lm1, nlt, nle, neq, glt, gle, lgt, lge, geq, egq, mI_l, mI_e, e_mI, l_mI, le_mI, mI_le, bI_z, nC, vnI, nI_add, nI_sb, nI_mul, a1m, qs_eq, qs_nc, qs_ni, qs_nk, bq_l, bq_r, bq_l', bq_r', bq_t, bq_f, bq_t', bq_f', bq_n, bq_m, iT, iS, iN, true_and, and_true, eq_self, not_true_eq_false, not_false_eq_true, forall_const, bx_t, bx_f, reduceCtorEq, Option.some.injEq, forall_eq', ite_true, ite_false]
  · intro q n hq
    simp (disch := first | assumption | omega) only [l0, l1, l2, l3, l4, l5, l6, l7, l8, l9, l10, l20, l60, l61, l62, bb_t, bb_f, l100, l120, l512, l400, l401, l700, l9999, nm1, lm1, nlt, nle, neq, glt, gle, lgt, lge, geq, egq, mI_l, mI_e, e_mI, l_mI, le_mI, mI_le, bI_z, nC, vnI, nI_add, nI_sb, nI_mul, a1m, qs_eq, qs_nc, qs_ni, qs_nk, bq_l, bq_r, bq_l', bq_r', bq_t, bq_f, bq_t', bq_f', bq_n, bq_m, iT, iS, iN, true_and, and_true, eq_self, not_true_eq_false, not_false_eq_true, forall_const, bx_t, bx_f, reduceCtorEq, Option.some.injEq, forall_eq', ite_true, ite_false]
    exact z4' q n hq
  · exact v0'
  · exact v1'
  · exact v2'
  · exact v3'
  · exact v4'
  · exact v5'
  · exact v8'
  · exact v9'
  all_goals first
    | (intro m; simp (disch := decide) only [qs_nc, qsr, zu']; done)
    | (simp (disch := decide) only [qs_nc, qs_nk, qs_eq]; done)
    | skip
