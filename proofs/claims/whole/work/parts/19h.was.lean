def mvB (a : qa) (x1 x2 : Int32) (j : Nat) : Bool := decide (a 65 0 j = x1 ∧ ¬ x2 < a 66 0 j)
theorem mvB_t {a : qa} {x1 x2 : Int32} {j : Nat} (h1 : a 65 0 j = x1) (h2 : ¬ x2 < a 66 0 j) : mvB a x1 x2 j = true := decide_eq_true ⟨h1, h2⟩
theorem mvB_1 {a : qa} {x1 x2 : Int32} {j : Nat} (h1 : ¬ a 65 0 j = x1) : ¬ mvB a x1 x2 j = true := fun q => h1 (of_decide_eq_true q).1
theorem mvB_2 {a : qa} {x1 x2 : Int32} {j : Nat} (h1 : x2 < a 66 0 j) : ¬ mvB a x1 x2 j = true := fun q => (of_decide_eq_true q).2 h1
theorem sl_X11_was {t p M : Nat} {a : qa} {x1 x2 : Int32} {post : Int32 → qa → Prop} (hM : M ≤ 512) (h31 : a 11 0 31 = nI M) (kk : post (lstV (mvB a x1 x2) (a 67 0) M) a) : ∀ (m j : Nat), j + m = M → wl_X11_was_37 t p post (m + 1) x1 x2 (lstV (mvB a x1 x2) (a 67 0) j) (nI j) a := by
  intro m
  induction m with
  | zero =>
    intro j hj
    obtain rfl : j = M := by omega
    simp (disch := first | assumption | omega) only [wl_X11_was_37, h31, l0, l1, l2, l3, l4, l5, l6, l7, l8, l9, l10, l20, l60, l61, l62, bb_t, bb_f, l100, l120, l512, l400, l401, l700, l9999, nm1, lm1, nlt, nle, neq, glt, gle, lgt, lge, geq, egq, mI_l, mI_e, e_mI, l_mI, le_mI, mI_le, bI_z, nC, vnI, nI_add, nI_sb, nI_mul, a1m, qs_eq, qs_nc, qs_ni, qs_nk, bq_l, bq_r, bq_l', bq_r', bq_t, bq_f, bq_t', bq_f', bq_n, bq_m, iT, iS, iN, true_and, and_true, eq_self, not_true_eq_false, not_false_eq_true, forall_const, bx_t, bx_f, reduceCtorEq, Option.some.injEq, forall_eq', ite_true, ite_false]
    exact kk
  | succ m ih =>
    intro j hj
    have ih' := ih (j + 1) (by omega)
    simp only [lstV] at ih'
    unfold wl_X11_was_37
    simp (disch := first | assumption | omega) only [h31, l0, l1, l2, l3, l4, l5, l6, l7, l8, l9, l10, l20, l60, l61, l62, bb_t, bb_f, l100, l120, l512, l400, l401, l700, l9999, nm1, lm1, nlt, nle, neq, glt, gle, lgt, lge, geq, egq, mI_l, mI_e, e_mI, l_mI, le_mI, mI_le, bI_z, nC, vnI, nI_add, nI_sb, nI_mul, a1m, qs_eq, qs_nc, qs_ni, qs_nk, bq_l, bq_r, bq_l', bq_r', bq_t, bq_f, bq_t', bq_f', bq_n, bq_m, iT, iS, iN, true_and, and_true, eq_self, not_true_eq_false, not_false_eq_true, forall_const, bx_t, bx_f, reduceCtorEq, Option.some.injEq, forall_eq', ite_true, ite_false]
    refine ⟨fun c => ?_, fun c => ⟨fun d => ?_, fun d => ?_⟩⟩
    · rw [if_neg (mvB_1 c)] at ih'
      exact ih'
    · rw [if_neg (mvB_2 d)] at ih'
      exact ih'
    · rw [if_pos (mvB_t c d)] at ih'
      exact ih'
theorem sl_X2_placeOf {t p M : Nat} {a : qa} {x1 x2 : Int32} {post : Int32 → qa → Prop} (hM : M ≤ 512) (e1 : ∀ j, j < M → a 22 0 j = a 65 0 j) (e2 : ∀ j, j < M → a 23 0 j = a 66 0 j) (e3 : ∀ j, j < M → a 24 0 j = a 67 0 j) (kk : post (lstV (mvB a x1 x2) (a 67 0) M) a) : ∀ (m : Nat), m ≤ M → lstV (mvB a x1 x2) (a 67 0) m = lstV (mvB a x1 x2) (a 67 0) M → wl_X2_placeOf_7 t p post (m + 1) x1 x2 (nI m - nI 1) a := by
  intro m
  induction m with
  | zero =>
    intro hj he
    unfold wl_X2_placeOf_7
    simp (disch := first | assumption | omega) only [z1, l0, l1, l2, l3, l4, l5, l6, l7, l8, l9, l10, l20, l60, l61, l62, bb_t, bb_f, l100, l120, l512, l400, l401, l700, l9999, nm1, lm1, nlt, nle, neq, glt, gle, lgt, lge, geq, egq, mI_l, mI_e, e_mI, l_mI, le_mI, mI_le, bI_z, nC, vnI, nI_add, nI_sb, nI_mul, a1m, qs_eq, qs_nc, qs_ni, qs_nk, bq_l, bq_r, bq_l', bq_r', bq_t, bq_f, bq_t', bq_f', bq_n, bq_m, iT, iS, iN, true_and, and_true, eq_self, not_true_eq_false, not_false_eq_true, forall_const, bx_t, bx_f, reduceCtorEq, Option.some.injEq, forall_eq', ite_true, ite_false]
    rw [← he] at kk
    exact kk
  | succ m ih =>
    intro hj he
    simp only [lstV] at he
    unfold wl_X2_placeOf_7
    have e0 : nI (m + 1) - nI 1 = nI m := nI_pred m
    have em : nI m + mI = nI m - nI 1 := (Int32.sub_eq_add_neg (nI m) (nI 1)).symm
    rw [e0]
    simp (disch := first | assumption | omega) only [e1, e2, e3, l0, l1, l2, l3, l4, l5, l6, l7, l8, l9, l10, l20, l60, l61, l62, bb_t, bb_f, l100, l120, l512, l400, l401, l700, l9999, nm1, lm1, nlt, nle, neq, glt, gle, lgt, lge, geq, egq, mI_l, mI_e, e_mI, l_mI, le_mI, mI_le, bI_z, nC, vnI, nI_add, nI_sb, nI_mul, a1m, qs_eq, qs_nc, qs_ni, qs_nk, bq_l, bq_r, bq_l', bq_r', bq_t, bq_f, bq_t', bq_f', bq_n, bq_m, iT, iS, iN, true_and, and_true, eq_self, not_true_eq_false, not_false_eq_true, forall_const, bx_t, bx_f, reduceCtorEq, Option.some.injEq, forall_eq', ite_true, ite_false]
    refine ⟨fun c => ?_, fun c => ⟨fun d => ?_, fun d => ?_⟩⟩
    · rw [if_neg (mvB_1 c)] at he
      rw [em]
      exact ih (by omega) he
    · rw [if_neg (mvB_2 d)] at he
      rw [em]
      exact ih (by omega) he
    · rw [if_pos (mvB_t c d)] at he
      rw [he]
      exact kk
theorem lstV_m {f : Nat → Bool} {v : Nat → Int32} : ∀ n, (∀ j, j < n → f j = false) → lstV f v n = mI := by
  intro n
  induction n with
  | zero => intro _; rfl
  | succ n ih =>
    intro h
    unfold lstV
    rw [if_neg (by rw [h n (by omega)]; decide)]
    exact ih (fun j hj => h j (by omega))
set_option maxHeartbeats 8000000 in
theorem pr_was : ob_was Inv := by
  intro t p k a x1 x2 hk ht hp hI
  obtain ⟨I, S, Hh, B, T, M, hA, hB, hC, hD, hE, hF, hG, hH, hT, hJ⟩ := id hI
  have no : Inv t p (k + 1) (qs a 11 0 0 0) := hI.th 0
  have h20 := hF.2.1
  have h20' : (qs a 11 0 0 (nI 0)) 11 0 20 = nI p := hF.2.1
  have h31' : (qs a 11 0 0 (nI 0)) 11 0 31 = nI M := hG.2.2.1
  have hM : M ≤ 512 := by have := hG.1; omega
  have c1 := hC.1
  have c2 := hC.2.1
  have c3 := hC.2.2
  unfold wp_X10_was
  rcases inN x1 p with ⟨i, hi, rfl⟩ | hx
  · refine sp_packAt hp hi hF.1 ?_
    obtain ⟨g1, g2, g3, g4, g5, g6, g7, g8, g9, ⟨cc, hcc, g10⟩, g11⟩ := hF.2.2 i hi
    rcases i32c x2 with g1 | ⟨y, hy, rfl⟩
    · simp (disch := first | assumption | omega) only [wp_X11_was, wp_X11_isPack, wp_X11_within, h20, c2, c3, g10, l0, l1, l2, l3, l4, l5, l6, l7, l8, l9, l10, l20, l60, l61, l62, bb_t, bb_f, l100, l120, l512, l400, l401, l700, l9999, nm1, lm1, nlt, nle, neq, glt, gle, lgt, lge, geq, egq, mI_l, mI_e, e_mI, l_mI, le_mI, mI_le, bI_z, nC, vnI, nI_add, nI_sb, nI_mul, a1m, qs_eq, qs_nc, qs_ni, qs_nk, bq_l, bq_r, bq_l', bq_r', bq_t, bq_f, bq_t', bq_f', bq_n, bq_m, iT, iS, iN, true_and, and_true, eq_self, not_true_eq_false, not_false_eq_true, forall_const, bx_t, bx_f, reduceCtorEq, Option.some.injEq, forall_eq', ite_true, ite_false]
      exact no
    by_cases d1 : Hh < y
    · by_cases d2 : y < cc
      · omega
      · simp (disch := first | assumption | omega) only [wp_X11_was, wp_X11_isPack, wp_X11_within, h20, c2, c3, g10, l0, l1, l2, l3, l4, l5, l6, l7, l8, l9, l10, l20, l60, l61, l62, bb_t, bb_f, l100, l120, l512, l400, l401, l700, l9999, nm1, lm1, nlt, nle, neq, glt, gle, lgt, lge, geq, egq, mI_l, mI_e, e_mI, l_mI, le_mI, mI_le, bI_z, nC, vnI, nI_add, nI_sb, nI_mul, a1m, qs_eq, qs_nc, qs_ni, qs_nk, bq_l, bq_r, bq_l', bq_r', bq_t, bq_f, bq_t', bq_f', bq_n, bq_m, iT, iS, iN, true_and, and_true, eq_self, not_true_eq_false, not_false_eq_true, forall_const, bx_t, bx_f, reduceCtorEq, Option.some.injEq, forall_eq', ite_true, ite_false]
        exact no
    simp (disch := first | assumption | omega) only [c2, l0, l1, l2, l3, l4, l5, l6, l7, l8, l9, l10, l20, l60, l61, l62, bb_t, bb_f, l100, l120, l512, l400, l401, l700, l9999, nm1, lm1, nlt, nle, neq, glt, gle, lgt, lge, geq, egq, mI_l, mI_e, e_mI, l_mI, le_mI, mI_le, bI_z, nC, vnI, nI_add, nI_sb, nI_mul, a1m, qs_eq, qs_nc, qs_ni, qs_nk, bq_l, bq_r, bq_l', bq_r', bq_t, bq_f, bq_t', bq_f', bq_n, bq_m, iT, iS, iN, true_and, and_true, eq_self, not_true_eq_false, not_false_eq_true, forall_const, bx_t, bx_f, reduceCtorEq, Option.some.injEq, forall_eq', ite_true, ite_false]
    refine ⟨M + 1, ?_⟩
    rw [hG.2.1]
    refine sl_X2_placeOf hM (fun j hj => (hG.2.2.2 j hj).1) (fun j hj => (hG.2.2.2 j hj).2.1) (fun j hj => (hG.2.2.2 j hj).2.2.1) ?_ M (Nat.le_refl M) rfl
    by_cases d2 : y < cc
    · have hz : lstV (mvB a (nI i) (nI y)) (a 67 0) M = mI := by
        refine lstV_m M (fun j hj => ?_)
        obtain ⟨_, _, _, q, c, h, q1, q2, q3, q4, q5, q6⟩ := hG.2.2.2 j hj
        unfold mvB
        rw [decide_eq_false_iff_not]
        intro w
        have w1 := w.1
        rw [q2, neq (by omega) (by omega)] at w1
        subst w1
        rw [q3, neq (by omega) (by omega)] at g10
        subst g10
        refine w.2 ?_
        rw [q4, nlt (by omega) (by omega)]
        omega
      rw [hz]
      simp (disch := first | assumption | omega) only [wp_X11_was, wp_X11_isPack, wp_X11_within, h20, c2, c3, g10, l0, l1, l2, l3, l4, l5, l6, l7, l8, l9, l10, l20, l60, l61, l62, bb_t, bb_f, l100, l120, l512, l400, l401, l700, l9999, nm1, lm1, nlt, nle, neq, glt, gle, lgt, lge, geq, egq, mI_l, mI_e, e_mI, l_mI, le_mI, mI_le, bI_z, nC, vnI, nI_add, nI_sb, nI_mul, a1m, qs_eq, qs_nc, qs_ni, qs_nk, bq_l, bq_r, bq_l', bq_r', bq_t, bq_f, bq_t', bq_f', bq_n, bq_m, iT, iS, iN, true_and, and_true, eq_self, not_true_eq_false, not_false_eq_true, forall_const, bx_t, bx_f, reduceCtorEq, Option.some.injEq, forall_eq', ite_true, ite_false]
      exact no
    · simp (disch := first | assumption | omega) only [wp_X11_was, wp_X11_isPack, wp_X11_within, h20, c2, c3, g10, l0, l1, l2, l3, l4, l5, l6, l7, l8, l9, l10, l20, l60, l61, l62, bb_t, bb_f, l100, l120, l512, l400, l401, l700, l9999, nm1, lm1, nlt, nle, neq, glt, gle, lgt, lge, geq, egq, mI_l, mI_e, e_mI, l_mI, le_mI, mI_le, bI_z, nC, vnI, nI_add, nI_sb, nI_mul, a1m, qs_eq, qs_nc, qs_ni, qs_nk, bq_l, bq_r, bq_l', bq_r', bq_t, bq_f, bq_t', bq_f', bq_n, bq_m, iT, iS, iN, true_and, and_true, eq_self, not_true_eq_false, not_false_eq_true, forall_const, bx_t, bx_f, reduceCtorEq, Option.some.injEq, forall_eq', ite_true, ite_false]
      exact ⟨M + 1, sl_X11_was hM h31' ⟨rfl, no⟩ M 0 (by omega)⟩
  · refine sp_packAt0 hp hx hF.1 ?_
    simp (disch := first | assumption | omega) only [wp_X11_was, l0, l1, l2, l3, l4, l5, l6, l7, l8, l9, l10, l20, l60, l61, l62, bb_t, bb_f, l100, l120, l512, l400, l401, l700, l9999, nm1, lm1, nlt, nle, neq, glt, gle, lgt, lge, geq, egq, mI_l, mI_e, e_mI, l_mI, le_mI, mI_le, bI_z, nC, vnI, nI_add, nI_sb, nI_mul, a1m, qs_eq, qs_nc, qs_ni, qs_nk, bq_l, bq_r, bq_l', bq_r', bq_t, bq_f, bq_t', bq_f', bq_n, bq_m, iT, iS, iN, true_and, and_true, eq_self, not_true_eq_false, not_false_eq_true, forall_const, bx_t, bx_f, reduceCtorEq, Option.some.injEq, forall_eq', ite_true, ite_false]
    refine sp_isPack0 hp hx h20' ?_
    simp (disch := first | assumption | omega) only [l0, l1, l2, l3, l4, l5, l6, l7, l8, l9, l10, l20, l60, l61, l62, bb_t, bb_f, l100, l120, l512, l400, l401, l700, l9999, nm1, lm1, nlt, nle, neq, glt, gle, lgt, lge, geq, egq, mI_l, mI_e, e_mI, l_mI, le_mI, mI_le, bI_z, nC, vnI, nI_add, nI_sb, nI_mul, a1m, qs_eq, qs_nc, qs_ni, qs_nk, bq_l, bq_r, bq_l', bq_r', bq_t, bq_f, bq_t', bq_f', bq_n, bq_m, iT, iS, iN, true_and, and_true, eq_self, not_true_eq_false, not_false_eq_true, forall_const, bx_t, bx_f, reduceCtorEq, Option.some.injEq, forall_eq', ite_true, ite_false]
    exact no
