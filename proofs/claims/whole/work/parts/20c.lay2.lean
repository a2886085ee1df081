theorem sp_w02 {t p : Nat} {x : Int32} {a : qa} {post : Int32 → qa → Prop} (k1 : ∀ j, j < 3 → x = nI j → post (nI 1) a) (k0 : (∀ j, j < 3 → x ≠ nI j) → post (nI 0) a) : wp_X11_within t p x (nI 0) (nI 2) a post := by
  rcases i32c x with g1 | ⟨y1, h1, rfl⟩
  · simp (disch := first | assumption | omega) only [wp_X11_within, l0, l1, l2, l3, l4, l5, l6, l7, l8, l9, l10, l20, l60, l61, l62, bb_t, bb_f, l100, l120, l512, l400, l401, l700, l9999, nm1, lm1, nlt, nle, neq, glt, gle, lgt, lge, geq, egq, mI_l, mI_e, e_mI, l_mI, le_mI, mI_le, bI_z, nC, vnI, nI_add, nI_sb, nI_mul, a1m, qs_eq, qs_nc, qs_ni, qs_nk, bq_l, bq_r, bq_l', bq_r', bq_t, bq_f, bq_t', bq_f', bq_n, bq_m, iT, iS, iN, true_and, and_true, eq_self, not_true_eq_false, not_false_eq_true, forall_const, bx_t, bx_f, reduceCtorEq, Option.some.injEq, forall_eq', ite_true, ite_false]
    exact k0 (fun j hj e => by
      have := geq (b := j) g1 (by omega)
      rw [this] at e
      exact e)
  · by_cases h : y1 < 3
    · simp (disch := first | assumption | omega) only [wp_X11_within, l0, l1, l2, l3, l4, l5, l6, l7, l8, l9, l10, l20, l60, l61, l62, bb_t, bb_f, l100, l120, l512, l400, l401, l700, l9999, nm1, lm1, nlt, nle, neq, glt, gle, lgt, lge, geq, egq, mI_l, mI_e, e_mI, l_mI, le_mI, mI_le, bI_z, nC, vnI, nI_add, nI_sb, nI_mul, a1m, qs_eq, qs_nc, qs_ni, qs_nk, bq_l, bq_r, bq_l', bq_r', bq_t, bq_f, bq_t', bq_f', bq_n, bq_m, iT, iS, iN, true_and, and_true, eq_self, not_true_eq_false, not_false_eq_true, forall_const, bx_t, bx_f, reduceCtorEq, Option.some.injEq, forall_eq', ite_true, ite_false]
      exact k1 y1 h rfl
    · simp (disch := first | assumption | omega) only [wp_X11_within, l0, l1, l2, l3, l4, l5, l6, l7, l8, l9, l10, l20, l60, l61, l62, bb_t, bb_f, l100, l120, l512, l400, l401, l700, l9999, nm1, lm1, nlt, nle, neq, glt, gle, lgt, lge, geq, egq, mI_l, mI_e, e_mI, l_mI, le_mI, mI_le, bI_z, nC, vnI, nI_add, nI_sb, nI_mul, a1m, qs_eq, qs_nc, qs_ni, qs_nk, bq_l, bq_r, bq_l', bq_r', bq_t, bq_f, bq_t', bq_f', bq_n, bq_m, iT, iS, iN, true_and, and_true, eq_self, not_true_eq_false, not_false_eq_true, forall_const, bx_t, bx_f, reduceCtorEq, Option.some.injEq, forall_eq', ite_true, ite_false]
      exact k0 (fun j hj e => by
        rw [neq (by omega) (by omega)] at e
        omega)
theorem sp_isP {t p : Nat} {x : Int32} {a : qa} {post : Int32 → qa → Prop} (hp : p ≤ 100) (h : a 11 0 20 = nI p) (k1 : ∀ j, j < p → x = nI j → post (nI 1) a) (k0 : (∀ j, j < p → x ≠ nI j) → post (nI 0) a) : wp_X11_isPack t p x a post := by
  rcases inN x p with ⟨j, hj, rfl⟩ | hx
  · exact sp_isPack hp hj h (k1 j hj rfl)
  · exact sp_isPack0 hp hx h (k0 hx)
theorem sp_muleAt {t p i j : Nat} {a : qa} {post : Option Nat → qa → Prop} (hj : j < 3) (kk : post (some (3 * i + j)) a) : wp_X9_muleAt t p i (nI j) a post := by
  simp (disch := first | assumption | omega) only [wp_X9_muleAt, l0, l1, l2, l3, l4, l5, l6, l7, l8, l9, l10, l20, l60, l61, l62, bb_t, bb_f, l100, l120, l512, l400, l401, l700, l9999, nm1, lm1, nlt, nle, neq, glt, gle, lgt, lge, geq, egq, mI_l, mI_e, e_mI, l_mI, le_mI, mI_le, bI_z, nC, vnI, nI_add, nI_sb, nI_mul, a1m, qs_eq, qs_nc, qs_ni, qs_nk, bq_l, bq_r, bq_l', bq_r', bq_t, bq_f, bq_t', bq_f', bq_n, bq_m, iT, iS, iN, true_and, and_true, eq_self, not_true_eq_false, not_false_eq_true, forall_const, bx_t, bx_f, reduceCtorEq, Option.some.injEq, forall_eq', ite_true, ite_false]
  exact kk
theorem sp_muleAt0 {t p i : Nat} {x : Int32} {a : qa} {post : Option Nat → qa → Prop} (hx : ∀ j, j < 3 → x ≠ nI j) (kk : post none a) : wp_X9_muleAt t p i x a post := by
  rcases i32c x with g1 | ⟨y1, h1, rfl⟩
  · simp (disch := first | assumption | omega) only [wp_X9_muleAt, l0, l1, l2, l3, l4, l5, l6, l7, l8, l9, l10, l20, l60, l61, l62, bb_t, bb_f, l100, l120, l512, l400, l401, l700, l9999, nm1, lm1, nlt, nle, neq, glt, gle, lgt, lge, geq, egq, mI_l, mI_e, e_mI, l_mI, le_mI, mI_le, bI_z, nC, vnI, nI_add, nI_sb, nI_mul, a1m, qs_eq, qs_nc, qs_ni, qs_nk, bq_l, bq_r, bq_l', bq_r', bq_t, bq_f, bq_t', bq_f', bq_n, bq_m, iT, iS, iN, true_and, and_true, eq_self, not_true_eq_false, not_false_eq_true, forall_const, bx_t, bx_f, reduceCtorEq, Option.some.injEq, forall_eq', ite_true, ite_false]
    exact kk
  · have hy : 3 ≤ y1 := by
      by_cases q : y1 < 3
      · exact absurd rfl (hx y1 q)
      · omega
    simp (disch := first | assumption | omega) only [wp_X9_muleAt, l0, l1, l2, l3, l4, l5, l6, l7, l8, l9, l10, l20, l60, l61, l62, bb_t, bb_f, l100, l120, l512, l400, l401, l700, l9999, nm1, lm1, nlt, nle, neq, glt, gle, lgt, lge, geq, egq, mI_l, mI_e, e_mI, l_mI, le_mI, mI_le, bI_z, nC, vnI, nI_add, nI_sb, nI_mul, a1m, qs_eq, qs_nc, qs_ni, qs_nk, bq_l, bq_r, bq_l', bq_r', bq_t, bq_f, bq_t', bq_f', bq_n, bq_m, iT, iS, iN, true_and, and_true, eq_self, not_true_eq_false, not_false_eq_true, forall_const, bx_t, bx_f, reduceCtorEq, Option.some.injEq, forall_eq', ite_true, ite_false]
    exact kk
theorem sp_loadA2 {t p i : Nat} {a : qa} {v : Int32} {post : Int32 → qa → Prop} (hp : p ≤ 100) (h20 : a 11 0 20 = nI p) (hv : sumN (ldA a i) p = v) (kk : post v a) : wp_X11_load t p (nI i) (nI 3) a post := sp_X11_loadA hp h20 (by rw [hv]; exact kk)
theorem lay_done {t p k m l r w : Nat} {a : qa} {v : Int32} (hm : m < 3 * t) (hI : Inv t p k a) (e4 : a 3 m 4 = nI l) (e5 : a 3 m 5 = nI r) (e7 : a 3 m 7 = nI w) (hv : v = nI (l + r + w)) : v = sumN (ldA a m) p ∧ Inv t p k a := by
  refine ⟨?_, hI⟩
  obtain ⟨I, S, Hh, B, T, M, hA, hB, hC, hD, hE, hF, hG, hH, hT, hJ⟩ := hI
  rw [← ld_eq hE hF hm, e4, e5, e7, nI_add, nI_add]
  exact hv
