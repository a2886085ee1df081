theorem ldA_sum {a : qa} {m : Nat} : ∀ n, (∀ q, q < n → a 58 0 q = 1 → ∃ sd, sd ≤ 2 ∧ a 61 0 q = nI sd) → sumN (ldA a m) n = sumN (ldW a m 0) n + sumN (ldW a m 1) n + sumN (ldW a m 2) n := by
  intro n
  induction n with
  | zero => intro _; rfl
  | succ n ih =>
    intro h
    unfold sumN
    rw [ih (fun q hq => h q (by omega))]
    unfold ldA ldW
    by_cases c : a 58 0 n = 1 ∧ a 60 0 n = nI m
    · obtain ⟨sd, hs, e⟩ := h n (by omega) c.1
      rw [if_pos c]
      obtain rfl | rfl | rfl : sd = 0 ∨ sd = 1 ∨ sd = 2 := by omega
      · simp (disch := first | assumption | omega) only [c.1, c.2, e, anz, Nat.reduceEqDiff, l0, l1, l2, l3, l4, l5, l6, l7, l8, l9, l10, l20, l60, l61, l62, bb_t, bb_f, l100, l120, l512, l400, l401, l700, l9999, nm1, lm1, nlt, nle, neq, glt, gle, lgt, lge, geq, egq, mI_l, mI_e, e_mI, l_mI, le_mI, mI_le, bI_z, nC, vnI, nI_add, nI_sb, nI_mul, a1m, qs_eq, qs_nc, qs_ni, qs_nk, bq_l, bq_r, bq_l', bq_r', bq_t, bq_f, bq_t', bq_f', bq_n, bq_m, iT, iS, iN, true_and, and_true, eq_self, not_true_eq_false, not_false_eq_true, forall_const, bx_t, bx_f, reduceCtorEq, Option.some.injEq, forall_eq', ite_true, ite_false]
        simp only [Int32.add_assoc, Int32.add_comm, i_alc]
      · simp (disch := first | assumption | omega) only [c.1, c.2, e, anz, Nat.reduceEqDiff, l0, l1, l2, l3, l4, l5, l6, l7, l8, l9, l10, l20, l60, l61, l62, bb_t, bb_f, l100, l120, l512, l400, l401, l700, l9999, nm1, lm1, nlt, nle, neq, glt, gle, lgt, lge, geq, egq, mI_l, mI_e, e_mI, l_mI, le_mI, mI_le, bI_z, nC, vnI, nI_add, nI_sb, nI_mul, a1m, qs_eq, qs_nc, qs_ni, qs_nk, bq_l, bq_r, bq_l', bq_r', bq_t, bq_f, bq_t', bq_f', bq_n, bq_m, iT, iS, iN, true_and, and_true, eq_self, not_true_eq_false, not_false_eq_true, forall_const, bx_t, bx_f, reduceCtorEq, Option.some.injEq, forall_eq', ite_true, ite_false]
        simp only [Int32.add_assoc, Int32.add_comm, i_alc]
      · simp (disch := first | assumption | omega) only [c.1, c.2, e, anz, Nat.reduceEqDiff, l0, l1, l2, l3, l4, l5, l6, l7, l8, l9, l10, l20, l60, l61, l62, bb_t, bb_f, l100, l120, l512, l400, l401, l700, l9999, nm1, lm1, nlt, nle, neq, glt, gle, lgt, lge, geq, egq, mI_l, mI_e, e_mI, l_mI, le_mI, mI_le, bI_z, nC, vnI, nI_add, nI_sb, nI_mul, a1m, qs_eq, qs_nc, qs_ni, qs_nk, bq_l, bq_r, bq_l', bq_r', bq_t, bq_f, bq_t', bq_f', bq_n, bq_m, iT, iS, iN, true_and, and_true, eq_self, not_true_eq_false, not_false_eq_true, forall_const, bx_t, bx_f, reduceCtorEq, Option.some.injEq, forall_eq', ite_true, ite_false]
        simp only [Int32.add_assoc, Int32.add_comm, i_alc]
    · rw [if_neg c, if_neg (fun q => c ⟨q.1, q.2.1⟩), if_neg (fun q => c ⟨q.1, q.2.1⟩), if_neg (fun q => c ⟨q.1, q.2.1⟩), az, az, az, az]
theorem iF.sp {I Hh t p B : Nat} {a : qa} (hF : iF I Hh t p B a) : ∀ q, q < p → a 58 0 q = 1 → ∃ sd, sd ≤ 2 ∧ a 61 0 q = nI sd := by
  intro q hq e
  obtain ⟨g1, g2, g3, g4, g5, g6, g7, g8, g9, g10, g11⟩ := hF.2.2 q hq
  rcases g11 with ⟨e1, _⟩ | ⟨_, _, _, e4, _⟩ | ⟨e1, _⟩
  · rw [e] at e1
    exact absurd e1 (by decide)
  · exact e4
  · rw [e] at e1
    exact absurd e1 (by decide)
theorem ld_eq {I Hh t p B m : Nat} {a : qa} (hE : iE t p a) (hF : iF I Hh t p B a) (hm : m < 3 * t) : a 3 m 4 + a 3 m 5 + a 3 m 7 = sumN (ldA a m) p := by
  obtain ⟨_, _, _, _, _, _, _, _, e4, e5, e7, _⟩ := hE m hm
  rw [ldA_sum p hF.sp, e4, e5, e7]
theorem sp_trainAt {t p j : Nat} {a : qa} {post : Option Nat → qa → Prop} (ht : t ≤ 4) (hj : j < t) (h8 : a 10 0 8 = nI t) (kk : post (some j) a) : wp_X10_trainAt t p (nI j) a post := by
  simp (disch := first | assumption | omega) only [wp_X10_trainAt, h8, if_pos, l0, l1, l2, l3, l4, l5, l6, l7, l8, l9, l10, l20, l60, l61, l62, bb_t, bb_f, l100, l120, l512, l400, l401, l700, l9999, nm1, lm1, nlt, nle, neq, glt, gle, lgt, lge, geq, egq, mI_l, mI_e, e_mI, l_mI, le_mI, mI_le, bI_z, nC, vnI, nI_add, nI_sb, nI_mul, a1m, qs_eq, qs_nc, qs_ni, qs_nk, bq_l, bq_r, bq_l', bq_r', bq_t, bq_f, bq_t', bq_f', bq_n, bq_m, iT, iS, iN, true_and, and_true, eq_self, not_true_eq_false, not_false_eq_true, forall_const, bx_t, bx_f, reduceCtorEq, Option.some.injEq, forall_eq', ite_true, ite_false]
  exact kk
theorem sp_trainAt0 {t p : Nat} {x : Int32} {a : qa} {post : Option Nat → qa → Prop} (ht : t ≤ 4) (hx : ∀ j, j < t → x ≠ nI j) (h8 : a 10 0 8 = nI t) (kk : post none a) : wp_X10_trainAt t p x a post := by
  rcases i32c x with g1 | ⟨y1, h1, rfl⟩
  · simp (disch := first | assumption | omega) only [wp_X10_trainAt, l0, l1, l2, l3, l4, l5, l6, l7, l8, l9, l10, l20, l60, l61, l62, bb_t, bb_f, l100, l120, l512, l400, l401, l700, l9999, nm1, lm1, nlt, nle, neq, glt, gle, lgt, lge, geq, egq, mI_l, mI_e, e_mI, l_mI, le_mI, mI_le, bI_z, nC, vnI, nI_add, nI_sb, nI_mul, a1m, qs_eq, qs_nc, qs_ni, qs_nk, bq_l, bq_r, bq_l', bq_r', bq_t, bq_f, bq_t', bq_f', bq_n, bq_m, iT, iS, iN, true_and, and_true, eq_self, not_true_eq_false, not_false_eq_true, forall_const, bx_t, bx_f, reduceCtorEq, Option.some.injEq, forall_eq', ite_true, ite_false]
    exact kk
  · have hy : t ≤ y1 := by
      by_cases q : y1 < t
      · exact absurd rfl (hx y1 q)
      · omega
    simp (disch := first | assumption | omega) only [wp_X10_trainAt, h8, l0, l1, l2, l3, l4, l5, l6, l7, l8, l9, l10, l20, l60, l61, l62, bb_t, bb_f, l100, l120, l512, l400, l401, l700, l9999, nm1, lm1, nlt, nle, neq, glt, gle, lgt, lge, geq, egq, mI_l, mI_e, e_mI, l_mI, le_mI, mI_le, bI_z, nC, vnI, nI_add, nI_sb, nI_mul, a1m, qs_eq, qs_nc, qs_ni, qs_nk, bq_l, bq_r, bq_l', bq_r', bq_t, bq_f, bq_t', bq_f', bq_n, bq_m, iT, iS, iN, true_and, and_true, eq_self, not_true_eq_false, not_false_eq_true, forall_const, bx_t, bx_f, reduceCtorEq, Option.some.injEq, forall_eq', ite_true, ite_false]
    exact kk
theorem sp_packAt {t p j : Nat} {a : qa} {post : Option Nat → qa → Prop} (ht : p ≤ 100) (hj : j < p) (h8 : a 10 0 9 = nI p) (kk : post (some j) a) : wp_X10_packAt t p (nI j) a post := by
  simp (disch := first | assumption | omega) only [wp_X10_packAt, h8, if_pos, l0, l1, l2, l3, l4, l5, l6, l7, l8, l9, l10, l20, l60, l61, l62, bb_t, bb_f, l100, l120, l512, l400, l401, l700, l9999, nm1, lm1, nlt, nle, neq, glt, gle, lgt, lge, geq, egq, mI_l, mI_e, e_mI, l_mI, le_mI, mI_le, bI_z, nC, vnI, nI_add, nI_sb, nI_mul, a1m, qs_eq, qs_nc, qs_ni, qs_nk, bq_l, bq_r, bq_l', bq_r', bq_t, bq_f, bq_t', bq_f', bq_n, bq_m, iT, iS, iN, true_and, and_true, eq_self, not_true_eq_false, not_false_eq_true, forall_const, bx_t, bx_f, reduceCtorEq, Option.some.injEq, forall_eq', ite_true, ite_false]
  exact kk
theorem sp_packAt0 {t p : Nat} {x : Int32} {a : qa} {post : Option Nat → qa → Prop} (ht : p ≤ 100) (hx : ∀ j, j < p → x ≠ nI j) (h8 : a 10 0 9 = nI p) (kk : post none a) : wp_X10_packAt t p x a post := by
  rcases i32c x with g1 | ⟨y1, h1, rfl⟩
  · simp (disch := first | assumption | omega) only [wp_X10_packAt, l0, l1, l2, l3, l4, l5, l6, l7, l8, l9, l10, l20, l60, l61, l62, bb_t, bb_f, l100, l120, l512, l400, l401, l700, l9999, nm1, lm1, nlt, nle, neq, glt, gle, lgt, lge, geq, egq, mI_l, mI_e, e_mI, l_mI, le_mI, mI_le, bI_z, nC, vnI, nI_add, nI_sb, nI_mul, a1m, qs_eq, qs_nc, qs_ni, qs_nk, bq_l, bq_r, bq_l', bq_r', bq_t, bq_f, bq_t', bq_f', bq_n, bq_m, iT, iS, iN, true_and, and_true, eq_self, not_true_eq_false, not_false_eq_true, forall_const, bx_t, bx_f, reduceCtorEq, Option.some.injEq, forall_eq', ite_true, ite_false]
    exact kk
  · have hy : p ≤ y1 := by
      by_cases q : y1 < p
      · exact absurd rfl (hx y1 q)
      · omega
    simp (disch := first | assumption | omega) only [wp_X10_packAt, h8, l0, l1, l2, l3, l4, l5, l6, l7, l8, l9, l10, l20, l60, l61, l62, bb_t, bb_f, l100, l120, l512, l400, l401, l700, l9999, nm1, lm1, nlt, nle, neq, glt, gle, lgt, lge, geq, egq, mI_l, mI_e, e_mI, l_mI, le_mI, mI_le, bI_z, nC, vnI, nI_add, nI_sb, nI_mul, a1m, qs_eq, qs_nc, qs_ni, qs_nk, bq_l, bq_r, bq_l', bq_r', bq_t, bq_f, bq_t', bq_f', bq_n, bq_m, iT, iS, iN, true_and, and_true, eq_self, not_true_eq_false, not_false_eq_true, forall_const, bx_t, bx_f, reduceCtorEq, Option.some.injEq, forall_eq', ite_true, ite_false]
    exact kk
theorem sp_isString0 {t p : Nat} {x : Int32} {a : qa} {post : Int32 → qa → Prop} (ht : t ≤ 4) (hx : ∀ j, j < t → x ≠ nI j) (h8 : a 11 0 11 = nI t) (kk : post (nI 0) a) : wp_X11_isString t p x a post := by
  rcases i32c x with g1 | ⟨y1, h1, rfl⟩
  · simp (disch := first | assumption | omega) only [wp_X11_isString, l0, l1, l2, l3, l4, l5, l6, l7, l8, l9, l10, l20, l60, l61, l62, bb_t, bb_f, l100, l120, l512, l400, l401, l700, l9999, nm1, lm1, nlt, nle, neq, glt, gle, lgt, lge, geq, egq, mI_l, mI_e, e_mI, l_mI, le_mI, mI_le, bI_z, nC, vnI, nI_add, nI_sb, nI_mul, a1m, qs_eq, qs_nc, qs_ni, qs_nk, bq_l, bq_r, bq_l', bq_r', bq_t, bq_f, bq_t', bq_f', bq_n, bq_m, iT, iS, iN, true_and, and_true, eq_self, not_true_eq_false, not_false_eq_true, forall_const, bx_t, bx_f, reduceCtorEq, Option.some.injEq, forall_eq', ite_true, ite_false]
    exact kk
  · have hy : t ≤ y1 := by
      by_cases q : y1 < t
      · exact absurd rfl (hx y1 q)
      · omega
    simp (disch := first | assumption | omega) only [wp_X11_isString, h8, l0, l1, l2, l3, l4, l5, l6, l7, l8, l9, l10, l20, l60, l61, l62, bb_t, bb_f, l100, l120, l512, l400, l401, l700, l9999, nm1, lm1, nlt, nle, neq, glt, gle, lgt, lge, geq, egq, mI_l, mI_e, e_mI, l_mI, le_mI, mI_le, bI_z, nC, vnI, nI_add, nI_sb, nI_mul, a1m, qs_eq, qs_nc, qs_ni, qs_nk, bq_l, bq_r, bq_l', bq_r', bq_t, bq_f, bq_t', bq_f', bq_n, bq_m, iT, iS, iN, true_and, and_true, eq_self, not_true_eq_false, not_false_eq_true, forall_const, bx_t, bx_f, reduceCtorEq, Option.some.injEq, forall_eq', ite_true, ite_false]
    exact kk
theorem sp_isString {t p j : Nat} {a : qa} {post : Int32 → qa → Prop} (ht : t ≤ 4) (hj : j < t) (h8 : a 11 0 11 = nI t) (kk : post (nI 1) a) : wp_X11_isString t p (nI j) a post := by
  simp (disch := first | assumption | omega) only [wp_X11_isString, h8, l0, l1, l2, l3, l4, l5, l6, l7, l8, l9, l10, l20, l60, l61, l62, bb_t, bb_f, l100, l120, l512, l400, l401, l700, l9999, nm1, lm1, nlt, nle, neq, glt, gle, lgt, lge, geq, egq, mI_l, mI_e, e_mI, l_mI, le_mI, mI_le, bI_z, nC, vnI, nI_add, nI_sb, nI_mul, a1m, qs_eq, qs_nc, qs_ni, qs_nk, bq_l, bq_r, bq_l', bq_r', bq_t, bq_f, bq_t', bq_f', bq_n, bq_m, iT, iS, iN, true_and, and_true, eq_self, not_true_eq_false, not_false_eq_true, forall_const, bx_t, bx_f, reduceCtorEq, Option.some.injEq, forall_eq', ite_true, ite_false]
  exact kk
theorem sp_isPack0 {t p : Nat} {x : Int32} {a : qa} {post : Int32 → qa → Prop} (ht : p ≤ 100) (hx : ∀ j, j < p → x ≠ nI j) (h8 : a 11 0 20 = nI p) (kk : post (nI 0) a) : wp_X11_isPack t p x a post := by
  rcases i32c x with g1 | ⟨y1, h1, rfl⟩
  · simp (disch := first | assumption | omega) only [wp_X11_isPack, l0, l1, l2, l3, l4, l5, l6, l7, l8, l9, l10, l20, l60, l61, l62, bb_t, bb_f, l100, l120, l512, l400, l401, l700, l9999, nm1, lm1, nlt, nle, neq, glt, gle, lgt, lge, geq, egq, mI_l, mI_e, e_mI, l_mI, le_mI, mI_le, bI_z, nC, vnI, nI_add, nI_sb, nI_mul, a1m, qs_eq, qs_nc, qs_ni, qs_nk, bq_l, bq_r, bq_l', bq_r', bq_t, bq_f, bq_t', bq_f', bq_n, bq_m, iT, iS, iN, true_and, and_true, eq_self, not_true_eq_false, not_false_eq_true, forall_const, bx_t, bx_f, reduceCtorEq, Option.some.injEq, forall_eq', ite_true, ite_false]
    exact kk
  · have hy : p ≤ y1 := by
      by_cases q : y1 < p
      · exact absurd rfl (hx y1 q)
      · omega
    simp (disch := first | assumption | omega) only [wp_X11_isPack, h8, l0, l1, l2, l3, l4, l5, l6, l7, l8, l9, l10, l20, l60, l61, l62, bb_t, bb_f, l100, l120, l512, l400, l401, l700, l9999, nm1, lm1, nlt, nle, neq, glt, gle, lgt, lge, geq, egq, mI_l, mI_e, e_mI, l_mI, le_mI, mI_le, bI_z, nC, vnI, nI_add, nI_sb, nI_mul, a1m, qs_eq, qs_nc, qs_ni, qs_nk, bq_l, bq_r, bq_l', bq_r', bq_t, bq_f, bq_t', bq_f', bq_n, bq_m, iT, iS, iN, true_and, and_true, eq_self, not_true_eq_false, not_false_eq_true, forall_const, bx_t, bx_f, reduceCtorEq, Option.some.injEq, forall_eq', ite_true, ite_false]
    exact kk
theorem sp_isPack {t p j : Nat} {a : qa} {post : Int32 → qa → Prop} (ht : p ≤ 100) (hj : j < p) (h8 : a 11 0 20 = nI p) (kk : post (nI 1) a) : wp_X11_isPack t p (nI j) a post := by
  simp (disch := first | assumption | omega) only [wp_X11_isPack, h8, l0, l1, l2, l3, l4, l5, l6, l7, l8, l9, l10, l20, l60, l61, l62, bb_t, bb_f, l100, l120, l512, l400, l401, l700, l9999, nm1, lm1, nlt, nle, neq, glt, gle, lgt, lge, geq, egq, mI_l, mI_e, e_mI, l_mI, le_mI, mI_le, bI_z, nC, vnI, nI_add, nI_sb, nI_mul, a1m, qs_eq, qs_nc, qs_ni, qs_nk, bq_l, bq_r, bq_l', bq_r', bq_t, bq_f, bq_t', bq_f', bq_n, bq_m, iT, iS, iN, true_and, and_true, eq_self, not_true_eq_false, not_false_eq_true, forall_const, bx_t, bx_f, reduceCtorEq, Option.some.injEq, forall_eq', ite_true, ite_false]
  exact kk
theorem inN (x : Int32) (n : Nat) : (∃ j, j < n ∧ x = nI j) ∨ ∀ j, j < n → x ≠ nI j := by
  by_cases h : ∃ j, j < n ∧ x = nI j
  · exact Or.inl h
  · exact Or.inr fun j hj e => h ⟨j, hj, e⟩
