def TP (f : Nat → Nat) (T : Nat) (a : qa) : Prop := T ≤ 400 ∧ a 7 0 1 = nI T ∧ ∀ j, j < T → f j < 256 ∧ a 32 0 j = nI (f j)
theorem TP.q8 {f : Nat → Nat} {T : Nat} {a : qa} (h : TP f T a) {i k : Nat} {x : Int32} : TP f T (qs a 8 i k x) := by
  unfold TP at h ⊢
  simp only [qs_nc (show (7 : Nat) ≠ 8 by decide), qs_nc (show (32 : Nat) ≠ 8 by decide)]
  exact h
theorem TP.qc {f : Nat → Nat} {T : Nat} {a : qa} (h : TP f T a) {c i k : Nat} {x : Int32} (h7 : 7 ≠ c) (h32 : 32 ≠ c) : TP f T (qs a c i k x) := by
  unfold TP at h ⊢
  simp only [qs_nc h7, qs_nc h32]
  exact h
theorem sp_byteAt {t p T i : Nat} {f : Nat → Nat} {a : qa} {post : Int32 → qa → Prop} (h : TP f T a) (hi : i < T) (kk : post (nI (f i)) a) : wp_X7_byteAt t p (nI i) a post := by
  obtain ⟨h0, h1, h2⟩ := h
  have h3 := h2 i hi
  simp (disch := first | assumption | omega) only [wp_X7_byteAt, h1, h3.2, l0, l1, l2, l3, l4, l5, l6, l7, l8, l9, l10, l20, l60, l61, l62, bb_t, bb_f, l100, l120, l512, l400, l401, l700, l9999, nm1, lm1, nlt, nle, neq, glt, gle, lgt, lge, geq, egq, mI_l, mI_e, e_mI, l_mI, le_mI, mI_le, bI_z, nC, vnI, nI_add, nI_sb, nI_mul, a1m, qs_eq, qs_nc, qs_ni, qs_nk, bq_l, bq_r, bq_l', bq_r', bq_t, bq_f, bq_t', bq_f', bq_n, bq_m, iT, iS, iN, true_and, and_true, eq_self, not_true_eq_false, not_false_eq_true, forall_const, bx_t, bx_f, reduceCtorEq, Option.some.injEq, forall_eq', ite_true, ite_false]
  exact kk
theorem sp_byteAt0 {t p T i : Nat} {f : Nat → Nat} {a : qa} {post : Int32 → qa → Prop} (h : TP f T a) (hi : T ≤ i) (hi2 : i < 1000) (kk : post mI a) : wp_X7_byteAt t p (nI i) a post := by
  obtain ⟨h0, h1, h2⟩ := h
  simp (disch := first | assumption | omega) only [wp_X7_byteAt, h1, l0, l1, l2, l3, l4, l5, l6, l7, l8, l9, l10, l20, l60, l61, l62, bb_t, bb_f, l100, l120, l512, l400, l401, l700, l9999, nm1, lm1, nlt, nle, neq, glt, gle, lgt, lge, geq, egq, mI_l, mI_e, e_mI, l_mI, le_mI, mI_le, bI_z, nC, vnI, nI_add, nI_sb, nI_mul, a1m, qs_eq, qs_nc, qs_ni, qs_nk, bq_l, bq_r, bq_l', bq_r', bq_t, bq_f, bq_t', bq_f', bq_n, bq_m, iT, iS, iN, true_and, and_true, eq_self, not_true_eq_false, not_false_eq_true, forall_const, bx_t, bx_f, reduceCtorEq, Option.some.injEq, forall_eq', ite_true, ite_false]
  exact kk
theorem sp_isBlank {t p b : Nat} {a : qa} {post : Int32 → qa → Prop} (hb : b < 256) (k1 : b = 32 ∨ b = 10 → post (nI 1) a) (k0 : ¬ (b = 32 ∨ b = 10) → post (nI 0) a) : wp_X8_isBlank t p (nI b) a post := by
  unfold wp_X8_isBlank
  by_cases c : b = 32
  · simp (disch := first | assumption | omega) only [l32, l0, l1, l2, l3, l4, l5, l6, l7, l8, l9, l10, l20, l60, l61, l62, bb_t, bb_f, l100, l120, l512, l400, l401, l700, l9999, nm1, lm1, nlt, nle, neq, glt, gle, lgt, lge, geq, egq, mI_l, mI_e, e_mI, l_mI, le_mI, mI_le, bI_z, nC, vnI, nI_add, nI_sb, nI_mul, a1m, qs_eq, qs_nc, qs_ni, qs_nk, bq_l, bq_r, bq_l', bq_r', bq_t, bq_f, bq_t', bq_f', bq_n, bq_m, iT, iS, iN, true_and, and_true, eq_self, not_true_eq_false, not_false_eq_true, forall_const, bx_t, bx_f, reduceCtorEq, Option.some.injEq, forall_eq', ite_true, ite_false]
    exact k1 (Or.inl c)
  by_cases d : b = 10
  · simp (disch := first | assumption | omega) only [l32, l0, l1, l2, l3, l4, l5, l6, l7, l8, l9, l10, l20, l60, l61, l62, bb_t, bb_f, l100, l120, l512, l400, l401, l700, l9999, nm1, lm1, nlt, nle, neq, glt, gle, lgt, lge, geq, egq, mI_l, mI_e, e_mI, l_mI, le_mI, mI_le, bI_z, nC, vnI, nI_add, nI_sb, nI_mul, a1m, qs_eq, qs_nc, qs_ni, qs_nk, bq_l, bq_r, bq_l', bq_r', bq_t, bq_f, bq_t', bq_f', bq_n, bq_m, iT, iS, iN, true_and, and_true, eq_self, not_true_eq_false, not_false_eq_true, forall_const, bx_t, bx_f, reduceCtorEq, Option.some.injEq, forall_eq', ite_true, ite_false]
    exact k1 (Or.inr d)
  simp (disch := first | assumption | omega) only [l32, l0, l1, l2, l3, l4, l5, l6, l7, l8, l9, l10, l20, l60, l61, l62, bb_t, bb_f, l100, l120, l512, l400, l401, l700, l9999, nm1, lm1, nlt, nle, neq, glt, gle, lgt, lge, geq, egq, mI_l, mI_e, e_mI, l_mI, le_mI, mI_le, bI_z, nC, vnI, nI_add, nI_sb, nI_mul, a1m, qs_eq, qs_nc, qs_ni, qs_nk, bq_l, bq_r, bq_l', bq_r', bq_t, bq_f, bq_t', bq_f', bq_n, bq_m, iT, iS, iN, true_and, and_true, eq_self, not_true_eq_false, not_false_eq_true, forall_const, bx_t, bx_f, reduceCtorEq, Option.some.injEq, forall_eq', ite_true, ite_false]
  exact k0 (by omega)
theorem sp_isLetter {t p b : Nat} {a : qa} {post : Int32 → qa → Prop} (hb : b < 256) (k1 : 97 ≤ b ∧ b ≤ 122 → post (nI 1) a) (k0 : ¬ (97 ≤ b ∧ b ≤ 122) → post (nI 0) a) : wp_X8_isLetter t p (nI b) a post := by
  unfold wp_X8_isLetter
  by_cases c : b < 97
  · simp (disch := first | assumption | omega) only [l97, l122, l0, l1, l2, l3, l4, l5, l6, l7, l8, l9, l10, l20, l60, l61, l62, bb_t, bb_f, l100, l120, l512, l400, l401, l700, l9999, nm1, lm1, nlt, nle, neq, glt, gle, lgt, lge, geq, egq, mI_l, mI_e, e_mI, l_mI, le_mI, mI_le, bI_z, nC, vnI, nI_add, nI_sb, nI_mul, a1m, qs_eq, qs_nc, qs_ni, qs_nk, bq_l, bq_r, bq_l', bq_r', bq_t, bq_f, bq_t', bq_f', bq_n, bq_m, iT, iS, iN, true_and, and_true, eq_self, not_true_eq_false, not_false_eq_true, forall_const, bx_t, bx_f, reduceCtorEq, Option.some.injEq, forall_eq', ite_true, ite_false]
    exact k0 (by omega)
  by_cases d : 122 < b
  · simp (disch := first | assumption | omega) only [l97, l122, l0, l1, l2, l3, l4, l5, l6, l7, l8, l9, l10, l20, l60, l61, l62, bb_t, bb_f, l100, l120, l512, l400, l401, l700, l9999, nm1, lm1, nlt, nle, neq, glt, gle, lgt, lge, geq, egq, mI_l, mI_e, e_mI, l_mI, le_mI, mI_le, bI_z, nC, vnI, nI_add, nI_sb, nI_mul, a1m, qs_eq, qs_nc, qs_ni, qs_nk, bq_l, bq_r, bq_l', bq_r', bq_t, bq_f, bq_t', bq_f', bq_n, bq_m, iT, iS, iN, true_and, and_true, eq_self, not_true_eq_false, not_false_eq_true, forall_const, bx_t, bx_f, reduceCtorEq, Option.some.injEq, forall_eq', ite_true, ite_false]
    exact k0 (by omega)
  simp (disch := first | assumption | omega) only [l97, l122, l0, l1, l2, l3, l4, l5, l6, l7, l8, l9, l10, l20, l60, l61, l62, bb_t, bb_f, l100, l120, l512, l400, l401, l700, l9999, nm1, lm1, nlt, nle, neq, glt, gle, lgt, lge, geq, egq, mI_l, mI_e, e_mI, l_mI, le_mI, mI_le, bI_z, nC, vnI, nI_add, nI_sb, nI_mul, a1m, qs_eq, qs_nc, qs_ni, qs_nk, bq_l, bq_r, bq_l', bq_r', bq_t, bq_f, bq_t', bq_f', bq_n, bq_m, iT, iS, iN, true_and, and_true, eq_self, not_true_eq_false, not_false_eq_true, forall_const, bx_t, bx_f, reduceCtorEq, Option.some.injEq, forall_eq', ite_true, ite_false]
  exact k1 (by omega)
theorem sp_isDigit8 {t p b : Nat} {a : qa} {post : Int32 → qa → Prop} (hb : b < 256) (k1 : 48 ≤ b ∧ b ≤ 57 → post (nI 1) a) (k0 : ¬ (48 ≤ b ∧ b ≤ 57) → post (nI 0) a) : wp_X8_isDigit t p (nI b) a post := by
  unfold wp_X8_isDigit
  by_cases c : b < 48
  · simp (disch := first | assumption | omega) only [l48, l57, l0, l1, l2, l3, l4, l5, l6, l7, l8, l9, l10, l20, l60, l61, l62, bb_t, bb_f, l100, l120, l512, l400, l401, l700, l9999, nm1, lm1, nlt, nle, neq, glt, gle, lgt, lge, geq, egq, mI_l, mI_e, e_mI, l_mI, le_mI, mI_le, bI_z, nC, vnI, nI_add, nI_sb, nI_mul, a1m, qs_eq, qs_nc, qs_ni, qs_nk, bq_l, bq_r, bq_l', bq_r', bq_t, bq_f, bq_t', bq_f', bq_n, bq_m, iT, iS, iN, true_and, and_true, eq_self, not_true_eq_false, not_false_eq_true, forall_const, bx_t, bx_f, reduceCtorEq, Option.some.injEq, forall_eq', ite_true, ite_false]
    exact k0 (by omega)
  by_cases d : 57 < b
  · simp (disch := first | assumption | omega) only [l48, l57, l0, l1, l2, l3, l4, l5, l6, l7, l8, l9, l10, l20, l60, l61, l62, bb_t, bb_f, l100, l120, l512, l400, l401, l700, l9999, nm1, lm1, nlt, nle, neq, glt, gle, lgt, lge, geq, egq, mI_l, mI_e, e_mI, l_mI, le_mI, mI_le, bI_z, nC, vnI, nI_add, nI_sb, nI_mul, a1m, qs_eq, qs_nc, qs_ni, qs_nk, bq_l, bq_r, bq_l', bq_r', bq_t, bq_f, bq_t', bq_f', bq_n, bq_m, iT, iS, iN, true_and, and_true, eq_self, not_true_eq_false, not_false_eq_true, forall_const, bx_t, bx_f, reduceCtorEq, Option.some.injEq, forall_eq', ite_true, ite_false]
    exact k0 (by omega)
  simp (disch := first | assumption | omega) only [l48, l57, l0, l1, l2, l3, l4, l5, l6, l7, l8, l9, l10, l20, l60, l61, l62, bb_t, bb_f, l100, l120, l512, l400, l401, l700, l9999, nm1, lm1, nlt, nle, neq, glt, gle, lgt, lge, geq, egq, mI_l, mI_e, e_mI, l_mI, le_mI, mI_le, bI_z, nC, vnI, nI_add, nI_sb, nI_mul, a1m, qs_eq, qs_nc, qs_ni, qs_nk, bq_l, bq_r, bq_l', bq_r', bq_t, bq_f, bq_t', bq_f', bq_n, bq_m, iT, iS, iN, true_and, and_true, eq_self, not_true_eq_false, not_false_eq_true, forall_const, bx_t, bx_f, reduceCtorEq, Option.some.injEq, forall_eq', ite_true, ite_false]
  exact k1 (by omega)
theorem sp_signType {t p b : Nat} {a : qa} {post : Int32 → qa → Prop} (hb : b < 256) (kk : post (nI (sgT b)) a) : wp_X8_signType t p (nI b) a post := by
  have hd : ∀ c, c < 256 → nI b = nI c → b = c := by
    intro c hc h
    rw [neq (by omega) (by omega)] at h
    exact h
  have hn : ∀ c, ¬ nI b = nI c → b ≠ c := fun c h e => h (by rw [e])
  unfold wp_X8_signType
  refine ⟨fun h => ?_, fun h => ?_, fun h => ?_, fun h => ?_, fun h => ?_, fun h => ?_, fun h => ?_, fun h => ?_, fun h => ?_, fun h => ?_, fun h => ?_, fun h => ?_, fun h => ?_, fun h => ?_, fun h => ?_, fun h => ?_, fun h => ?_, fun h => ?_, fun h1 h2 h3 h4 h5 h6 h7 h8 h9 h10 h11 h12 h13 h14 h15 h16 h17 h18 => ?_⟩
  · have e := hd 45 (by omega) h; rw [e] at kk; exact kk
  · have e := hd 46 (by omega) h; rw [e] at kk; exact kk
  · have e := hd 47 (by omega) h; rw [e] at kk; exact kk
  · have e := hd 48 (by omega) h; rw [e] at kk; exact kk
  · have e := hd 49 (by omega) h; rw [e] at kk; exact kk
  · have e := hd 50 (by omega) h; rw [e] at kk; exact kk
  · have e := hd 51 (by omega) h; rw [e] at kk; exact kk
  · have e := hd 52 (by omega) h; rw [e] at kk; exact kk
  · have e := hd 53 (by omega) h; rw [e] at kk; exact kk
  · have e := hd 54 (by omega) h; rw [e] at kk; exact kk
  · have e := hd 55 (by omega) h; rw [e] at kk; exact kk
  · have e := hd 56 (by omega) h; rw [e] at kk; exact kk
  · have e := hd 57 (by omega) h; rw [e] at kk; exact kk
  · have e := hd 58 (by omega) h; rw [e] at kk; exact kk
  · have e := hd 59 (by omega) h; rw [e] at kk; exact kk
  · have e := hd 60 (by omega) h; rw [e] at kk; exact kk
  · have e := hd 61 (by omega) h; rw [e] at kk; exact kk
  · have e := hd 62 (by omega) h; rw [e] at kk; exact kk
  · have a1 := hn 45 h1
    have a2 := hn 58 h14
    have a3 := hn 59 h15
    have a4 := hn 60 h16
    have a5 := hn 61 h17
    have a6 := hn 62 h18
    have e : sgT b = 1 := by
      rcases sgT_b b with h | ⟨_, h⟩ | ⟨_, h⟩ | ⟨_, h⟩ | ⟨_, h⟩
      · exact h
      all_goals omega
    rw [e] at kk
    exact kk
def adT (a : qa) (N s : Nat) (x y : Int32) : qa := qs (qs (qs (qs a 33 0 N x) 34 0 N (nI s)) 35 0 N y) 8 0 4 (nI (N + 1))
theorem sp_add {t p N s : Nat} {x y : Int32} {a : qa} {post : Int32 → qa → Prop} (hN : N ≤ 400) (h4 : a 8 0 4 = nI N) (h5 : a 8 0 5 = nI s) (kk : post x (adT a N s x y)) : wp_X8_add t p x y a post := by
  simp (disch := first | assumption | omega) only [wp_X8_add, h4, h5, l0, l1, l2, l3, l4, l5, l6, l7, l8, l9, l10, l20, l60, l61, l62, bb_t, bb_f, l100, l120, l512, l400, l401, l700, l9999, nm1, lm1, nlt, nle, neq, glt, gle, lgt, lge, geq, egq, mI_l, mI_e, e_mI, l_mI, le_mI, mI_le, bI_z, nC, vnI, nI_add, nI_sb, nI_mul, a1m, qs_eq, qs_nc, qs_ni, qs_nk, bq_l, bq_r, bq_l', bq_r', bq_t, bq_f, bq_t', bq_f', bq_n, bq_m, iT, iS, iN, true_and, and_true, eq_self, not_true_eq_false, not_false_eq_true, forall_const, bx_t, bx_f, reduceCtorEq, Option.some.injEq, forall_eq', ite_true, ite_false]
  exact kk
theorem sl_spells {t p k T s : Nat} {f : Nat → Nat} {a : qa} {post : Int32 → qa → Prop} (hk : k < 16) (h : TP f T a) (h5 : a 8 0 5 = nI s) (hs : s + (q_tx k).length ≤ T) (k1 : allN (fun i => decide (nI (f (s + i)) = (q_tx k).getD i 0)) (q_tx k).length = true → post (nI 1) a) (k0 : allN (fun i => decide (nI (f (s + i)) = (q_tx k).getD i 0)) (q_tx k).length = false → post (nI 0) a) : ∀ (m j : Nat), j + m = (q_tx k).length → allN (fun i => decide (nI (f (s + i)) = (q_tx k).getD i 0)) j = true → wl_X8_spells_20 t p post (m + 1) k (nI j) a := by
  have hl := tx_l k
  have hT := h.1
  intro m
  induction m with
  | zero =>
    intro j hj hn
    obtain rfl : j = (q_tx k).length := by omega
    simp (disch := first | assumption | omega) only [wl_X8_spells_20, wp_J0_length_8abf5, hk, l0, l1, l2, l3, l4, l5, l6, l7, l8, l9, l10, l20, l60, l61, l62, bb_t, bb_f, l100, l120, l512, l400, l401, l700, l9999, nm1, lm1, nlt, nle, neq, glt, gle, lgt, lge, geq, egq, mI_l, mI_e, e_mI, l_mI, le_mI, mI_le, bI_z, nC, vnI, nI_add, nI_sb, nI_mul, a1m, qs_eq, qs_nc, qs_ni, qs_nk, bq_l, bq_r, bq_l', bq_r', bq_t, bq_f, bq_t', bq_f', bq_n, bq_m, iT, iS, iN, true_and, and_true, eq_self, not_true_eq_false, not_false_eq_true, forall_const, bx_t, bx_f, reduceCtorEq, Option.some.injEq, forall_eq', ite_true, ite_false]
    exact k1 hn
  | succ m ih =>
    intro j hj hn
    unfold wl_X8_spells_20
    have hjl : j < (q_tx k).length := by omega
    simp (disch := first | assumption | omega) only [wp_J0_length_8abf5, hk, h5, l0, l1, l2, l3, l4, l5, l6, l7, l8, l9, l10, l20, l60, l61, l62, bb_t, bb_f, l100, l120, l512, l400, l401, l700, l9999, nm1, lm1, nlt, nle, neq, glt, gle, lgt, lge, geq, egq, mI_l, mI_e, e_mI, l_mI, le_mI, mI_le, bI_z, nC, vnI, nI_add, nI_sb, nI_mul, a1m, qs_eq, qs_nc, qs_ni, qs_nk, bq_l, bq_r, bq_l', bq_r', bq_t, bq_f, bq_t', bq_f', bq_n, bq_m, iT, iS, iN, true_and, and_true, eq_self, not_true_eq_false, not_false_eq_true, forall_const, bx_t, bx_f, reduceCtorEq, Option.some.injEq, forall_eq', ite_true, ite_false]
    refine sp_byteAt h (by omega) ?_
    simp (disch := first | assumption | omega) only [wp_J0_charAt_5068e, hk, l0, l1, l2, l3, l4, l5, l6, l7, l8, l9, l10, l20, l60, l61, l62, bb_t, bb_f, l100, l120, l512, l400, l401, l700, l9999, nm1, lm1, nlt, nle, neq, glt, gle, lgt, lge, geq, egq, mI_l, mI_e, e_mI, l_mI, le_mI, mI_le, bI_z, nC, vnI, nI_add, nI_sb, nI_mul, a1m, qs_eq, qs_nc, qs_ni, qs_nk, bq_l, bq_r, bq_l', bq_r', bq_t, bq_f, bq_t', bq_f', bq_n, bq_m, iT, iS, iN, true_and, and_true, eq_self, not_true_eq_false, not_false_eq_true, forall_const, bx_t, bx_f, reduceCtorEq, Option.some.injEq, forall_eq', ite_true, ite_false]
    by_cases c : nI (f (s + j)) = (q_tx k).getD j (nI 0)
    · rw [bq_t c]
      refine ih (j + 1) (by omega) ?_
      show (allN _ j && decide _) = true
      rw [hn]
      exact decide_eq_true c
    · rw [bq_f c]
      exact k0 (allN_f (i := j) (decide_eq_false c) _ hjl)
theorem sp_spells {t p k T s e : Nat} {f : Nat → Nat} {a : qa} {post : Int32 → qa → Prop} (hk : k < 16) (h : TP f T a) (h5 : a 8 0 5 = nI s) (h6 : a 8 0 6 = nI e) (hse : s ≤ e) (he : e ≤ T) (kk : post (bb (spB f s e k)) a) : wp_X8_spells t p k a post := by
  have hl := tx_l k
  have hT := h.1
  unfold wp_X8_spells
  unfold spB at kk
  by_cases c : e - s = (q_tx k).length
  · simp (disch := first | assumption | omega) only [wp_J0_length_8abf5, hk, h5, h6, l0, l1, l2, l3, l4, l5, l6, l7, l8, l9, l10, l20, l60, l61, l62, bb_t, bb_f, l100, l120, l512, l400, l401, l700, l9999, nm1, lm1, nlt, nle, neq, glt, gle, lgt, lge, geq, egq, mI_l, mI_e, e_mI, l_mI, le_mI, mI_le, bI_z, nC, vnI, nI_add, nI_sb, nI_mul, a1m, qs_eq, qs_nc, qs_ni, qs_nk, bq_l, bq_r, bq_l', bq_r', bq_t, bq_f, bq_t', bq_f', bq_n, bq_m, iT, iS, iN, true_and, and_true, eq_self, not_true_eq_false, not_false_eq_true, forall_const, bx_t, bx_f, reduceCtorEq, Option.some.injEq, forall_eq', ite_true, ite_false]
    rw [decide_eq_true c] at kk
    refine ⟨_, sl_spells hk h h5 (by omega) (fun e1 => ?_) (fun e1 => ?_) (q_tx k).length 0 (by omega) rfl⟩
    · rw [e1] at kk; exact kk
    · rw [e1] at kk; exact kk
  · simp (disch := first | assumption | omega) only [wp_J0_length_8abf5, hk, h5, h6, l0, l1, l2, l3, l4, l5, l6, l7, l8, l9, l10, l20, l60, l61, l62, bb_t, bb_f, l100, l120, l512, l400, l401, l700, l9999, nm1, lm1, nlt, nle, neq, glt, gle, lgt, lge, geq, egq, mI_l, mI_e, e_mI, l_mI, le_mI, mI_le, bI_z, nC, vnI, nI_add, nI_sb, nI_mul, a1m, qs_eq, qs_nc, qs_ni, qs_nk, bq_l, bq_r, bq_l', bq_r', bq_t, bq_f, bq_t', bq_f', bq_n, bq_m, iT, iS, iN, true_and, and_true, eq_self, not_true_eq_false, not_false_eq_true, forall_const, bx_t, bx_f, reduceCtorEq, Option.some.injEq, forall_eq', ite_true, ite_false]
    rw [decide_eq_false c] at kk
    exact kk
set_option maxHeartbeats 4000000 in
theorem sp_cutWord44 {t p T s e N : Nat} {f : Nat → Nat} {a : qa} {post : Int32 → qa → Prop} (h : TP f T a) (hN : N ≤ 400) (h4 : a 8 0 4 = nI N) (h5 : a 8 0 5 = nI s) (h6 : a 8 0 6 = nI e) (hse : s ≤ e) (he : e ≤ T) (kk : post (nI (wT f s e).1) (adT a N s (nI (wT f s e).1) (wT f s e).2)) : wl_X8_cutWord_44 t p post a := by
  unfold wl_X8_cutWord_44
  refine sp_spells (by decide) h h5 h6 hse he ?_
  cases e0 : spB f s e 0
  rotate_left 1
  · simp only [wT, e0, ite_true] at kk
    simp (disch := first | assumption | omega) only [l0, l1, l2, l3, l4, l5, l6, l7, l8, l9, l10, l20, l60, l61, l62, bb_t, bb_f, l100, l120, l512, l400, l401, l700, l9999, nm1, lm1, nlt, nle, neq, glt, gle, lgt, lge, geq, egq, mI_l, mI_e, e_mI, l_mI, le_mI, mI_le, bI_z, nC, vnI, nI_add, nI_sb, nI_mul, a1m, qs_eq, qs_nc, qs_ni, qs_nk, bq_l, bq_r, bq_l', bq_r', bq_t, bq_f, bq_t', bq_f', bq_n, bq_m, iT, iS, iN, true_and, and_true, eq_self, not_true_eq_false, not_false_eq_true, forall_const, bx_t, bx_f, reduceCtorEq, Option.some.injEq, forall_eq', ite_true, ite_false]
    exact sp_add hN h4 h5 kk
  simp (disch := first | assumption | omega) only [wp_X8_kindSpelt, l0, l1, l2, l3, l4, l5, l6, l7, l8, l9, l10, l20, l60, l61, l62, bb_t, bb_f, l100, l120, l512, l400, l401, l700, l9999, nm1, lm1, nlt, nle, neq, glt, gle, lgt, lge, geq, egq, mI_l, mI_e, e_mI, l_mI, le_mI, mI_le, bI_z, nC, vnI, nI_add, nI_sb, nI_mul, a1m, qs_eq, qs_nc, qs_ni, qs_nk, bq_l, bq_r, bq_l', bq_r', bq_t, bq_f, bq_t', bq_f', bq_n, bq_m, iT, iS, iN, true_and, and_true, eq_self, not_true_eq_false, not_false_eq_true, forall_const, bx_t, bx_f, reduceCtorEq, Option.some.injEq, forall_eq', ite_true, ite_false]
  refine sp_spells (by decide) h h5 h6 hse he ?_
  cases e1 : spB f s e 1
  rotate_left 1
  · simp only [wT, e0, e1, ite_true, ite_false, Bool.false_eq_true] at kk
    simp (disch := first | assumption | omega) only [l0, l1, l2, l3, l4, l5, l6, l7, l8, l9, l10, l20, l60, l61, l62, bb_t, bb_f, l100, l120, l512, l400, l401, l700, l9999, nm1, lm1, nlt, nle, neq, glt, gle, lgt, lge, geq, egq, mI_l, mI_e, e_mI, l_mI, le_mI, mI_le, bI_z, nC, vnI, nI_add, nI_sb, nI_mul, a1m, qs_eq, qs_nc, qs_ni, qs_nk, bq_l, bq_r, bq_l', bq_r', bq_t, bq_f, bq_t', bq_f', bq_n, bq_m, iT, iS, iN, true_and, and_true, eq_self, not_true_eq_false, not_false_eq_true, forall_const, bx_t, bx_f, reduceCtorEq, Option.some.injEq, forall_eq', ite_true, ite_false]
    exact sp_add hN h4 h5 kk
  simp (disch := first | assumption | omega) only [l0, l1, l2, l3, l4, l5, l6, l7, l8, l9, l10, l20, l60, l61, l62, bb_t, bb_f, l100, l120, l512, l400, l401, l700, l9999, nm1, lm1, nlt, nle, neq, glt, gle, lgt, lge, geq, egq, mI_l, mI_e, e_mI, l_mI, le_mI, mI_le, bI_z, nC, vnI, nI_add, nI_sb, nI_mul, a1m, qs_eq, qs_nc, qs_ni, qs_nk, bq_l, bq_r, bq_l', bq_r', bq_t, bq_f, bq_t', bq_f', bq_n, bq_m, iT, iS, iN, true_and, and_true, eq_self, not_true_eq_false, not_false_eq_true, forall_const, bx_t, bx_f, reduceCtorEq, Option.some.injEq, forall_eq', ite_true, ite_false]
  refine sp_spells (by decide) h h5 h6 hse he ?_
  cases e2 : spB f s e 2
  rotate_left 1
  · simp only [wT, e0, e1, e2, ite_true, ite_false, Bool.false_eq_true] at kk
    simp (disch := first | assumption | omega) only [l0, l1, l2, l3, l4, l5, l6, l7, l8, l9, l10, l20, l60, l61, l62, bb_t, bb_f, l100, l120, l512, l400, l401, l700, l9999, nm1, lm1, nlt, nle, neq, glt, gle, lgt, lge, geq, egq, mI_l, mI_e, e_mI, l_mI, le_mI, mI_le, bI_z, nC, vnI, nI_add, nI_sb, nI_mul, a1m, qs_eq, qs_nc, qs_ni, qs_nk, bq_l, bq_r, bq_l', bq_r', bq_t, bq_f, bq_t', bq_f', bq_n, bq_m, iT, iS, iN, true_and, and_true, eq_self, not_true_eq_false, not_false_eq_true, forall_const, bx_t, bx_f, reduceCtorEq, Option.some.injEq, forall_eq', ite_true, ite_false]
    exact sp_add hN h4 h5 kk
  simp (disch := first | assumption | omega) only [l0, l1, l2, l3, l4, l5, l6, l7, l8, l9, l10, l20, l60, l61, l62, bb_t, bb_f, l100, l120, l512, l400, l401, l700, l9999, nm1, lm1, nlt, nle, neq, glt, gle, lgt, lge, geq, egq, mI_l, mI_e, e_mI, l_mI, le_mI, mI_le, bI_z, nC, vnI, nI_add, nI_sb, nI_mul, a1m, qs_eq, qs_nc, qs_ni, qs_nk, bq_l, bq_r, bq_l', bq_r', bq_t, bq_f, bq_t', bq_f', bq_n, bq_m, iT, iS, iN, true_and, and_true, eq_self, not_true_eq_false, not_false_eq_true, forall_const, bx_t, bx_f, reduceCtorEq, Option.some.injEq, forall_eq', ite_true, ite_false]
  refine sp_spells (by decide) h h5 h6 hse he ?_
  cases e3 : spB f s e 3
  rotate_left 1
  · simp only [wT, e0, e1, e2, e3, ite_true, ite_false, Bool.false_eq_true] at kk
    simp (disch := first | assumption | omega) only [l0, l1, l2, l3, l4, l5, l6, l7, l8, l9, l10, l20, l60, l61, l62, bb_t, bb_f, l100, l120, l512, l400, l401, l700, l9999, nm1, lm1, nlt, nle, neq, glt, gle, lgt, lge, geq, egq, mI_l, mI_e, e_mI, l_mI, le_mI, mI_le, bI_z, nC, vnI, nI_add, nI_sb, nI_mul, a1m, qs_eq, qs_nc, qs_ni, qs_nk, bq_l, bq_r, bq_l', bq_r', bq_t, bq_f, bq_t', bq_f', bq_n, bq_m, iT, iS, iN, true_and, and_true, eq_self, not_true_eq_false, not_false_eq_true, forall_const, bx_t, bx_f, reduceCtorEq, Option.some.injEq, forall_eq', ite_true, ite_false]
    exact sp_add hN h4 h5 kk
  simp (disch := first | assumption | omega) only [l0, l1, l2, l3, l4, l5, l6, l7, l8, l9, l10, l20, l60, l61, l62, bb_t, bb_f, l100, l120, l512, l400, l401, l700, l9999, nm1, lm1, nlt, nle, neq, glt, gle, lgt, lge, geq, egq, mI_l, mI_e, e_mI, l_mI, le_mI, mI_le, bI_z, nC, vnI, nI_add, nI_sb, nI_mul, a1m, qs_eq, qs_nc, qs_ni, qs_nk, bq_l, bq_r, bq_l', bq_r', bq_t, bq_f, bq_t', bq_f', bq_n, bq_m, iT, iS, iN, true_and, and_true, eq_self, not_true_eq_false, not_false_eq_true, forall_const, bx_t, bx_f, reduceCtorEq, Option.some.injEq, forall_eq', ite_true, ite_false]
  refine sp_spells (by decide) h h5 h6 hse he ?_
  cases e4 : spB f s e 4
  rotate_left 1
  · simp only [wT, e0, e1, e2, e3, e4, ite_true, ite_false, Bool.false_eq_true] at kk
    simp (disch := first | assumption | omega) only [l0, l1, l2, l3, l4, l5, l6, l7, l8, l9, l10, l20, l60, l61, l62, bb_t, bb_f, l100, l120, l512, l400, l401, l700, l9999, nm1, lm1, nlt, nle, neq, glt, gle, lgt, lge, geq, egq, mI_l, mI_e, e_mI, l_mI, le_mI, mI_le, bI_z, nC, vnI, nI_add, nI_sb, nI_mul, a1m, qs_eq, qs_nc, qs_ni, qs_nk, bq_l, bq_r, bq_l', bq_r', bq_t, bq_f, bq_t', bq_f', bq_n, bq_m, iT, iS, iN, true_and, and_true, eq_self, not_true_eq_false, not_false_eq_true, forall_const, bx_t, bx_f, reduceCtorEq, Option.some.injEq, forall_eq', ite_true, ite_false]
    exact sp_add hN h4 h5 kk
  simp (disch := first | assumption | omega) only [wp_X8_measureSpelt, l0, l1, l2, l3, l4, l5, l6, l7, l8, l9, l10, l20, l60, l61, l62, bb_t, bb_f, l100, l120, l512, l400, l401, l700, l9999, nm1, lm1, nlt, nle, neq, glt, gle, lgt, lge, geq, egq, mI_l, mI_e, e_mI, l_mI, le_mI, mI_le, bI_z, nC, vnI, nI_add, nI_sb, nI_mul, a1m, qs_eq, qs_nc, qs_ni, qs_nk, bq_l, bq_r, bq_l', bq_r', bq_t, bq_f, bq_t', bq_f', bq_n, bq_m, iT, iS, iN, true_and, and_true, eq_self, not_true_eq_false, not_false_eq_true, forall_const, bx_t, bx_f, reduceCtorEq, Option.some.injEq, forall_eq', ite_true, ite_false]
  refine sp_spells (by decide) h h5 h6 hse he ?_
  cases e5 : spB f s e 5
  rotate_left 1
  · simp only [wT, e0, e1, e2, e3, e4, e5, ite_true, ite_false, Bool.false_eq_true] at kk
    simp (disch := first | assumption | omega) only [l0, l1, l2, l3, l4, l5, l6, l7, l8, l9, l10, l20, l60, l61, l62, bb_t, bb_f, l100, l120, l512, l400, l401, l700, l9999, nm1, lm1, nlt, nle, neq, glt, gle, lgt, lge, geq, egq, mI_l, mI_e, e_mI, l_mI, le_mI, mI_le, bI_z, nC, vnI, nI_add, nI_sb, nI_mul, a1m, qs_eq, qs_nc, qs_ni, qs_nk, bq_l, bq_r, bq_l', bq_r', bq_t, bq_f, bq_t', bq_f', bq_n, bq_m, iT, iS, iN, true_and, and_true, eq_self, not_true_eq_false, not_false_eq_true, forall_const, bx_t, bx_f, reduceCtorEq, Option.some.injEq, forall_eq', ite_true, ite_false]
    exact sp_add hN h4 h5 kk
  simp (disch := first | assumption | omega) only [l0, l1, l2, l3, l4, l5, l6, l7, l8, l9, l10, l20, l60, l61, l62, bb_t, bb_f, l100, l120, l512, l400, l401, l700, l9999, nm1, lm1, nlt, nle, neq, glt, gle, lgt, lge, geq, egq, mI_l, mI_e, e_mI, l_mI, le_mI, mI_le, bI_z, nC, vnI, nI_add, nI_sb, nI_mul, a1m, qs_eq, qs_nc, qs_ni, qs_nk, bq_l, bq_r, bq_l', bq_r', bq_t, bq_f, bq_t', bq_f', bq_n, bq_m, iT, iS, iN, true_and, and_true, eq_self, not_true_eq_false, not_false_eq_true, forall_const, bx_t, bx_f, reduceCtorEq, Option.some.injEq, forall_eq', ite_true, ite_false]
  refine sp_spells (by decide) h h5 h6 hse he ?_
  cases e6 : spB f s e 6
  rotate_left 1
  · simp only [wT, e0, e1, e2, e3, e4, e5, e6, ite_true, ite_false, Bool.false_eq_true] at kk
    simp (disch := first | assumption | omega) only [l0, l1, l2, l3, l4, l5, l6, l7, l8, l9, l10, l20, l60, l61, l62, bb_t, bb_f, l100, l120, l512, l400, l401, l700, l9999, nm1, lm1, nlt, nle, neq, glt, gle, lgt, lge, geq, egq, mI_l, mI_e, e_mI, l_mI, le_mI, mI_le, bI_z, nC, vnI, nI_add, nI_sb, nI_mul, a1m, qs_eq, qs_nc, qs_ni, qs_nk, bq_l, bq_r, bq_l', bq_r', bq_t, bq_f, bq_t', bq_f', bq_n, bq_m, iT, iS, iN, true_and, and_true, eq_self, not_true_eq_false, not_false_eq_true, forall_const, bx_t, bx_f, reduceCtorEq, Option.some.injEq, forall_eq', ite_true, ite_false]
    exact sp_add hN h4 h5 kk
  simp (disch := first | assumption | omega) only [l0, l1, l2, l3, l4, l5, l6, l7, l8, l9, l10, l20, l60, l61, l62, bb_t, bb_f, l100, l120, l512, l400, l401, l700, l9999, nm1, lm1, nlt, nle, neq, glt, gle, lgt, lge, geq, egq, mI_l, mI_e, e_mI, l_mI, le_mI, mI_le, bI_z, nC, vnI, nI_add, nI_sb, nI_mul, a1m, qs_eq, qs_nc, qs_ni, qs_nk, bq_l, bq_r, bq_l', bq_r', bq_t, bq_f, bq_t', bq_f', bq_n, bq_m, iT, iS, iN, true_and, and_true, eq_self, not_true_eq_false, not_false_eq_true, forall_const, bx_t, bx_f, reduceCtorEq, Option.some.injEq, forall_eq', ite_true, ite_false]
  refine sp_spells (by decide) h h5 h6 hse he ?_
  cases e7 : spB f s e 7
  rotate_left 1
  · simp only [wT, e0, e1, e2, e3, e4, e5, e6, e7, ite_true, ite_false, Bool.false_eq_true] at kk
    simp (disch := first | assumption | omega) only [l0, l1, l2, l3, l4, l5, l6, l7, l8, l9, l10, l20, l60, l61, l62, bb_t, bb_f, l100, l120, l512, l400, l401, l700, l9999, nm1, lm1, nlt, nle, neq, glt, gle, lgt, lge, geq, egq, mI_l, mI_e, e_mI, l_mI, le_mI, mI_le, bI_z, nC, vnI, nI_add, nI_sb, nI_mul, a1m, qs_eq, qs_nc, qs_ni, qs_nk, bq_l, bq_r, bq_l', bq_r', bq_t, bq_f, bq_t', bq_f', bq_n, bq_m, iT, iS, iN, true_and, and_true, eq_self, not_true_eq_false, not_false_eq_true, forall_const, bx_t, bx_f, reduceCtorEq, Option.some.injEq, forall_eq', ite_true, ite_false]
    exact sp_add hN h4 h5 kk
  simp only [wT, e0, e1, e2, e3, e4, e5, e6, e7, ite_false, Bool.false_eq_true] at kk
  simp (disch := first | assumption | omega) only [l0, l1, l2, l3, l4, l5, l6, l7, l8, l9, l10, l20, l60, l61, l62, bb_t, bb_f, l100, l120, l512, l400, l401, l700, l9999, nm1, lm1, nlt, nle, neq, glt, gle, lgt, lge, geq, egq, mI_l, mI_e, e_mI, l_mI, le_mI, mI_le, bI_z, nC, vnI, nI_add, nI_sb, nI_mul, a1m, qs_eq, qs_nc, qs_ni, qs_nk, bq_l, bq_r, bq_l', bq_r', bq_t, bq_f, bq_t', bq_f', bq_n, bq_m, iT, iS, iN, true_and, and_true, eq_self, not_true_eq_false, not_false_eq_true, forall_const, bx_t, bx_f, reduceCtorEq, Option.some.injEq, forall_eq', ite_true, ite_false]
  exact sp_add hN h4 h5 kk
theorem sl_cutWord0 {t p T : Nat} {f : Nat → Nat} {a : qa} {post : Int32 → qa → Prop} (h : TP f T a) : ∀ (m j : Nat), j + m = T → wl_X8_cutWord_44 t p post (qs a 8 0 6 (nI (scn (lB f) T j))) → wl_X8_cutWord_0 t p post (m + 1) (qs a 8 0 6 (nI j)) := by
  have hT := h.1
  have h1 := h.2.1
  intro m
  induction m with
  | zero =>
    intro j hj kk
    obtain rfl : j = T := by omega
    rw [scn_e (Nat.le_refl _)] at kk
    simp (disch := first | assumption | omega) only [wl_X8_cutWord_0, h1, l0, l1, l2, l3, l4, l5, l6, l7, l8, l9, l10, l20, l60, l61, l62, bb_t, bb_f, l100, l120, l512, l400, l401, l700, l9999, nm1, lm1, nlt, nle, neq, glt, gle, lgt, lge, geq, egq, mI_l, mI_e, e_mI, l_mI, le_mI, mI_le, bI_z, nC, vnI, nI_add, nI_sb, nI_mul, a1m, qs_eq, qs_nc, qs_ni, qs_nk, bq_l, bq_r, bq_l', bq_r', bq_t, bq_f, bq_t', bq_f', bq_n, bq_m, iT, iS, iN, true_and, and_true, eq_self, not_true_eq_false, not_false_eq_true, forall_const, bx_t, bx_f, reduceCtorEq, Option.some.injEq, forall_eq', ite_true, ite_false]
    exact kk
  | succ m ih =>
    intro j hj kk
    unfold wl_X8_cutWord_0
    simp (disch := first | assumption | omega) only [h1, l0, l1, l2, l3, l4, l5, l6, l7, l8, l9, l10, l20, l60, l61, l62, bb_t, bb_f, l100, l120, l512, l400, l401, l700, l9999, nm1, lm1, nlt, nle, neq, glt, gle, lgt, lge, geq, egq, mI_l, mI_e, e_mI, l_mI, le_mI, mI_le, bI_z, nC, vnI, nI_add, nI_sb, nI_mul, a1m, qs_eq, qs_nc, qs_ni, qs_nk, bq_l, bq_r, bq_l', bq_r', bq_t, bq_f, bq_t', bq_f', bq_n, bq_m, iT, iS, iN, true_and, and_true, eq_self, not_true_eq_false, not_false_eq_true, forall_const, bx_t, bx_f, reduceCtorEq, Option.some.injEq, forall_eq', ite_true, ite_false]
    refine sp_byteAt h.q8 (by omega) (sp_isLetter (h.2.2 j (by omega)).1 (fun c => ?_) (fun c => ?_))
    · rw [scn_y (by omega) (lB_i.mpr c)] at kk
      simp (disch := first | assumption | omega) only [qs_qs, l0, l1, l2, l3, l4, l5, l6, l7, l8, l9, l10, l20, l60, l61, l62, bb_t, bb_f, l100, l120, l512, l400, l401, l700, l9999, nm1, lm1, nlt, nle, neq, glt, gle, lgt, lge, geq, egq, mI_l, mI_e, e_mI, l_mI, le_mI, mI_le, bI_z, nC, vnI, nI_add, nI_sb, nI_mul, a1m, qs_eq, qs_nc, qs_ni, qs_nk, bq_l, bq_r, bq_l', bq_r', bq_t, bq_f, bq_t', bq_f', bq_n, bq_m, iT, iS, iN, true_and, and_true, eq_self, not_true_eq_false, not_false_eq_true, forall_const, bx_t, bx_f, reduceCtorEq, Option.some.injEq, forall_eq', ite_true, ite_false]
      exact ih (j + 1) (by omega) kk
    · rw [scn_n (fun x => c (lB_i.mp x))] at kk
      simp (disch := first | assumption | omega) only [l0, l1, l2, l3, l4, l5, l6, l7, l8, l9, l10, l20, l60, l61, l62, bb_t, bb_f, l100, l120, l512, l400, l401, l700, l9999, nm1, lm1, nlt, nle, neq, glt, gle, lgt, lge, geq, egq, mI_l, mI_e, e_mI, l_mI, le_mI, mI_le, bI_z, nC, vnI, nI_add, nI_sb, nI_mul, a1m, qs_eq, qs_nc, qs_ni, qs_nk, bq_l, bq_r, bq_l', bq_r', bq_t, bq_f, bq_t', bq_f', bq_n, bq_m, iT, iS, iN, true_and, and_true, eq_self, not_true_eq_false, not_false_eq_true, forall_const, bx_t, bx_f, reduceCtorEq, Option.some.injEq, forall_eq', ite_true, ite_false]
      exact kk
theorem sl_num {t p T s e : Nat} {f : Nat → Nat} {a : qa} {post : Int32 → qa → Prop} (h : TP f T a) (h6 : a 8 0 6 = nI e) (he : e ≤ T) (kk : wp_X8_add t p 2 (nv f s (e - s)) a (fun r a' => post r a')) : ∀ (m n : Nat), s + n + m = e → wl_X8_cutNumber_71 t p post (m + 1) (nv f s n) (nI (s + n)) a := by
  have hT := h.1
  intro m
  induction m with
  | zero =>
    intro n hn
    have e1 : e - s = n := by omega
    rw [e1] at kk
    simp (disch := first | assumption | omega) only [wl_X8_cutNumber_71, h6, l0, l1, l2, l3, l4, l5, l6, l7, l8, l9, l10, l20, l60, l61, l62, bb_t, bb_f, l100, l120, l512, l400, l401, l700, l9999, nm1, lm1, nlt, nle, neq, glt, gle, lgt, lge, geq, egq, mI_l, mI_e, e_mI, l_mI, le_mI, mI_le, bI_z, nC, vnI, nI_add, nI_sb, nI_mul, a1m, qs_eq, qs_nc, qs_ni, qs_nk, bq_l, bq_r, bq_l', bq_r', bq_t, bq_f, bq_t', bq_f', bq_n, bq_m, iT, iS, iN, true_and, and_true, eq_self, not_true_eq_false, not_false_eq_true, forall_const, bx_t, bx_f, reduceCtorEq, Option.some.injEq, forall_eq', ite_true, ite_false]
    exact kk
  | succ m ih =>
    intro n hn
    unfold wl_X8_cutNumber_71
    simp (disch := first | assumption | omega) only [h6, l0, l1, l2, l3, l4, l5, l6, l7, l8, l9, l10, l20, l60, l61, l62, bb_t, bb_f, l100, l120, l512, l400, l401, l700, l9999, nm1, lm1, nlt, nle, neq, glt, gle, lgt, lge, geq, egq, mI_l, mI_e, e_mI, l_mI, le_mI, mI_le, bI_z, nC, vnI, nI_add, nI_sb, nI_mul, a1m, qs_eq, qs_nc, qs_ni, qs_nk, bq_l, bq_r, bq_l', bq_r', bq_t, bq_f, bq_t', bq_f', bq_n, bq_m, iT, iS, iN, true_and, and_true, eq_self, not_true_eq_false, not_false_eq_true, forall_const, bx_t, bx_f, reduceCtorEq, Option.some.injEq, forall_eq', ite_true, ite_false]
    refine sp_byteAt h (by omega) ?_
    have := ih (n + 1) (by omega)
    simp (disch := first | assumption | omega) only [l48, l0, l1, l2, l3, l4, l5, l6, l7, l8, l9, l10, l20, l60, l61, l62, bb_t, bb_f, l100, l120, l512, l400, l401, l700, l9999, nm1, lm1, nlt, nle, neq, glt, gle, lgt, lge, geq, egq, mI_l, mI_e, e_mI, l_mI, le_mI, mI_le, bI_z, nC, vnI, nI_add, nI_sb, nI_mul, a1m, qs_eq, qs_nc, qs_ni, qs_nk, bq_l, bq_r, bq_l', bq_r', bq_t, bq_f, bq_t', bq_f', bq_n, bq_m, iT, iS, iN, true_and, and_true, eq_self, not_true_eq_false, not_false_eq_true, forall_const, bx_t, bx_f, reduceCtorEq, Option.some.injEq, forall_eq', ite_true, ite_false]
    exact this
theorem sp_cutNumber44 {t p T s e N : Nat} {f : Nat → Nat} {a : qa} {post : Int32 → qa → Prop} (h : TP f T a) (hN : N ≤ 400) (h4 : a 8 0 4 = nI N) (h5 : a 8 0 5 = nI s) (h6 : a 8 0 6 = nI e) (hse : s ≤ e) (he : e ≤ T) (k1 : e - s ≤ 4 → post (nI 2) (adT a N s (nI 2) (nv f s (e - s)))) (k0 : ¬ e - s ≤ 4 → post (nI 1) (adT a N s (nI 1) (nI 0))) : wl_X8_cutNumber_44 t p post a := by
  have hT := h.1
  unfold wl_X8_cutNumber_44
  by_cases c : e - s ≤ 4
  · simp (disch := first | assumption | omega) only [h5, h6, l0, l1, l2, l3, l4, l5, l6, l7, l8, l9, l10, l20, l60, l61, l62, bb_t, bb_f, l100, l120, l512, l400, l401, l700, l9999, nm1, lm1, nlt, nle, neq, glt, gle, lgt, lge, geq, egq, mI_l, mI_e, e_mI, l_mI, le_mI, mI_le, bI_z, nC, vnI, nI_add, nI_sb, nI_mul, a1m, qs_eq, qs_nc, qs_ni, qs_nk, bq_l, bq_r, bq_l', bq_r', bq_t, bq_f, bq_t', bq_f', bq_n, bq_m, iT, iS, iN, true_and, and_true, eq_self, not_true_eq_false, not_false_eq_true, forall_const, bx_t, bx_f, reduceCtorEq, Option.some.injEq, forall_eq', ite_true, ite_false]
    exact ⟨_, sl_num h h6 he (sp_add hN h4 h5 (k1 c)) (e - s) 0 (by omega)⟩
  · simp (disch := first | assumption | omega) only [h5, h6, l0, l1, l2, l3, l4, l5, l6, l7, l8, l9, l10, l20, l60, l61, l62, bb_t, bb_f, l100, l120, l512, l400, l401, l700, l9999, nm1, lm1, nlt, nle, neq, glt, gle, lgt, lge, geq, egq, mI_l, mI_e, e_mI, l_mI, le_mI, mI_le, bI_z, nC, vnI, nI_add, nI_sb, nI_mul, a1m, qs_eq, qs_nc, qs_ni, qs_nk, bq_l, bq_r, bq_l', bq_r', bq_t, bq_f, bq_t', bq_f', bq_n, bq_m, iT, iS, iN, true_and, and_true, eq_self, not_true_eq_false, not_false_eq_true, forall_const, bx_t, bx_f, reduceCtorEq, Option.some.injEq, forall_eq', ite_true, ite_false]
    exact sp_add hN h4 h5 (k0 c)
theorem sl_cutNumber0 {t p T : Nat} {f : Nat → Nat} {a : qa} {post : Int32 → qa → Prop} (h : TP f T a) : ∀ (m j : Nat), j + m = T → wl_X8_cutNumber_44 t p post (qs a 8 0 6 (nI (scn (dB f) T j))) → wl_X8_cutNumber_0 t p post (m + 1) (qs a 8 0 6 (nI j)) := by
  have hT := h.1
  have h1 := h.2.1
  intro m
  induction m with
  | zero =>
    intro j hj kk
    obtain rfl : j = T := by omega
    rw [scn_e (Nat.le_refl _)] at kk
    simp (disch := first | assumption | omega) only [wl_X8_cutNumber_0, h1, l0, l1, l2, l3, l4, l5, l6, l7, l8, l9, l10, l20, l60, l61, l62, bb_t, bb_f, l100, l120, l512, l400, l401, l700, l9999, nm1, lm1, nlt, nle, neq, glt, gle, lgt, lge, geq, egq, mI_l, mI_e, e_mI, l_mI, le_mI, mI_le, bI_z, nC, vnI, nI_add, nI_sb, nI_mul, a1m, qs_eq, qs_nc, qs_ni, qs_nk, bq_l, bq_r, bq_l', bq_r', bq_t, bq_f, bq_t', bq_f', bq_n, bq_m, iT, iS, iN, true_and, and_true, eq_self, not_true_eq_false, not_false_eq_true, forall_const, bx_t, bx_f, reduceCtorEq, Option.some.injEq, forall_eq', ite_true, ite_false]
    exact kk
  | succ m ih =>
    intro j hj kk
    unfold wl_X8_cutNumber_0
    simp (disch := first | assumption | omega) only [h1, l0, l1, l2, l3, l4, l5, l6, l7, l8, l9, l10, l20, l60, l61, l62, bb_t, bb_f, l100, l120, l512, l400, l401, l700, l9999, nm1, lm1, nlt, nle, neq, glt, gle, lgt, lge, geq, egq, mI_l, mI_e, e_mI, l_mI, le_mI, mI_le, bI_z, nC, vnI, nI_add, nI_sb, nI_mul, a1m, qs_eq, qs_nc, qs_ni, qs_nk, bq_l, bq_r, bq_l', bq_r', bq_t, bq_f, bq_t', bq_f', bq_n, bq_m, iT, iS, iN, true_and, and_true, eq_self, not_true_eq_false, not_false_eq_true, forall_const, bx_t, bx_f, reduceCtorEq, Option.some.injEq, forall_eq', ite_true, ite_false]
    refine sp_byteAt h.q8 (by omega) (sp_isDigit8 (h.2.2 j (by omega)).1 (fun c => ?_) (fun c => ?_))
    · rw [scn_y (by omega) (dB_i.mpr c)] at kk
      simp (disch := first | assumption | omega) only [qs_qs, l0, l1, l2, l3, l4, l5, l6, l7, l8, l9, l10, l20, l60, l61, l62, bb_t, bb_f, l100, l120, l512, l400, l401, l700, l9999, nm1, lm1, nlt, nle, neq, glt, gle, lgt, lge, geq, egq, mI_l, mI_e, e_mI, l_mI, le_mI, mI_le, bI_z, nC, vnI, nI_add, nI_sb, nI_mul, a1m, qs_eq, qs_nc, qs_ni, qs_nk, bq_l, bq_r, bq_l', bq_r', bq_t, bq_f, bq_t', bq_f', bq_n, bq_m, iT, iS, iN, true_and, and_true, eq_self, not_true_eq_false, not_false_eq_true, forall_const, bx_t, bx_f, reduceCtorEq, Option.some.injEq, forall_eq', ite_true, ite_false]
      exact ih (j + 1) (by omega) kk
    · rw [scn_n (fun x => c (dB_i.mp x))] at kk
      simp (disch := first | assumption | omega) only [l0, l1, l2, l3, l4, l5, l6, l7, l8, l9, l10, l20, l60, l61, l62, bb_t, bb_f, l100, l120, l512, l400, l401, l700, l9999, nm1, lm1, nlt, nle, neq, glt, gle, lgt, lge, geq, egq, mI_l, mI_e, e_mI, l_mI, le_mI, mI_le, bI_z, nC, vnI, nI_add, nI_sb, nI_mul, a1m, qs_eq, qs_nc, qs_ni, qs_nk, bq_l, bq_r, bq_l', bq_r', bq_t, bq_f, bq_t', bq_f', bq_n, bq_m, iT, iS, iN, true_and, and_true, eq_self, not_true_eq_false, not_false_eq_true, forall_const, bx_t, bx_f, reduceCtorEq, Option.some.injEq, forall_eq', ite_true, ite_false]
      exact kk
set_option maxHeartbeats 4000000 in
theorem sp_cutToken52 {t p T i N : Nat} {f : Nat → Nat} {a : qa} {post : Int32 → qa → Prop} (h : TP f T a) (hN : N ≤ 400) (h4 : a 8 0 4 = nI N) (h5 : a 8 0 5 = nI (tF f T i)) (hi : i ≤ T) (kk : post (nI (tk f T i).1) (adT (qs a 8 0 6 (nI (tB f T i))) N (tF f T i) (nI (tk f T i).1) (tk f T i).2)) : wl_X8_cutToken_52 t p post a := by
  have hT := h.1
  have hF := tF_b (f := f) hi
  unfold tk tB at kk
  generalize tF f T i = s at *
  unfold wl_X8_cutToken_52
  simp (disch := first | assumption | omega) only [h5, l0, l1, l2, l3, l4, l5, l6, l7, l8, l9, l10, l20, l60, l61, l62, bb_t, bb_f, l100, l120, l512, l400, l401, l700, l9999, nm1, lm1, nlt, nle, neq, glt, gle, lgt, lge, geq, egq, mI_l, mI_e, e_mI, l_mI, le_mI, mI_le, bI_z, nC, vnI, nI_add, nI_sb, nI_mul, a1m, qs_eq, qs_nc, qs_ni, qs_nk, bq_l, bq_r, bq_l', bq_r', bq_t, bq_f, bq_t', bq_f', bq_n, bq_m, iT, iS, iN, true_and, and_true, eq_self, not_true_eq_false, not_false_eq_true, forall_const, bx_t, bx_f, reduceCtorEq, Option.some.injEq, forall_eq', ite_true, ite_false]
  by_cases c : s < T
  · simp only [if_pos c] at kk
    have hs := (h.2.2 s c).1
    have hE := tE_b (f := f) c
    refine sp_byteAt h c ?_
    simp (disch := first | assumption | omega) only [wl_X8_cutToken_83, h5, l0, l1, l2, l3, l4, l5, l6, l7, l8, l9, l10, l20, l60, l61, l62, bb_t, bb_f, l100, l120, l512, l400, l401, l700, l9999, nm1, lm1, nlt, nle, neq, glt, gle, lgt, lge, geq, egq, mI_l, mI_e, e_mI, l_mI, le_mI, mI_le, bI_z, nC, vnI, nI_add, nI_sb, nI_mul, a1m, qs_eq, qs_nc, qs_ni, qs_nk, bq_l, bq_r, bq_l', bq_r', bq_t, bq_f, bq_t', bq_f', bq_n, bq_m, iT, iS, iN, true_and, and_true, eq_self, not_true_eq_false, not_false_eq_true, forall_const, bx_t, bx_f, reduceCtorEq, Option.some.injEq, forall_eq', ite_true, ite_false]
    refine sp_isLetter hs (fun d => ?_) (fun d => ?_)
    · simp only [if_pos (lB_i.mpr d)] at kk
      have hE2 : tE f T s = scn (lB f) T (s + 1) := if_pos (lB_i.mpr d)
      simp (disch := first | assumption | omega) only [l0, l1, l2, l3, l4, l5, l6, l7, l8, l9, l10, l20, l60, l61, l62, bb_t, bb_f, l100, l120, l512, l400, l401, l700, l9999, nm1, lm1, nlt, nle, neq, glt, gle, lgt, lge, geq, egq, mI_l, mI_e, e_mI, l_mI, le_mI, mI_le, bI_z, nC, vnI, nI_add, nI_sb, nI_mul, a1m, qs_eq, qs_nc, qs_ni, qs_nk, bq_l, bq_r, bq_l', bq_r', bq_t, bq_f, bq_t', bq_f', bq_n, bq_m, iT, iS, iN, true_and, and_true, eq_self, not_true_eq_false, not_false_eq_true, forall_const, bx_t, bx_f, reduceCtorEq, Option.some.injEq, forall_eq', ite_true, ite_false]
      refine ⟨_, sl_cutWord0 h (T - (s + 1)) (s + 1) (by omega) ?_⟩
      rw [← hE2]
      exact sp_cutWord44 h.q8 hN h4 h5 (by rw [qs_eq]) (by omega) hE.2 kk
    · simp only [if_neg (fun x => d (lB_i.mp x))] at kk
      simp (disch := first | assumption | omega) only [l0, l1, l2, l3, l4, l5, l6, l7, l8, l9, l10, l20, l60, l61, l62, bb_t, bb_f, l100, l120, l512, l400, l401, l700, l9999, nm1, lm1, nlt, nle, neq, glt, gle, lgt, lge, geq, egq, mI_l, mI_e, e_mI, l_mI, le_mI, mI_le, bI_z, nC, vnI, nI_add, nI_sb, nI_mul, a1m, qs_eq, qs_nc, qs_ni, qs_nk, bq_l, bq_r, bq_l', bq_r', bq_t, bq_f, bq_t', bq_f', bq_n, bq_m, iT, iS, iN, true_and, and_true, eq_self, not_true_eq_false, not_false_eq_true, forall_const, bx_t, bx_f, reduceCtorEq, Option.some.injEq, forall_eq', ite_true, ite_false]
      refine sp_isDigit8 hs (fun g => ?_) (fun g => ?_)
      · simp only [if_pos (dB_i.mpr g)] at kk
        have hE2 : tE f T s = scn (dB f) T (s + 1) := by unfold tE; rw [if_neg (fun x => d (lB_i.mp x)), if_pos (dB_i.mpr g)]
        simp (disch := first | assumption | omega) only [l0, l1, l2, l3, l4, l5, l6, l7, l8, l9, l10, l20, l60, l61, l62, bb_t, bb_f, l100, l120, l512, l400, l401, l700, l9999, nm1, lm1, nlt, nle, neq, glt, gle, lgt, lge, geq, egq, mI_l, mI_e, e_mI, l_mI, le_mI, mI_le, bI_z, nC, vnI, nI_add, nI_sb, nI_mul, a1m, qs_eq, qs_nc, qs_ni, qs_nk, bq_l, bq_r, bq_l', bq_r', bq_t, bq_f, bq_t', bq_f', bq_n, bq_m, iT, iS, iN, true_and, and_true, eq_self, not_true_eq_false, not_false_eq_true, forall_const, bx_t, bx_f, reduceCtorEq, Option.some.injEq, forall_eq', ite_true, ite_false]
        refine ⟨_, sl_cutNumber0 h (T - (s + 1)) (s + 1) (by omega) ?_⟩
        rw [← hE2]
        refine sp_cutNumber44 h.q8 hN h4 h5 (by rw [qs_eq]) (by omega) hE.2 (fun q => ?_) (fun q => ?_)
        · simp only [if_pos q] at kk
          exact kk
        · simp only [if_neg q] at kk
          exact kk
      · simp only [if_neg (fun x => g (dB_i.mp x))] at kk
        have hE2 : tE f T s = s + 1 := by unfold tE; rw [if_neg (fun x => d (lB_i.mp x)), if_neg (fun x => g (dB_i.mp x))]
        rw [hE2] at kk
        simp (disch := first | assumption | omega) only [l0, l1, l2, l3, l4, l5, l6, l7, l8, l9, l10, l20, l60, l61, l62, bb_t, bb_f, l100, l120, l512, l400, l401, l700, l9999, nm1, lm1, nlt, nle, neq, glt, gle, lgt, lge, geq, egq, mI_l, mI_e, e_mI, l_mI, le_mI, mI_le, bI_z, nC, vnI, nI_add, nI_sb, nI_mul, a1m, qs_eq, qs_nc, qs_ni, qs_nk, bq_l, bq_r, bq_l', bq_r', bq_t, bq_f, bq_t', bq_f', bq_n, bq_m, iT, iS, iN, true_and, and_true, eq_self, not_true_eq_false, not_false_eq_true, forall_const, bx_t, bx_f, reduceCtorEq, Option.some.injEq, forall_eq', ite_true, ite_false]
        refine sp_signType hs ?_
        exact sp_add hN h4 h5 kk
  · simp only [if_neg c] at kk
    refine sp_byteAt0 h (by omega) (by omega) ?_
    simp (disch := first | assumption | omega) only [wl_X8_cutToken_83, h5, l0, l1, l2, l3, l4, l5, l6, l7, l8, l9, l10, l20, l60, l61, l62, bb_t, bb_f, l100, l120, l512, l400, l401, l700, l9999, nm1, lm1, nlt, nle, neq, glt, gle, lgt, lge, geq, egq, mI_l, mI_e, e_mI, l_mI, le_mI, mI_le, bI_z, nC, vnI, nI_add, nI_sb, nI_mul, a1m, qs_eq, qs_nc, qs_ni, qs_nk, bq_l, bq_r, bq_l', bq_r', bq_t, bq_f, bq_t', bq_f', bq_n, bq_m, iT, iS, iN, true_and, and_true, eq_self, not_true_eq_false, not_false_eq_true, forall_const, bx_t, bx_f, reduceCtorEq, Option.some.injEq, forall_eq', ite_true, ite_false]
    exact sp_add hN h4 h5 kk
theorem sl_skip {t p T : Nat} {f : Nat → Nat} {a : qa} {post : Int32 → qa → Prop} (h : TP f T a) : ∀ (m j : Nat), j + m = T → wl_X8_cutToken_52 t p post (qs a 8 0 5 (nI (scn (bB f) T j))) → wl_X8_cutToken_8 t p post (m + 1) (qs a 8 0 5 (nI j)) := by
  have hT := h.1
  have h1 := h.2.1
  intro m
  induction m with
  | zero =>
    intro j hj kk
    obtain rfl : j = T := by omega
    rw [scn_e (Nat.le_refl _)] at kk
    simp (disch := first | assumption | omega) only [wl_X8_cutToken_8, h1, l0, l1, l2, l3, l4, l5, l6, l7, l8, l9, l10, l20, l60, l61, l62, bb_t, bb_f, l100, l120, l512, l400, l401, l700, l9999, nm1, lm1, nlt, nle, neq, glt, gle, lgt, lge, geq, egq, mI_l, mI_e, e_mI, l_mI, le_mI, mI_le, bI_z, nC, vnI, nI_add, nI_sb, nI_mul, a1m, qs_eq, qs_nc, qs_ni, qs_nk, bq_l, bq_r, bq_l', bq_r', bq_t, bq_f, bq_t', bq_f', bq_n, bq_m, iT, iS, iN, true_and, and_true, eq_self, not_true_eq_false, not_false_eq_true, forall_const, bx_t, bx_f, reduceCtorEq, Option.some.injEq, forall_eq', ite_true, ite_false]
    exact kk
  | succ m ih =>
    intro j hj kk
    unfold wl_X8_cutToken_8
    simp (disch := first | assumption | omega) only [h1, l0, l1, l2, l3, l4, l5, l6, l7, l8, l9, l10, l20, l60, l61, l62, bb_t, bb_f, l100, l120, l512, l400, l401, l700, l9999, nm1, lm1, nlt, nle, neq, glt, gle, lgt, lge, geq, egq, mI_l, mI_e, e_mI, l_mI, le_mI, mI_le, bI_z, nC, vnI, nI_add, nI_sb, nI_mul, a1m, qs_eq, qs_nc, qs_ni, qs_nk, bq_l, bq_r, bq_l', bq_r', bq_t, bq_f, bq_t', bq_f', bq_n, bq_m, iT, iS, iN, true_and, and_true, eq_self, not_true_eq_false, not_false_eq_true, forall_const, bx_t, bx_f, reduceCtorEq, Option.some.injEq, forall_eq', ite_true, ite_false]
    refine sp_byteAt h.q8 (by omega) (sp_isBlank (h.2.2 j (by omega)).1 (fun c => ?_) (fun c => ?_))
    · rw [scn_y (by omega) (bB_i.mpr c)] at kk
      simp (disch := first | assumption | omega) only [qs_qs, l0, l1, l2, l3, l4, l5, l6, l7, l8, l9, l10, l20, l60, l61, l62, bb_t, bb_f, l100, l120, l512, l400, l401, l700, l9999, nm1, lm1, nlt, nle, neq, glt, gle, lgt, lge, geq, egq, mI_l, mI_e, e_mI, l_mI, le_mI, mI_le, bI_z, nC, vnI, nI_add, nI_sb, nI_mul, a1m, qs_eq, qs_nc, qs_ni, qs_nk, bq_l, bq_r, bq_l', bq_r', bq_t, bq_f, bq_t', bq_f', bq_n, bq_m, iT, iS, iN, true_and, and_true, eq_self, not_true_eq_false, not_false_eq_true, forall_const, bx_t, bx_f, reduceCtorEq, Option.some.injEq, forall_eq', ite_true, ite_false]
      exact ih (j + 1) (by omega) kk
    · rw [scn_n (fun x => c (bB_i.mp x))] at kk
      simp (disch := first | assumption | omega) only [l0, l1, l2, l3, l4, l5, l6, l7, l8, l9, l10, l20, l60, l61, l62, bb_t, bb_f, l100, l120, l512, l400, l401, l700, l9999, nm1, lm1, nlt, nle, neq, glt, gle, lgt, lge, geq, egq, mI_l, mI_e, e_mI, l_mI, le_mI, mI_le, bI_z, nC, vnI, nI_add, nI_sb, nI_mul, a1m, qs_eq, qs_nc, qs_ni, qs_nk, bq_l, bq_r, bq_l', bq_r', bq_t, bq_f, bq_t', bq_f', bq_n, bq_m, iT, iS, iN, true_and, and_true, eq_self, not_true_eq_false, not_false_eq_true, forall_const, bx_t, bx_f, reduceCtorEq, Option.some.injEq, forall_eq', ite_true, ite_false]
      exact kk
theorem sp_cutToken {t p T i N : Nat} {f : Nat → Nat} {a : qa} {post : Int32 → qa → Prop} (h : TP f T a) (hN : N ≤ 400) (h4 : a 8 0 4 = nI N) (h6 : a 8 0 6 = nI i) (hi : i ≤ T) (kk : post (nI (tk f T i).1) (adT (qs (qs a 8 0 5 (nI (tF f T i))) 8 0 6 (nI (tB f T i))) N (tF f T i) (nI (tk f T i).1) (tk f T i).2)) : wp_X8_cutToken t p a post := by
  unfold wp_X8_cutToken
  rw [h6]
  exact ⟨_, sl_skip h (T - i) i (by omega) (sp_cutToken52 h.q8 hN h4 (by rw [qs_eq]; rfl) hi kk)⟩
/-- the tokens that the class has cut: N of them, the last the end -/
def TK (f : Nat → Nat) (T N : Nat) (a : qa) : Prop := ∀ n, n < N → a 33 0 n = nI (TT f T n) ∧ a 34 0 n = nI (PP f T n) ∧ a 35 0 n = VV f T n
def K8 (a a' : qa) : Prop := ∀ c, c ≠ 8 → c ≠ 33 → c ≠ 34 → c ≠ 35 → a' c = a c
theorem sl_cutTape {t p T : Nat} {f : Nat → Nat} {a0 : qa} {post : qa → Prop} (h : TP f T a0) (kk : ∀ (N : Nat) (a' : qa), 1 ≤ N → N ≤ 401 → a' 8 0 4 = nI N → TK f T N a' → K8 a0 a' → TT f T (N - 1) = 0 → (∀ n, n + 1 < N → TT f T n ≠ 0) → post a') : ∀ (m n : Nat) (a : qa), T - ps f T n ≤ m → (∀ k, k < n → TT f T k ≠ 0) → a 8 0 4 = nI n → a 8 0 6 = nI (ps f T n) → TK f T n a → K8 a0 a → ∀ x, x ≠ nI 0 → wl_X8_cutTape_14 t p post (m + 2) x (nI n) a := by
  have hT := h.1
  have key : ∀ (m n : Nat) (a : qa) (Q : Nat → Int32 → Int32 → qa → Prop), (∀ k, k < n → TT f T k ≠ 0) → a 8 0 4 = nI n → a 8 0 6 = nI (ps f T n) → TK f T n a → K8 a0 a → (∀ a', a' 8 0 4 = nI (n + 1) → a' 8 0 6 = nI (ps f T (n + 1)) → TK f T (n + 1) a' → K8 a0 a' → Q m (nI (TT f T n)) (nI (n + 1)) a') → wp_X8_cutToken t p a (fun r a' => Q m r (nI (n + 1)) a') := by
    intro m n a Q hn h4 h6 hK h8 kq
    have hp := ps_b f T n
    have hpn := ps_n n hn
    have hTP : TP f T a := by
      refine ⟨hT, ?_, fun j hj => ⟨(h.2.2 j hj).1, ?_⟩⟩
      · rw [h8 7 (by decide) (by decide) (by decide) (by decide)]; exact h.2.1
      · rw [h8 32 (by decide) (by decide) (by decide) (by decide)]; exact (h.2.2 j hj).2
    refine sp_cutToken hTP (by omega) h4 h6 hp ?_
    refine kq _ ?_ ?_ ?_ ?_
    · unfold adT; rw [qs_eq]
    · unfold adT
      rw [qs_nk (by decide), qs_nc (by decide), qs_nc (by decide), qs_nc (by decide), qs_eq]
      rfl
    · intro j hj
      unfold adT
      by_cases c : j = n
      · subst c
        refine ⟨?_, ?_, ?_⟩
        · rw [qs_nc (by decide), qs_nc (by decide), qs_nc (by decide), qs_eq]; rfl
        · rw [qs_nc (by decide), qs_nc (by decide), qs_eq]; rfl
        · rw [qs_nc (by decide), qs_eq]; rfl
      · have hK2 := hK j (by omega)
        refine ⟨?_, ?_, ?_⟩
        · rw [qs_nc (by decide), qs_nc (by decide), qs_nc (by decide), qs_nk c, qs_nc (by decide), qs_nc (by decide)]; exact hK2.1
        · rw [qs_nc (by decide), qs_nc (by decide), qs_nk c, qs_nc (by decide), qs_nc (by decide), qs_nc (by decide)]; exact hK2.2.1
        · rw [qs_nc (by decide), qs_nk c, qs_nc (by decide), qs_nc (by decide), qs_nc (by decide), qs_nc (by decide)]; exact hK2.2.2
    · intro c c1 c2 c3 c4
      rw [← h8 c c1 c2 c3 c4]
      funext i k
      unfold adT
      rw [qs_nc c1, qs_nc c4, qs_nc c3, qs_nc c2, qs_nc c1, qs_nc c1]
  have fin : ∀ (m n : Nat) (a : qa), TT f T n = 0 → (∀ k, k < n → TT f T k ≠ 0) → a 8 0 4 = nI (n + 1) → TK f T (n + 1) a → K8 a0 a → n ≤ 400 → wl_X8_cutTape_14 t p post (m + 1) (nI (TT f T n)) (nI (n + 1)) a := by
    intro m n a h0 hn h4 hK h8 hn4
    have r := kk (n + 1) a (by omega) (by omega) h4 hK h8 h0 (fun k hk => hn k (by omega))
    unfold wl_X8_cutTape_14
    rw [h0]
    by_cases c : 400 < n + 1
    · simp (disch := first | assumption | omega) only [l0, l1, l2, l3, l4, l5, l6, l7, l8, l9, l10, l20, l60, l61, l62, bb_t, bb_f, l100, l120, l512, l400, l401, l700, l9999, nm1, lm1, nlt, nle, neq, glt, gle, lgt, lge, geq, egq, mI_l, mI_e, e_mI, l_mI, le_mI, mI_le, bI_z, nC, vnI, nI_add, nI_sb, nI_mul, a1m, qs_eq, qs_nc, qs_ni, qs_nk, bq_l, bq_r, bq_l', bq_r', bq_t, bq_f, bq_t', bq_f', bq_n, bq_m, iT, iS, iN, true_and, and_true, eq_self, not_true_eq_false, not_false_eq_true, forall_const, bx_t, bx_f, reduceCtorEq, Option.some.injEq, forall_eq', ite_true, ite_false]
      exact r
    · simp (disch := first | assumption | omega) only [l0, l1, l2, l3, l4, l5, l6, l7, l8, l9, l10, l20, l60, l61, l62, bb_t, bb_f, l100, l120, l512, l400, l401, l700, l9999, nm1, lm1, nlt, nle, neq, glt, gle, lgt, lge, geq, egq, mI_l, mI_e, e_mI, l_mI, le_mI, mI_le, bI_z, nC, vnI, nI_add, nI_sb, nI_mul, a1m, qs_eq, qs_nc, qs_ni, qs_nk, bq_l, bq_r, bq_l', bq_r', bq_t, bq_f, bq_t', bq_f', bq_n, bq_m, iT, iS, iN, true_and, and_true, eq_self, not_true_eq_false, not_false_eq_true, forall_const, bx_t, bx_f, reduceCtorEq, Option.some.injEq, forall_eq', ite_true, ite_false]
      exact r
  intro m
  induction m with
  | zero =>
    intro n a hm hn h4 h6 hK h8 x hx
    have hpn := ps_n n hn
    have hpb := ps_b f T n
    unfold wl_X8_cutTape_14
    simp (disch := first | assumption | omega) only [hx, l0, l1, l2, l3, l4, l5, l6, l7, l8, l9, l10, l20, l60, l61, l62, bb_t, bb_f, l100, l120, l512, l400, l401, l700, l9999, nm1, lm1, nlt, nle, neq, glt, gle, lgt, lge, geq, egq, mI_l, mI_e, e_mI, l_mI, le_mI, mI_le, bI_z, nC, vnI, nI_add, nI_sb, nI_mul, a1m, qs_eq, qs_nc, qs_ni, qs_nk, bq_l, bq_r, bq_l', bq_r', bq_t, bq_f, bq_t', bq_f', bq_n, bq_m, iT, iS, iN, true_and, and_true, eq_self, not_true_eq_false, not_false_eq_true, forall_const, bx_t, bx_f, reduceCtorEq, Option.some.injEq, forall_eq', ite_true, ite_false]
    refine key _ n a (fun m r y a' => wl_X8_cutTape_14 t p post m r y a') hn h4 h6 hK h8 (fun a' b1 b2 b3 b4 => ?_)
    have h0 : TT f T n = 0 := by
      by_cases c : TT f T n = 0
      · exact c
      · have := (tB_b (ps_b f T n)).2.2 (TT_0 c)
        have := (tB_b (f := f) (ps_b f T n)).2.1
        have := ps_b f T n
        omega
    exact fin 0 n a' h0 hn b1 b3 b4 (by omega)
  | succ m ih =>
    intro n a hm hn h4 h6 hK h8 x hx
    have hpn := ps_n n hn
    have hpb := ps_b f T n
    unfold wl_X8_cutTape_14
    simp (disch := first | assumption | omega) only [hx, l0, l1, l2, l3, l4, l5, l6, l7, l8, l9, l10, l20, l60, l61, l62, bb_t, bb_f, l100, l120, l512, l400, l401, l700, l9999, nm1, lm1, nlt, nle, neq, glt, gle, lgt, lge, geq, egq, mI_l, mI_e, e_mI, l_mI, le_mI, mI_le, bI_z, nC, vnI, nI_add, nI_sb, nI_mul, a1m, qs_eq, qs_nc, qs_ni, qs_nk, bq_l, bq_r, bq_l', bq_r', bq_t, bq_f, bq_t', bq_f', bq_n, bq_m, iT, iS, iN, true_and, and_true, eq_self, not_true_eq_false, not_false_eq_true, forall_const, bx_t, bx_f, reduceCtorEq, Option.some.injEq, forall_eq', ite_true, ite_false]
    refine key _ n a (fun m r y a' => wl_X8_cutTape_14 t p post m r y a') hn h4 h6 hK h8 (fun a' b1 b2 b3 b4 => ?_)
    by_cases c : TT f T n = 0
    · exact fin (m + 1) n a' c hn b1 b3 b4 (by omega)
    · have q1 := (tB_b (ps_b f T n)).2.2 (TT_0 c)
      have q2 : ps f T (n + 1) = tB f T (ps f T n) := rfl
      have q3 := tk_9 f T (ps f T n)
      have q4 : TT f T n = (tk f T (ps f T n)).1 := rfl
      refine ih (n + 1) a' (by omega) (fun k hk => ?_) b1 b2 b3 b4 _ (nne c (by omega) (by omega))
      by_cases ck : k = n
      · rw [ck]; exact c
      · exact hn k (by omega)
theorem sp_cutTape {t p T : Nat} {f : Nat → Nat} {a : qa} {post : qa → Prop} (h : TP f T a) (kk : ∀ (N : Nat) (a' : qa), 1 ≤ N → N ≤ 401 → a' 8 0 4 = nI N → TK f T N a' → K8 a a' → TT f T (N - 1) = 0 → (∀ n, n + 1 < N → TT f T n ≠ 0) → post a') : wp_X8_cutTape t p a post := by
  unfold wp_X8_cutTape
  refine ⟨_, sl_cutTape h kk T 0 _ (by omega) (fun k hk => by omega) ?_ ?_ (fun n hn => by omega) ?_ _ (by decide)⟩
  · rw [qs_nk (by decide), qs_eq]; rfl
  · rw [qs_eq]; rfl
  · intro c c1 c2 c3 c4
    funext i k
    rw [qs_nc c1, qs_nc c1]
