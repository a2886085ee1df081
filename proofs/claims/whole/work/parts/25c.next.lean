def sb (b : Nat) : Int32 := (nI b).toInt8.toInt32
theorem sb_lo : ∀ b : Fin 128, sb b.val = nI b.val := by decide +kernel
theorem sb_hi : ∀ b : Fin 128, sb (b.val + 128) < 0 := by decide +kernel
theorem sb_c {b : Nat} (hb : b < 256) : (b < 128 ∧ sb b = nI b) ∨ (128 ≤ b ∧ sb b < 0) := by
  by_cases c : b < 128
  · exact Or.inl ⟨c, sb_lo ⟨b, c⟩⟩
  · right
    have h := sb_hi ⟨b - 128, by omega⟩
    have e : b - 128 + 128 = b := by omega
    have h2 : sb (b - 128 + 128) < 0 := h
    rw [e] at h2
    exact ⟨by omega, h2⟩
theorem sb_eq {b c : Nat} (hb : b < 256) (hc : c < 128) : (sb b = nI c) = (b = c) := by
  rcases sb_c hb with ⟨h, e⟩ | ⟨h, e⟩
  · rw [e, neq (by omega) (by omega)]
  · rw [geq e (by omega)]
    exact (eq_false (by omega)).symm
theorem sgT_n {b : Nat} (h : sgT b = 1) : ¬ b = 60 ∧ ¬ b = 61 ∧ ¬ b = 62 ∧ ¬ b = 58 ∧ ¬ b = 59 ∧ ¬ b = 45 := by
  refine ⟨fun e => ?_, fun e => ?_, fun e => ?_, fun e => ?_, fun e => ?_, fun e => ?_⟩ <;> (rw [e] at h; exact absurd h (by decide))
def MP (f : Nat → Nat) (T : Nat) (a : qa) : Prop := T ≤ 400 ∧ a 11 0 42 = nI T ∧ ∀ j, j < T → f j < 256 ∧ a 71 0 j = sb (f j)
def Nx (a a' : qa) : Prop := ∀ c i k, ¬ (c = 11 ∧ i = 0 ∧ 43 ≤ k ∧ k ≤ 46) → a' c i k = a c i k
theorem Nx.rfl' (a : qa) : Nx a a := fun _ _ _ _ => rfl
theorem Nx.q {a a' : qa} (h : Nx a a') {k : Nat} {x : Int32} (h1 : 43 ≤ k) (h2 : k ≤ 46) : Nx a (qs a' 11 0 k x) := by
  intro c i n hn
  rw [← h c i n hn]
  unfold qs
  rw [if_neg (fun e => hn (by omega))]
theorem MP.nx {f : Nat → Nat} {T : Nat} {a a' : qa} (h : MP f T a) (hn : Nx a a') : MP f T a' := by
  refine ⟨h.1, ?_, fun j hj => ⟨(h.2.2 j hj).1, ?_⟩⟩
  · rw [hn 11 0 42 (by omega)]; exact h.2.1
  · rw [hn 71 0 j (by omega)]; exact (h.2.2 j hj).2
theorem sp_small {t p b : Nat} {a : qa} {post : Int32 → qa → Prop} (hb : b < 256) (k1 : 97 ≤ b ∧ b ≤ 122 → post (nI 1) a) (k0 : ¬ (97 ≤ b ∧ b ≤ 122) → post (nI 0) a) : wp_X11_isSmall t p (sb b) a post := by
  unfold wp_X11_isSmall
  rcases sb_c hb with ⟨h, e⟩ | ⟨h, e⟩
  · rw [e]
    by_cases c : b < 97
    · simp (disch := first | assumption | omega) only [l97, l122, l0, l1, l2, l3, l4, l5, l6, l7, l8, l9, l10, l20, l60, l61, l62, bb_t, bb_f, l100, l120, l512, l400, l401, l700, l9999, nm1, lm1, nlt, nle, neq, glt, gle, lgt, lge, geq, egq, mI_l, mI_e, e_mI, l_mI, le_mI, mI_le, bI_z, nC, vnI, nI_add, nI_sb, nI_mul, a1m, qs_eq, qs_nc, qs_ni, qs_nk, bq_l, bq_r, bq_l', bq_r', bq_t, bq_f, bq_t', bq_f', bq_n, bq_m, iT, iS, iN, true_and, and_true, eq_self, not_true_eq_false, not_false_eq_true, forall_const, bx_t, bx_f, reduceCtorEq, Option.some.injEq, forall_eq', ite_true, ite_false]
      exact k0 (by omega)
    by_cases d : 122 < b
    · simp (disch := first | assumption | omega) only [l97, l122, l0, l1, l2, l3, l4, l5, l6, l7, l8, l9, l10, l20, l60, l61, l62, bb_t, bb_f, l100, l120, l512, l400, l401, l700, l9999, nm1, lm1, nlt, nle, neq, glt, gle, lgt, lge, geq, egq, mI_l, mI_e, e_mI, l_mI, le_mI, mI_le, bI_z, nC, vnI, nI_add, nI_sb, nI_mul, a1m, qs_eq, qs_nc, qs_ni, qs_nk, bq_l, bq_r, bq_l', bq_r', bq_t, bq_f, bq_t', bq_f', bq_n, bq_m, iT, iS, iN, true_and, and_true, eq_self, not_true_eq_false, not_false_eq_true, forall_const, bx_t, bx_f, reduceCtorEq, Option.some.injEq, forall_eq', ite_true, ite_false]
      exact k0 (by omega)
    simp (disch := first | assumption | omega) only [l97, l122, l0, l1, l2, l3, l4, l5, l6, l7, l8, l9, l10, l20, l60, l61, l62, bb_t, bb_f, l100, l120, l512, l400, l401, l700, l9999, nm1, lm1, nlt, nle, neq, glt, gle, lgt, lge, geq, egq, mI_l, mI_e, e_mI, l_mI, le_mI, mI_le, bI_z, nC, vnI, nI_add, nI_sb, nI_mul, a1m, qs_eq, qs_nc, qs_ni, qs_nk, bq_l, bq_r, bq_l', bq_r', bq_t, bq_f, bq_t', bq_f', bq_n, bq_m, iT, iS, iN, true_and, and_true, eq_self, not_true_eq_false, not_false_eq_true, forall_const, bx_t, bx_f, reduceCtorEq, Option.some.injEq, forall_eq', ite_true, ite_false]
    exact k1 (by omega)
  · simp (disch := first | assumption | omega) only [l97, l122, l0, l1, l2, l3, l4, l5, l6, l7, l8, l9, l10, l20, l60, l61, l62, bb_t, bb_f, l100, l120, l512, l400, l401, l700, l9999, nm1, lm1, nlt, nle, neq, glt, gle, lgt, lge, geq, egq, mI_l, mI_e, e_mI, l_mI, le_mI, mI_le, bI_z, nC, vnI, nI_add, nI_sb, nI_mul, a1m, qs_eq, qs_nc, qs_ni, qs_nk, bq_l, bq_r, bq_l', bq_r', bq_t, bq_f, bq_t', bq_f', bq_n, bq_m, iT, iS, iN, true_and, and_true, eq_self, not_true_eq_false, not_false_eq_true, forall_const, bx_t, bx_f, reduceCtorEq, Option.some.injEq, forall_eq', ite_true, ite_false]
    exact k0 (by omega)
theorem sp_dig {t p b : Nat} {a : qa} {post : Int32 → qa → Prop} (hb : b < 256) (k1 : 48 ≤ b ∧ b ≤ 57 → post (nI 1) a) (k0 : ¬ (48 ≤ b ∧ b ≤ 57) → post (nI 0) a) : wp_X11_isDigit t p (sb b) a post := by
  unfold wp_X11_isDigit
  rcases sb_c hb with ⟨h, e⟩ | ⟨h, e⟩
  · rw [e]
    by_cases c : b < 48
    · simp (disch := first | assumption | omega) only [l48, l57, l0, l1, l2, l3, l4, l5, l6, l7, l8, l9, l10, l20, l60, l61, l62, bb_t, bb_f, l100, l120, l512, l400, l401, l700, l9999, nm1, lm1, nlt, nle, neq, glt, gle, lgt, lge, geq, egq, mI_l, mI_e, e_mI, l_mI, le_mI, mI_le, bI_z, nC, vnI, nI_add, nI_sb, nI_mul, a1m, qs_eq, qs_nc, qs_ni, qs_nk, bq_l, bq_r, bq_l', bq_r', bq_t, bq_f, bq_t', bq_f', bq_n, bq_m, iT, iS, iN, true_and, and_true, eq_self, not_true_eq_false, not_false_eq_true, forall_const, bx_t, bx_f, reduceCtorEq, Option.some.injEq, forall_eq', ite_true, ite_false]
      exact k0 (by omega)
    by_cases d : 57 < b
    · simp (disch := first | assumption | omega) only [l48, l57, l0, l1, l2, l3, l4, l5, l6, l7, l8, l9, l10, l20, l60, l61, l62, bb_t, bb_f, l100, l120, l512, l400, l401, l700, l9999, nm1, lm1, nlt, nle, neq, glt, gle, lgt, lge, geq, egq, mI_l, mI_e, e_mI, l_mI, le_mI, mI_le, bI_z, nC, vnI, nI_add, nI_sb, nI_mul, a1m, qs_eq, qs_nc, qs_ni, qs_nk, bq_l, bq_r, bq_l', bq_r', bq_t, bq_f, bq_t', bq_f', bq_n, bq_m, iT, iS, iN, true_and, and_true, eq_self, not_true_eq_false, not_false_eq_true, forall_const, bx_t, bx_f, reduceCtorEq, Option.some.injEq, forall_eq', ite_true, ite_false]
      exact k0 (by omega)
    simp (disch := first | assumption | omega) only [l48, l57, l0, l1, l2, l3, l4, l5, l6, l7, l8, l9, l10, l20, l60, l61, l62, bb_t, bb_f, l100, l120, l512, l400, l401, l700, l9999, nm1, lm1, nlt, nle, neq, glt, gle, lgt, lge, geq, egq, mI_l, mI_e, e_mI, l_mI, le_mI, mI_le, bI_z, nC, vnI, nI_add, nI_sb, nI_mul, a1m, qs_eq, qs_nc, qs_ni, qs_nk, bq_l, bq_r, bq_l', bq_r', bq_t, bq_f, bq_t', bq_f', bq_n, bq_m, iT, iS, iN, true_and, and_true, eq_self, not_true_eq_false, not_false_eq_true, forall_const, bx_t, bx_f, reduceCtorEq, Option.some.injEq, forall_eq', ite_true, ite_false]
    exact k1 (by omega)
  · simp (disch := first | assumption | omega) only [l48, l57, l0, l1, l2, l3, l4, l5, l6, l7, l8, l9, l10, l20, l60, l61, l62, bb_t, bb_f, l100, l120, l512, l400, l401, l700, l9999, nm1, lm1, nlt, nle, neq, glt, gle, lgt, lge, geq, egq, mI_l, mI_e, e_mI, l_mI, le_mI, mI_le, bI_z, nC, vnI, nI_add, nI_sb, nI_mul, a1m, qs_eq, qs_nc, qs_ni, qs_nk, bq_l, bq_r, bq_l', bq_r', bq_t, bq_f, bq_t', bq_f', bq_n, bq_m, iT, iS, iN, true_and, and_true, eq_self, not_true_eq_false, not_false_eq_true, forall_const, bx_t, bx_f, reduceCtorEq, Option.some.injEq, forall_eq', ite_true, ite_false]
    exact k0 (by omega)
theorem sp_see {t p T i : Nat} {f : Nat → Nat} {a : qa} {post : Int32 → qa → Prop} (h : MP f T a) (hi : i < T) (kk : post (sb (f i)) a) : wp_X11_see t p (nI i) a post := by
  obtain ⟨h0, h1, h2⟩ := h
  simp (disch := first | assumption | omega) only [wp_X11_see, h1, l0, l1, l2, l3, l4, l5, l6, l7, l8, l9, l10, l20, l60, l61, l62, bb_t, bb_f, l100, l120, l512, l400, l401, l700, l9999, nm1, lm1, nlt, nle, neq, glt, gle, lgt, lge, geq, egq, mI_l, mI_e, e_mI, l_mI, le_mI, mI_le, bI_z, nC, vnI, nI_add, nI_sb, nI_mul, a1m, qs_eq, qs_nc, qs_ni, qs_nk, bq_l, bq_r, bq_l', bq_r', bq_t, bq_f, bq_t', bq_f', bq_n, bq_m, iT, iS, iN, true_and, and_true, eq_self, not_true_eq_false, not_false_eq_true, forall_const, bx_t, bx_f, reduceCtorEq, Option.some.injEq, forall_eq', ite_true, ite_false]
  rw [(h2 i hi).2]
  exact kk
theorem sp_see0 {t p T i : Nat} {f : Nat → Nat} {a : qa} {post : Int32 → qa → Prop} (h : MP f T a) (hi : T ≤ i) (hi2 : i < 1000) (kk : post (sb 0) a) : wp_X11_see t p (nI i) a post := by
  obtain ⟨h0, h1, h2⟩ := h
  simp (disch := first | assumption | omega) only [wp_X11_see, h1, l0, l1, l2, l3, l4, l5, l6, l7, l8, l9, l10, l20, l60, l61, l62, bb_t, bb_f, l100, l120, l512, l400, l401, l700, l9999, nm1, lm1, nlt, nle, neq, glt, gle, lgt, lge, geq, egq, mI_l, mI_e, e_mI, l_mI, le_mI, mI_le, bI_z, nC, vnI, nI_add, nI_sb, nI_mul, a1m, qs_eq, qs_nc, qs_ni, qs_nk, bq_l, bq_r, bq_l', bq_r', bq_t, bq_f, bq_t', bq_f', bq_n, bq_m, iT, iS, iN, true_and, and_true, eq_self, not_true_eq_false, not_false_eq_true, forall_const, bx_t, bx_f, reduceCtorEq, Option.some.injEq, forall_eq', ite_true, ite_false]
  exact kk
theorem sl_nskip {t p T S : Nat} {f : Nat → Nat} {a0 : qa} {post : qa → Prop} (h : MP f T a0) (kk : ∀ a', Nx a0 a' → a' 11 0 43 = nI S → wl_X11_next_52 t p post a') : ∀ (m j : Nat) (a : qa), j + m = T → scn (bB f) T j = S → Nx a0 a → a 11 0 43 = nI j → wl_X11_next_0 t p post (m + 1) a := by
  intro m
  induction m with
  | zero =>
    intro j a hj hS hN h43
    obtain ⟨hT, h42, h71⟩ := h.nx hN
    obtain rfl : j = T := by omega
    rw [scn_e (Nat.le_refl _)] at hS
    simp (disch := first | assumption | omega) only [wl_X11_next_0, h42, h43, l0, l1, l2, l3, l4, l5, l6, l7, l8, l9, l10, l20, l60, l61, l62, bb_t, bb_f, l100, l120, l512, l400, l401, l700, l9999, nm1, lm1, nlt, nle, neq, glt, gle, lgt, lge, geq, egq, mI_l, mI_e, e_mI, l_mI, le_mI, mI_le, bI_z, nC, vnI, nI_add, nI_sb, nI_mul, a1m, qs_eq, qs_nc, qs_ni, qs_nk, bq_l, bq_r, bq_l', bq_r', bq_t, bq_f, bq_t', bq_f', bq_n, bq_m, iT, iS, iN, true_and, and_true, eq_self, not_true_eq_false, not_false_eq_true, forall_const, bx_t, bx_f, reduceCtorEq, Option.some.injEq, forall_eq', ite_true, ite_false]
    exact kk a hN (by rw [h43, hS])
  | succ m ih =>
    intro j a hj hS hN h43
    obtain ⟨hT, h42, h71⟩ := h.nx hN
    obtain ⟨hf, e71⟩ := h71 j (by omega)
    have go : bB f j = true → wl_X11_next_39 t p (wl_X11_next_0 t p post (m + 1)) post a := by
      intro hb
      rw [scn_y (by omega) hb] at hS
      unfold wl_X11_next_39
      refine ih (j + 1) _ (by omega) hS (hN.q (by decide) (by decide)) ?_
      rw [qs_eq, h43, l1, nI_add]
    unfold wl_X11_next_0
    by_cases c : f j = 32
    · have g := go (bB_i.mpr (Or.inl c))
      simp (disch := first | assumption | omega) only [h42, h43, e71, l32, sb_eq, l0, l1, l2, l3, l4, l5, l6, l7, l8, l9, l10, l20, l60, l61, l62, bb_t, bb_f, l100, l120, l512, l400, l401, l700, l9999, nm1, lm1, nlt, nle, neq, glt, gle, lgt, lge, geq, egq, mI_l, mI_e, e_mI, l_mI, le_mI, mI_le, bI_z, nC, vnI, nI_add, nI_sb, nI_mul, a1m, qs_eq, qs_nc, qs_ni, qs_nk, bq_l, bq_r, bq_l', bq_r', bq_t, bq_f, bq_t', bq_f', bq_n, bq_m, iT, iS, iN, true_and, and_true, eq_self, not_true_eq_false, not_false_eq_true, forall_const, bx_t, bx_f, reduceCtorEq, Option.some.injEq, forall_eq', ite_true, ite_false]
      exact g
    by_cases d : f j = 10
    · have g := go (bB_i.mpr (Or.inr d))
      simp (disch := first | assumption | omega) only [h42, h43, e71, l32, sb_eq, l0, l1, l2, l3, l4, l5, l6, l7, l8, l9, l10, l20, l60, l61, l62, bb_t, bb_f, l100, l120, l512, l400, l401, l700, l9999, nm1, lm1, nlt, nle, neq, glt, gle, lgt, lge, geq, egq, mI_l, mI_e, e_mI, l_mI, le_mI, mI_le, bI_z, nC, vnI, nI_add, nI_sb, nI_mul, a1m, qs_eq, qs_nc, qs_ni, qs_nk, bq_l, bq_r, bq_l', bq_r', bq_t, bq_f, bq_t', bq_f', bq_n, bq_m, iT, iS, iN, true_and, and_true, eq_self, not_true_eq_false, not_false_eq_true, forall_const, bx_t, bx_f, reduceCtorEq, Option.some.injEq, forall_eq', ite_true, ite_false]
      exact g
    rw [scn_n (fun x => by have := bB_i.mp x; omega)] at hS
    simp (disch := first | assumption | omega) only [h42, h43, e71, l32, sb_eq, l0, l1, l2, l3, l4, l5, l6, l7, l8, l9, l10, l20, l60, l61, l62, bb_t, bb_f, l100, l120, l512, l400, l401, l700, l9999, nm1, lm1, nlt, nle, neq, glt, gle, lgt, lge, geq, egq, mI_l, mI_e, e_mI, l_mI, le_mI, mI_le, bI_z, nC, vnI, nI_add, nI_sb, nI_mul, a1m, qs_eq, qs_nc, qs_ni, qs_nk, bq_l, bq_r, bq_l', bq_r', bq_t, bq_f, bq_t', bq_f', bq_n, bq_m, iT, iS, iN, true_and, and_true, eq_self, not_true_eq_false, not_false_eq_true, forall_const, bx_t, bx_f, reduceCtorEq, Option.some.injEq, forall_eq', ite_true, ite_false]
    exact kk a hN (by rw [h43, hS])
theorem sl_nword {t p T S s : Nat} {f : Nat → Nat} {a0 : qa} {post : qa → Prop} (h : MP f T a0) (kk : ∀ a', Nx a0 a' → a' 11 0 43 = nI S → a' 11 0 44 = nI s → a' 11 0 45 = nI 3 → post a') : ∀ (m j : Nat) (a : qa), j + m = T → scn (lB f) T j = S → Nx a0 a → a 11 0 43 = nI j → a 11 0 44 = nI s → wl_X11_next_104 t p post (m + 1) a := by
  intro m
  induction m with
  | zero =>
    intro j a hj hS hN h43 h44
    have hM := h.nx hN
    obtain ⟨hT, h42, h71⟩ := h.nx hN
    obtain rfl : j = T := by omega
    rw [scn_e (Nat.le_refl _)] at hS
    unfold wl_X11_next_104
    rw [h43]
    refine sp_see0 hM (Nat.le_refl _) (by omega) (sp_small (by decide) (fun x => by omega) (fun _ => ?_))
    simp (disch := first | assumption | omega) only [l0, l1, l2, l3, l4, l5, l6, l7, l8, l9, l10, l20, l60, l61, l62, bb_t, bb_f, l100, l120, l512, l400, l401, l700, l9999, nm1, lm1, nlt, nle, neq, glt, gle, lgt, lge, geq, egq, mI_l, mI_e, e_mI, l_mI, le_mI, mI_le, bI_z, nC, vnI, nI_add, nI_sb, nI_mul, a1m, qs_eq, qs_nc, qs_ni, qs_nk, bq_l, bq_r, bq_l', bq_r', bq_t, bq_f, bq_t', bq_f', bq_n, bq_m, iT, iS, iN, true_and, and_true, eq_self, not_true_eq_false, not_false_eq_true, forall_const, bx_t, bx_f, reduceCtorEq, Option.some.injEq, forall_eq', ite_true, ite_false]
    refine kk _ (hN.q (by decide) (by decide)) ?_ ?_ ?_
    · rw [qs_nk (by decide), h43, hS]
    · rw [qs_nk (by decide), h44]
    · rw [qs_eq]
  | succ m ih =>
    intro j a hj hS hN h43 h44
    have hM := h.nx hN
    obtain ⟨hT, h42, h71⟩ := h.nx hN
    unfold wl_X11_next_104
    rw [h43]
    refine sp_see hM (by omega) (sp_small (h71 j (by omega)).1 (fun c => ?_) (fun c => ?_))
    · rw [scn_y (by omega) (lB_i.mpr c)] at hS
      simp (disch := first | assumption | omega) only [h43, l0, l1, l2, l3, l4, l5, l6, l7, l8, l9, l10, l20, l60, l61, l62, bb_t, bb_f, l100, l120, l512, l400, l401, l700, l9999, nm1, lm1, nlt, nle, neq, glt, gle, lgt, lge, geq, egq, mI_l, mI_e, e_mI, l_mI, le_mI, mI_le, bI_z, nC, vnI, nI_add, nI_sb, nI_mul, a1m, qs_eq, qs_nc, qs_ni, qs_nk, bq_l, bq_r, bq_l', bq_r', bq_t, bq_f, bq_t', bq_f', bq_n, bq_m, iT, iS, iN, true_and, and_true, eq_self, not_true_eq_false, not_false_eq_true, forall_const, bx_t, bx_f, reduceCtorEq, Option.some.injEq, forall_eq', ite_true, ite_false]
      refine ih (j + 1) _ (by omega) hS (hN.q (by decide) (by decide)) ?_ ?_
      · rw [qs_eq]
      · rw [qs_nk (by decide), h44]
    · rw [scn_n (fun x => c (lB_i.mp x))] at hS
      simp (disch := first | assumption | omega) only [l0, l1, l2, l3, l4, l5, l6, l7, l8, l9, l10, l20, l60, l61, l62, bb_t, bb_f, l100, l120, l512, l400, l401, l700, l9999, nm1, lm1, nlt, nle, neq, glt, gle, lgt, lge, geq, egq, mI_l, mI_e, e_mI, l_mI, le_mI, mI_le, bI_z, nC, vnI, nI_add, nI_sb, nI_mul, a1m, qs_eq, qs_nc, qs_ni, qs_nk, bq_l, bq_r, bq_l', bq_r', bq_t, bq_f, bq_t', bq_f', bq_n, bq_m, iT, iS, iN, true_and, and_true, eq_self, not_true_eq_false, not_false_eq_true, forall_const, bx_t, bx_f, reduceCtorEq, Option.some.injEq, forall_eq', ite_true, ite_false]
      refine kk _ (hN.q (by decide) (by decide)) ?_ ?_ ?_
      · rw [qs_nk (by decide), h43, hS]
      · rw [qs_nk (by decide), h44]
      · rw [qs_eq]
def m4 (n : Nat) : Nat := if n ≤ 4 then n else 4
set_option maxHeartbeats 4000000 in
theorem sl_nnum {t p T S s : Nat} {f : Nat → Nat} {a0 : qa} {post : qa → Prop} (h : MP f T a0) (kk : ∀ a', Nx a0 a' → a' 11 0 43 = nI S → a' 11 0 44 = nI s → a' 11 0 45 = nI (if S - s ≤ 4 then 2 else 1) → (S - s ≤ 4 → a' 11 0 46 = nv f s (S - s)) → post a') : ∀ (m j : Nat) (a : qa), j + m = T → s < j → scn (dB f) T j = S → Nx a0 a → a 11 0 43 = nI j → a 11 0 44 = nI s → a 11 0 46 = nv f s (m4 (j - s)) → wl_X11_next_154 t p post (m + 1) a := by
  have fin : ∀ (j : Nat) (a : qa), j ≤ T → s < j → j = S → Nx a0 a → a 11 0 43 = nI j → a 11 0 44 = nI s → a 11 0 46 = nv f s (m4 (j - s)) → ((((a 11 0 43) - (a 11 0 44)) ≤ 4 → post (qs a 11 0 45 2)) ∧ (¬ ((a 11 0 43) - (a 11 0 44)) ≤ 4 → post (qs a 11 0 45 1))) := by
    intro j a hj hs hS hN h43 h44 h46
    have hT := h.1
    subst hS
    by_cases c : j - s ≤ 4
    · have r := kk (qs a 11 0 45 (nI 2)) (hN.q (by decide) (by decide)) (by rw [qs_nk (by decide), h43]) (by rw [qs_nk (by decide), h44]) (by rw [qs_eq, if_pos c]) (fun _ => by rw [qs_nk (by decide), h46, m4, if_pos c])
      simp (disch := first | assumption | omega) only [h43, h44, l0, l1, l2, l3, l4, l5, l6, l7, l8, l9, l10, l20, l60, l61, l62, bb_t, bb_f, l100, l120, l512, l400, l401, l700, l9999, nm1, lm1, nlt, nle, neq, glt, gle, lgt, lge, geq, egq, mI_l, mI_e, e_mI, l_mI, le_mI, mI_le, bI_z, nC, vnI, nI_add, nI_sb, nI_mul, a1m, qs_eq, qs_nc, qs_ni, qs_nk, bq_l, bq_r, bq_l', bq_r', bq_t, bq_f, bq_t', bq_f', bq_n, bq_m, iT, iS, iN, true_and, and_true, eq_self, not_true_eq_false, not_false_eq_true, forall_const, bx_t, bx_f, reduceCtorEq, Option.some.injEq, forall_eq', ite_true, ite_false]
      exact r
    · have r := kk (qs a 11 0 45 (nI 1)) (hN.q (by decide) (by decide)) (by rw [qs_nk (by decide), h43]) (by rw [qs_nk (by decide), h44]) (by rw [qs_eq, if_neg c]) (fun x => absurd x c)
      simp (disch := first | assumption | omega) only [h43, h44, l0, l1, l2, l3, l4, l5, l6, l7, l8, l9, l10, l20, l60, l61, l62, bb_t, bb_f, l100, l120, l512, l400, l401, l700, l9999, nm1, lm1, nlt, nle, neq, glt, gle, lgt, lge, geq, egq, mI_l, mI_e, e_mI, l_mI, le_mI, mI_le, bI_z, nC, vnI, nI_add, nI_sb, nI_mul, a1m, qs_eq, qs_nc, qs_ni, qs_nk, bq_l, bq_r, bq_l', bq_r', bq_t, bq_f, bq_t', bq_f', bq_n, bq_m, iT, iS, iN, true_and, and_true, eq_self, not_true_eq_false, not_false_eq_true, forall_const, bx_t, bx_f, reduceCtorEq, Option.some.injEq, forall_eq', ite_true, ite_false]
      exact r
  intro m
  induction m with
  | zero =>
    intro j a hj hs hS hN h43 h44 h46
    have hM := h.nx hN
    have hT := h.1
    rw [scn_e (by omega)] at hS
    unfold wl_X11_next_154
    rw [h43]
    refine sp_see0 hM (by omega) (by omega) (sp_dig (by decide) (fun x => by omega) (fun _ => ?_))
    have r := fin j a (by omega) hs hS hN h43 h44 h46
    rw [bq_t (show nI 0 = 0 from rfl)]
    exact r
  | succ m ih =>
    intro j a hj hs hS hN h43 h44 h46
    have hM := h.nx hN
    obtain ⟨hT, h42, h71⟩ := h.nx hN
    have hf := (h71 j (by omega)).1
    unfold wl_X11_next_154
    rw [h43]
    refine sp_see hM (by omega) (sp_dig hf (fun c => ?_) (fun c => ?_))
    · rw [scn_y (by omega) (dB_i.mpr c)] at hS
      by_cases d : 4 ≤ j - s
      · have r := ih (j + 1) (qs a 11 0 43 (nI (j + 1))) (by omega) (by omega) hS (hN.q (by decide) (by decide)) (by rw [qs_eq]) (by rw [qs_nk (by decide), h44]) (by
          rw [qs_nk (by decide), h46]
          have e1 : m4 (j - s) = 4 := by unfold m4; by_cases e : j - s ≤ 4 <;> simp only [e, ite_true, ite_false] <;> omega
          have e2 : m4 (j + 1 - s) = 4 := by unfold m4; rw [if_neg (by omega)]
          rw [e1, e2])
        simp (disch := first | assumption | omega) only [h43, h44, wl_X11_next_204, l0, l1, l2, l3, l4, l5, l6, l7, l8, l9, l10, l20, l60, l61, l62, bb_t, bb_f, l100, l120, l512, l400, l401, l700, l9999, nm1, lm1, nlt, nle, neq, glt, gle, lgt, lge, geq, egq, mI_l, mI_e, e_mI, l_mI, le_mI, mI_le, bI_z, nC, vnI, nI_add, nI_sb, nI_mul, a1m, qs_eq, qs_nc, qs_ni, qs_nk, bq_l, bq_r, bq_l', bq_r', bq_t, bq_f, bq_t', bq_f', bq_n, bq_m, iT, iS, iN, true_and, and_true, eq_self, not_true_eq_false, not_false_eq_true, forall_const, bx_t, bx_f, reduceCtorEq, Option.some.injEq, forall_eq', ite_true, ite_false]
        exact r
      · have e3 : sb (f j) = nI (f j) := by
          rcases sb_c hf with ⟨_, e⟩ | ⟨q, _⟩
          · exact e
          · omega
        have e1 : m4 (j - s) = j - s := by unfold m4; rw [if_pos (by omega)]
        have e2 : m4 (j + 1 - s) = (j - s) + 1 := by unfold m4; rw [if_pos (by omega)]; omega
        have r := ih (j + 1) (qs (qs a 11 0 46 (nI 10 * a 11 0 46 + sb (f j) - nI 48)) 11 0 43 (nI (j + 1))) (by omega) (by omega) hS ((hN.q (by decide) (by decide)).q (by decide) (by decide)) (by rw [qs_eq]) (by rw [qs_nk (by decide), qs_nk (by decide), h44]) (by
          rw [qs_nk (by decide), qs_eq, h46, e1, e2, e3]
          show _ = nv f s (j - s) * nI 10 + nI (f (s + (j - s))) - nI 48
          rw [show s + (j - s) = j by omega, Int32.mul_comm])
        have e43 : ∀ x, (qs a 11 0 46 x) 11 0 43 = nI j := fun x => by rw [qs_nk (by decide), h43]
        simp (disch := first | assumption | omega) only [h43, h44, l0, l1, l2, l3, l4, l5, l6, l7, l8, l9, l10, l20, l60, l61, l62, bb_t, bb_f, l100, l120, l512, l400, l401, l700, l9999, nm1, lm1, nlt, nle, neq, glt, gle, lgt, lge, geq, egq, mI_l, mI_e, e_mI, l_mI, le_mI, mI_le, bI_z, nC, vnI, nI_add, nI_sb, nI_mul, a1m, qs_eq, qs_nc, qs_ni, qs_nk, bq_l, bq_r, bq_l', bq_r', bq_t, bq_f, bq_t', bq_f', bq_n, bq_m, iT, iS, iN, true_and, and_true, eq_self, not_true_eq_false, not_false_eq_true, forall_const, bx_t, bx_f, reduceCtorEq, Option.some.injEq, forall_eq', ite_true, ite_false]
        refine sp_see hM (by omega) ?_
        simp (disch := first | assumption | omega) only [wl_X11_next_204, e43, l48, l0, l1, l2, l3, l4, l5, l6, l7, l8, l9, l10, l20, l60, l61, l62, bb_t, bb_f, l100, l120, l512, l400, l401, l700, l9999, nm1, lm1, nlt, nle, neq, glt, gle, lgt, lge, geq, egq, mI_l, mI_e, e_mI, l_mI, le_mI, mI_le, bI_z, nC, vnI, nI_add, nI_sb, nI_mul, a1m, qs_eq, qs_nc, qs_ni, qs_nk, bq_l, bq_r, bq_l', bq_r', bq_t, bq_f, bq_t', bq_f', bq_n, bq_m, iT, iS, iN, true_and, and_true, eq_self, not_true_eq_false, not_false_eq_true, forall_const, bx_t, bx_f, reduceCtorEq, Option.some.injEq, forall_eq', ite_true, ite_false]
        exact r
    · rw [scn_n (fun x => c (dB_i.mp x))] at hS
      have r := fin j a (by omega) hs hS hN h43 h44 h46
      rw [bq_t (show nI 0 = 0 from rfl)]
      exact r
def MT (f : Nat → Nat) (T i : Nat) (a : qa) : Prop := a 11 0 43 = nI (tB f T i) ∧ a 11 0 44 = nI (tF f T i) ∧ a 11 0 45 = nI (srt f T i) ∧ (srt f T i = 2 ∨ srt f T i = 4 → a 11 0 46 = (tk f T i).2)
theorem nv_1 (f : Nat → Nat) (s : Nat) : nv f s 1 = nI (f s) - nI 48 := by
  show nI 0 * nI 10 + nI (f (s + 0)) - nI 48 = _
  rw [nI_mul, nI_add, Nat.add_zero, Nat.zero_mul, Nat.zero_add]
set_option maxHeartbeats 4000000 in
theorem sp_next52 {t p T i : Nat} {f : Nat → Nat} {a0 a : qa} {post : qa → Prop} (h : MP f T a0) (hi : i ≤ T) (hN : Nx a0 a) (h43 : a 11 0 43 = nI (tF f T i)) (kk : ∀ a', Nx a0 a' → MT f T i a' → post a') : wl_X11_next_52 t p post a := by
  obtain ⟨hT, h42, h71⟩ := h.nx hN
  have hF := tF_b (f := f) hi
  obtain ⟨s, hs⟩ : ∃ s, s = tF f T i := ⟨_, rfl⟩
  rw [← hs] at h43 hF
  unfold wl_X11_next_52
  by_cases c : s < T
  · obtain ⟨hf, e71⟩ := h71 s c
    have hE := tE_b (f := f) c
    have eB : tB f T i = tE f T s := by unfold tB; rw [← hs, if_pos c]
    have hN2 : Nx a0 (qs (qs a 11 0 44 (nI s)) 11 0 43 (nI (s + 1))) := (hN.q (by decide) (by decide)).q (by decide) (by decide)
    simp (disch := first | assumption | omega) only [h42, h43, e71, l0, l1, l2, l3, l4, l5, l6, l7, l8, l9, l10, l20, l60, l61, l62, bb_t, bb_f, l100, l120, l512, l400, l401, l700, l9999, nm1, lm1, nlt, nle, neq, glt, gle, lgt, lge, geq, egq, mI_l, mI_e, e_mI, l_mI, le_mI, mI_le, bI_z, nC, vnI, nI_add, nI_sb, nI_mul, a1m, qs_eq, qs_nc, qs_ni, qs_nk, bq_l, bq_r, bq_l', bq_r', bq_t, bq_f, bq_t', bq_f', bq_n, bq_m, iT, iS, iN, true_and, and_true, eq_self, not_true_eq_false, not_false_eq_true, forall_const, bx_t, bx_f, reduceCtorEq, Option.some.injEq, forall_eq', ite_true, ite_false]
    refine sp_small hf (fun d => ?_) (fun d => ?_)
    · have hE2 : tE f T s = scn (lB f) T (s + 1) := if_pos (lB_i.mpr d)
      have eS : srt f T i = 3 := by unfold srt; rw [← hs, if_pos c, if_pos (lB_i.mpr d)]
      simp (disch := first | assumption | omega) only [l0, l1, l2, l3, l4, l5, l6, l7, l8, l9, l10, l20, l60, l61, l62, bb_t, bb_f, l100, l120, l512, l400, l401, l700, l9999, nm1, lm1, nlt, nle, neq, glt, gle, lgt, lge, geq, egq, mI_l, mI_e, e_mI, l_mI, le_mI, mI_le, bI_z, nC, vnI, nI_add, nI_sb, nI_mul, a1m, qs_eq, qs_nc, qs_ni, qs_nk, bq_l, bq_r, bq_l', bq_r', bq_t, bq_f, bq_t', bq_f', bq_n, bq_m, iT, iS, iN, true_and, and_true, eq_self, not_true_eq_false, not_false_eq_true, forall_const, bx_t, bx_f, reduceCtorEq, Option.some.injEq, forall_eq', ite_true, ite_false]
      refine ⟨_, sl_nword h (fun a' b1 b2 b3 b4 => ?_) (T - (s + 1)) (s + 1) _ (by omega) hE2.symm hN2 (by rw [qs_eq]) (by rw [qs_nk (by decide), qs_eq])⟩
      exact kk a' b1 ⟨by rw [b2, eB], by rw [b3, hs], by rw [b4, eS], fun x => by omega⟩
    · simp (disch := first | assumption | omega) only [l0, l1, l2, l3, l4, l5, l6, l7, l8, l9, l10, l20, l60, l61, l62, bb_t, bb_f, l100, l120, l512, l400, l401, l700, l9999, nm1, lm1, nlt, nle, neq, glt, gle, lgt, lge, geq, egq, mI_l, mI_e, e_mI, l_mI, le_mI, mI_le, bI_z, nC, vnI, nI_add, nI_sb, nI_mul, a1m, qs_eq, qs_nc, qs_ni, qs_nk, bq_l, bq_r, bq_l', bq_r', bq_t, bq_f, bq_t', bq_f', bq_n, bq_m, iT, iS, iN, true_and, and_true, eq_self, not_true_eq_false, not_false_eq_true, forall_const, bx_t, bx_f, reduceCtorEq, Option.some.injEq, forall_eq', ite_true, ite_false]
      refine sp_dig hf (fun g => ?_) (fun g => ?_)
      · have hE2 : tE f T s = scn (dB f) T (s + 1) := by unfold tE; rw [if_neg (fun x => d (lB_i.mp x)), if_pos (dB_i.mpr g)]
        have eS : srt f T i = if tE f T s - s ≤ 4 then 2 else 1 := by unfold srt; rw [← hs, if_pos c, if_neg (fun x => d (lB_i.mp x)), if_pos (dB_i.mpr g)]
        have eK : tE f T s - s ≤ 4 → (tk f T i).2 = nv f s (tE f T s - s) := by
          intro q
          unfold tk
          rw [← hs, if_pos c, if_neg (fun x => d (lB_i.mp x)), if_pos (dB_i.mpr g), if_pos q]
        have e3 : sb (f s) = nI (f s) := by
          rcases sb_c hf with ⟨_, e⟩ | ⟨q, _⟩
          · exact e
          · omega
        have e4 : s + 1 - s = 1 := by omega
        simp (disch := first | assumption | omega) only [l48, l0, l1, l2, l3, l4, l5, l6, l7, l8, l9, l10, l20, l60, l61, l62, bb_t, bb_f, l100, l120, l512, l400, l401, l700, l9999, nm1, lm1, nlt, nle, neq, glt, gle, lgt, lge, geq, egq, mI_l, mI_e, e_mI, l_mI, le_mI, mI_le, bI_z, nC, vnI, nI_add, nI_sb, nI_mul, a1m, qs_eq, qs_nc, qs_ni, qs_nk, bq_l, bq_r, bq_l', bq_r', bq_t, bq_f, bq_t', bq_f', bq_n, bq_m, iT, iS, iN, true_and, and_true, eq_self, not_true_eq_false, not_false_eq_true, forall_const, bx_t, bx_f, reduceCtorEq, Option.some.injEq, forall_eq', ite_true, ite_false]
        refine ⟨_, sl_nnum (s := s) h (fun a' b1 b2 b3 b4 b5 => ?_) (T - (s + 1)) (s + 1) _ (by omega) (by omega) hE2.symm (hN2.q (by decide) (by decide)) (by rw [qs_nk (by decide), qs_eq]) (by rw [qs_nk (by decide), qs_nk (by decide), qs_eq]) (by rw [qs_eq, e4, e3]; exact (nv_1 f s).symm)⟩
        refine kk a' b1 ⟨by rw [b2, eB], by rw [b3, hs], by rw [b4, eS], fun x => ?_⟩
        have q : tE f T s - s ≤ 4 := by
          by_cases q : tE f T s - s ≤ 4
          · exact q
          · rw [eS, if_neg q] at x; omega
        rw [b5 q, eK q]
      · have hE2 : tE f T s = s + 1 := by unfold tE; rw [if_neg (fun x => d (lB_i.mp x)), if_neg (fun x => g (dB_i.mp x))]
        have eS : srt f T i = if sgT (f s) = 1 then 1 else 4 := by unfold srt; rw [← hs, if_pos c, if_neg (fun x => d (lB_i.mp x)), if_neg (fun x => g (dB_i.mp x))]
        have eK : tk f T i = (sgT (f s), nI (f s)) := by
          unfold tk
          rw [← hs, if_pos c, if_neg (fun x => d (lB_i.mp x)), if_neg (fun x => g (dB_i.mp x))]
        have k4 : sgT (f s) ≠ 1 → f s < 128 → post (qs (qs (qs (qs a 11 0 44 (nI s)) 11 0 43 (nI (s + 1))) 11 0 46 (sb (f s))) 11 0 45 (nI 4)) := by
          intro q q2
          refine kk _ ((hN2.q (by decide) (by decide)).q (by decide) (by decide)) ⟨?_, ?_, ?_, fun _ => ?_⟩
          · rw [qs_nk (by decide), qs_nk (by decide), qs_eq, eB, hE2]
          · rw [qs_nk (by decide), qs_nk (by decide), qs_nk (by decide), qs_eq, hs]
          · rw [qs_eq, eS, if_neg q]
          · rw [qs_nk (by decide), qs_eq, eK]
            exact sb_lo ⟨f s, q2⟩
        rcases sgT_b (f s) with q | ⟨q, r | r | r⟩ | ⟨q, r⟩ | ⟨q, r⟩ | ⟨q, r⟩
        · obtain ⟨n1, n2, n3, n4, n5, n6⟩ := sgT_n q
          have k1 : post (qs (qs (qs (qs a 11 0 44 (nI s)) 11 0 43 (nI (s + 1))) 11 0 46 (sb (f s))) 11 0 45 (nI 1)) := by
            refine kk _ ((hN2.q (by decide) (by decide)).q (by decide) (by decide)) ⟨?_, ?_, ?_, fun x => ?_⟩
            · rw [qs_nk (by decide), qs_nk (by decide), qs_eq, eB, hE2]
            · rw [qs_nk (by decide), qs_nk (by decide), qs_nk (by decide), qs_eq, hs]
            · rw [qs_eq, eS, if_pos q]
            · rw [eS, if_pos q] at x; omega
          simp (disch := first | assumption | omega) only [sb_eq, l45, l58, l59, l0, l1, l2, l3, l4, l5, l6, l7, l8, l9, l10, l20, l60, l61, l62, bb_t, bb_f, l100, l120, l512, l400, l401, l700, l9999, nm1, lm1, nlt, nle, neq, glt, gle, lgt, lge, geq, egq, mI_l, mI_e, e_mI, l_mI, le_mI, mI_le, bI_z, nC, vnI, nI_add, nI_sb, nI_mul, a1m, qs_eq, qs_nc, qs_ni, qs_nk, bq_l, bq_r, bq_l', bq_r', bq_t, bq_f, bq_t', bq_f', bq_n, bq_m, iT, iS, iN, true_and, and_true, eq_self, not_true_eq_false, not_false_eq_true, forall_const, bx_t, bx_f, reduceCtorEq, Option.some.injEq, forall_eq', ite_true, ite_false]
          exact k1
        all_goals
          have k5 := k4 (by omega) (by omega)
          simp (disch := first | assumption | omega) only [sb_eq, l45, l58, l59, l0, l1, l2, l3, l4, l5, l6, l7, l8, l9, l10, l20, l60, l61, l62, bb_t, bb_f, l100, l120, l512, l400, l401, l700, l9999, nm1, lm1, nlt, nle, neq, glt, gle, lgt, lge, geq, egq, mI_l, mI_e, e_mI, l_mI, le_mI, mI_le, bI_z, nC, vnI, nI_add, nI_sb, nI_mul, a1m, qs_eq, qs_nc, qs_ni, qs_nk, bq_l, bq_r, bq_l', bq_r', bq_t, bq_f, bq_t', bq_f', bq_n, bq_m, iT, iS, iN, true_and, and_true, eq_self, not_true_eq_false, not_false_eq_true, forall_const, bx_t, bx_f, reduceCtorEq, Option.some.injEq, forall_eq', ite_true, ite_false]
          exact k5
  · have eB : tB f T i = s := by unfold tB; rw [← hs, if_neg c]
    have eS : srt f T i = 0 := by unfold srt; rw [← hs, if_neg c]
    simp (disch := first | assumption | omega) only [h42, h43, l0, l1, l2, l3, l4, l5, l6, l7, l8, l9, l10, l20, l60, l61, l62, bb_t, bb_f, l100, l120, l512, l400, l401, l700, l9999, nm1, lm1, nlt, nle, neq, glt, gle, lgt, lge, geq, egq, mI_l, mI_e, e_mI, l_mI, le_mI, mI_le, bI_z, nC, vnI, nI_add, nI_sb, nI_mul, a1m, qs_eq, qs_nc, qs_ni, qs_nk, bq_l, bq_r, bq_l', bq_r', bq_t, bq_f, bq_t', bq_f', bq_n, bq_m, iT, iS, iN, true_and, and_true, eq_self, not_true_eq_false, not_false_eq_true, forall_const, bx_t, bx_f, reduceCtorEq, Option.some.injEq, forall_eq', ite_true, ite_false]
    refine kk _ ((hN.q (by decide) (by decide)).q (by decide) (by decide)) ⟨?_, ?_, ?_, fun x => by omega⟩
    · rw [qs_nk (by decide), qs_nk (by decide), h43, eB]
    · rw [qs_nk (by decide), qs_eq, hs]
    · rw [qs_eq, eS]
theorem sp_rnext {t p T i : Nat} {f : Nat → Nat} {a : qa} {post : qa → Prop} (h : MP f T a) (hi : i ≤ T) (h43 : a 11 0 43 = nI i) (kk : ∀ a', Nx a a' → MT f T i a' → post a') : wp_X11_next t p a post :=
  ⟨_, sl_nskip h (fun a' b1 b2 => sp_next52 h hi b1 b2 kk) (T - i) i a (by omega) rfl (Nx.rfl' a) h43⟩
