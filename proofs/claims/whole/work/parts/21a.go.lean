theorem dI {l r : Nat} (hl : l ≤ 100000) (hr : r ≤ 100000) : (nI l - nI r).toInt = (l : Int) - r := by
  rw [Int32.toInt_sub, nT (by omega), nT (by omega)]
  exact Int.bmod_eq_of_le (by simp <;> omega) (by simp <;> omega)
theorem m10 : (-nI 10).toInt = -10 := by decide
theorem dlt {l r : Nat} (hl : l ≤ 100000) (hr : r ≤ 100000) : (nI l - nI r < -nI 10) = (l + 10 < r) := by
  rw [q_lti, dI hl hr, m10]
  exact propext ⟨fun h => by omega, fun h => by omega⟩
theorem dgt {l r : Nat} (hl : l ≤ 100000) (hr : r ≤ 100000) : (nI 10 < nI l - nI r) = (r + 10 < l) := by
  rw [q_lti, dI hl hr, nT (by omega)]
  exact propext ⟨fun h => by omega, fun h => by omega⟩
theorem dge {l r : Nat} (hl : l ≤ 100000) (hr : r ≤ 100000) : (nI 0 ≤ nI l - nI r) = (r ≤ l) := by
  rw [q_lei, dI hl hr, nT (by omega)]
  exact propext ⟨fun h => by omega, fun h => by omega⟩
theorem dng {l r : Nat} (h : l ≤ r) : nI 0 - (nI l - nI r) = nI (r - l) := by
  have e : nI r = nI (r - l) + nI l := by rw [nI_add, Nat.sub_add_cancel h]
  rw [e]
  generalize nI (r - l) = x
  generalize nI l = y
  have : nI 0 = (0 : Int32) := rfl
  rw [this, Int32.zero_sub, Int32.neg_sub, Int32.add_sub_cancel]
def fitM (a : qa) (m : Nat) : Prop := ¬ (a 3 m 4 - a 3 m 5 < -nI 10) ∧ ¬ (nI 10 < a 3 m 4 - a 3 m 5) ∧ (a 53 0 m = nI 0 ∨ a 3 m 4 + a 3 m 5 + a 3 m 7 = nI 0)
set_option maxHeartbeats 4000000 in
theorem sp_X3_isFit {t p m : Nat} {a : qa} {post : Int32 → qa → Prop} (hm : m < 3 * t) (hE : iE t p a) (k1 : fitM a m → post (nI 1) a) (k0 : ¬ fitM a m → post (nI 0) a) : wp_X3_isFit t p m a post := by
  obtain ⟨f0, f1, f2, f3, f4, f5, f6, ⟨l, r, w, hw, w1, w2, w3⟩, f8, f9, f10, f11⟩ := hE m hm
  unfold wp_X3_isFit
  unfold fitM at k1 k0
  rw [w1, w2, w3, dlt (by omega) (by omega), dgt (by omega) (by omega), nI_add, nI_add, neq (by omega) (by omega)] at k1 k0
  have ea : (if nI 0 ≤ nI l - nI r then nI l - nI r else nI 0 - (nI l - nI r)) = nI (l - r + (r - l)) := by
    by_cases c : r ≤ l
    · rw [if_pos (by rw [dge (by omega) (by omega)]; exact c), nI_sub c]
      congr 1
      omega
    · rw [if_neg (by rw [dge (by omega) (by omega)]; exact c), dng (by omega)]
      congr 1
      omega
  have ea' : (if 0 ≤ nI l - nI r then nI l - nI r else 0 - (nI l - nI r)) = nI (l - r + (r - l)) := ea
  rw [w1, w2, ea', f2]
  by_cases c1 : 10 < l - r + (r - l)
  · simp (disch := first | assumption | omega) only [l0, l1, l2, l3, l4, l5, l6, l7, l8, l9, l10, l20, l60, l61, l62, bb_t, bb_f, l100, l120, l512, l400, l401, l700, l9999, nm1, lm1, nlt, nle, neq, glt, gle, lgt, lge, geq, egq, mI_l, mI_e, e_mI, l_mI, le_mI, mI_le, bI_z, nC, vnI, nI_add, nI_sb, nI_mul, a1m, qs_eq, qs_nc, qs_ni, qs_nk, bq_l, bq_r, bq_l', bq_r', bq_t, bq_f, bq_t', bq_f', bq_n, bq_m, iT, iS, iN, true_and, and_true, eq_self, not_true_eq_false, not_false_eq_true, forall_const, bx_t, bx_f, reduceCtorEq, Option.some.injEq, forall_eq', ite_true, ite_false]
    exact k0 (fun h => by omega)
  · by_cases c2 : a 53 0 m = nI 0
    · simp (disch := first | assumption | omega) only [l0, l1, l2, l3, l4, l5, l6, l7, l8, l9, l10, l20, l60, l61, l62, bb_t, bb_f, l100, l120, l512, l400, l401, l700, l9999, nm1, lm1, nlt, nle, neq, glt, gle, lgt, lge, geq, egq, mI_l, mI_e, e_mI, l_mI, le_mI, mI_le, bI_z, nC, vnI, nI_add, nI_sb, nI_mul, a1m, qs_eq, qs_nc, qs_ni, qs_nk, bq_l, bq_r, bq_l', bq_r', bq_t, bq_f, bq_t', bq_f', bq_n, bq_m, iT, iS, iN, true_and, and_true, eq_self, not_true_eq_false, not_false_eq_true, forall_const, bx_t, bx_f, reduceCtorEq, Option.some.injEq, forall_eq', ite_true, ite_false]
      exact k1 ⟨by omega, by omega, Or.inl c2⟩
    · by_cases c3 : l + r + w = 0
      · simp (disch := first | assumption | omega) only [wp_X3_load, w1, w2, w3, l0, l1, l2, l3, l4, l5, l6, l7, l8, l9, l10, l20, l60, l61, l62, bb_t, bb_f, l100, l120, l512, l400, l401, l700, l9999, nm1, lm1, nlt, nle, neq, glt, gle, lgt, lge, geq, egq, mI_l, mI_e, e_mI, l_mI, le_mI, mI_le, bI_z, nC, vnI, nI_add, nI_sb, nI_mul, a1m, qs_eq, qs_nc, qs_ni, qs_nk, bq_l, bq_r, bq_l', bq_r', bq_t, bq_f, bq_t', bq_f', bq_n, bq_m, iT, iS, iN, true_and, and_true, eq_self, not_true_eq_false, not_false_eq_true, forall_const, bx_t, bx_f, reduceCtorEq, Option.some.injEq, forall_eq', ite_true, ite_false]
        exact k1 ⟨by omega, by omega, Or.inr c3⟩
      · simp (disch := first | assumption | omega) only [wp_X3_load, w1, w2, w3, l0, l1, l2, l3, l4, l5, l6, l7, l8, l9, l10, l20, l60, l61, l62, bb_t, bb_f, l100, l120, l512, l400, l401, l700, l9999, nm1, lm1, nlt, nle, neq, glt, gle, lgt, lge, geq, egq, mI_l, mI_e, e_mI, l_mI, le_mI, mI_le, bI_z, nC, vnI, nI_add, nI_sb, nI_mul, a1m, qs_eq, qs_nc, qs_ni, qs_nk, bq_l, bq_r, bq_l', bq_r', bq_t, bq_f, bq_t', bq_f', bq_n, bq_m, iT, iS, iN, true_and, and_true, eq_self, not_true_eq_false, not_false_eq_true, forall_const, bx_t, bx_f, reduceCtorEq, Option.some.injEq, forall_eq', ite_true, ite_false]
        exact k0 (fun h => by
          rcases h.2.2 with h | h
          · exact c2 h
          · exact c3 h)
theorem sl_X9_isFit {t p i : Nat} {a : qa} {post : Int32 → qa → Prop} (hi : i < t) (hE : iE t p a) (k1 : (∀ j, j < 3 → fitM a (3 * i + j)) → post (nI 1) a) (k0 : ¬ (∀ j, j < 3 → fitM a (3 * i + j)) → post (nI 0) a) : ∀ (m j : Nat), j + m = 3 → (∀ j', j' < j → fitM a (3 * i + j')) → wl_X9_isFit_2 t p post (m + 1) i (nI j) a := by
  intro m
  induction m with
  | zero =>
    intro j hj hn
    obtain rfl : j = 3 := by omega
    simp (disch := first | assumption | omega) only [wl_X9_isFit_2, l0, l1, l2, l3, l4, l5, l6, l7, l8, l9, l10, l20, l60, l61, l62, bb_t, bb_f, l100, l120, l512, l400, l401, l700, l9999, nm1, lm1, nlt, nle, neq, glt, gle, lgt, lge, geq, egq, mI_l, mI_e, e_mI, l_mI, le_mI, mI_le, bI_z, nC, vnI, nI_add, nI_sb, nI_mul, a1m, qs_eq, qs_nc, qs_ni, qs_nk, bq_l, bq_r, bq_l', bq_r', bq_t, bq_f, bq_t', bq_f', bq_n, bq_m, iT, iS, iN, true_and, and_true, eq_self, not_true_eq_false, not_false_eq_true, forall_const, bx_t, bx_f, reduceCtorEq, Option.some.injEq, forall_eq', ite_true, ite_false]
    exact k1 hn
  | succ m ih =>
    intro j hj hn
    unfold wl_X9_isFit_2
    simp (disch := first | assumption | omega) only [l0, l1, l2, l3, l4, l5, l6, l7, l8, l9, l10, l20, l60, l61, l62, bb_t, bb_f, l100, l120, l512, l400, l401, l700, l9999, nm1, lm1, nlt, nle, neq, glt, gle, lgt, lge, geq, egq, mI_l, mI_e, e_mI, l_mI, le_mI, mI_le, bI_z, nC, vnI, nI_add, nI_sb, nI_mul, a1m, qs_eq, qs_nc, qs_ni, qs_nk, bq_l, bq_r, bq_l', bq_r', bq_t, bq_f, bq_t', bq_f', bq_n, bq_m, iT, iS, iN, true_and, and_true, eq_self, not_true_eq_false, not_false_eq_true, forall_const, bx_t, bx_f, reduceCtorEq, Option.some.injEq, forall_eq', ite_true, ite_false]
    refine sp_X3_isFit (by omega) hE (fun h => ?_) (fun h => ?_)
    · have := ih (j + 1) (by omega) (fun j' hj' => by
        by_cases c : j' = j
        · subst c
          exact h
        · exact hn j' (by omega))
      simp (disch := first | assumption | omega) only [l0, l1, l2, l3, l4, l5, l6, l7, l8, l9, l10, l20, l60, l61, l62, bb_t, bb_f, l100, l120, l512, l400, l401, l700, l9999, nm1, lm1, nlt, nle, neq, glt, gle, lgt, lge, geq, egq, mI_l, mI_e, e_mI, l_mI, le_mI, mI_le, bI_z, nC, vnI, nI_add, nI_sb, nI_mul, a1m, qs_eq, qs_nc, qs_ni, qs_nk, bq_l, bq_r, bq_l', bq_r', bq_t, bq_f, bq_t', bq_f', bq_n, bq_m, iT, iS, iN, true_and, and_true, eq_self, not_true_eq_false, not_false_eq_true, forall_const, bx_t, bx_f, reduceCtorEq, Option.some.injEq, forall_eq', ite_true, ite_false]
      exact this
    · simp (disch := first | assumption | omega) only [l0, l1, l2, l3, l4, l5, l6, l7, l8, l9, l10, l20, l60, l61, l62, bb_t, bb_f, l100, l120, l512, l400, l401, l700, l9999, nm1, lm1, nlt, nle, neq, glt, gle, lgt, lge, geq, egq, mI_l, mI_e, e_mI, l_mI, le_mI, mI_le, bI_z, nC, vnI, nI_add, nI_sb, nI_mul, a1m, qs_eq, qs_nc, qs_ni, qs_nk, bq_l, bq_r, bq_l', bq_r', bq_t, bq_f, bq_t', bq_f', bq_n, bq_m, iT, iS, iN, true_and, and_true, eq_self, not_true_eq_false, not_false_eq_true, forall_const, bx_t, bx_f, reduceCtorEq, Option.some.injEq, forall_eq', ite_true, ite_false]
      exact k0 (fun h' => h (h' j (by omega)))
theorem sp_X9_isFit {t p i : Nat} {a : qa} {post : Int32 → qa → Prop} (hi : i < t) (hE : iE t p a) (k1 : (∀ j, j < 3 → fitM a (3 * i + j)) → post (nI 1) a) (k0 : ¬ (∀ j, j < 3 → fitM a (3 * i + j)) → post (nI 0) a) : wp_X9_isFit t p i a post :=
  ⟨4, sl_X9_isFit hi hE k1 k0 3 0 (by omega) (fun j hj => by omega)⟩
theorem sp_loadS2 {t p i : Nat} {x v : Int32} {a : qa} {post : Int32 → qa → Prop} (hx : ¬ x = nI 3) (hp : p ≤ 100) (h20 : a 11 0 20 = nI p) (hv : v = sumN (ldW a i x) p) (kk : post v a) : wp_X11_load t p (nI i) x a post := sp_X11_loadS hx hp h20 (by rw [← hv]; exact kk)
set_option maxHeartbeats 4000000 in
theorem sl_X11_go66 {t p i I Hh B : Nat} {x2 x3 : Int32} {a : qa} {post : Int32 → qa → Prop} (ht : t ≤ 4) (hp : p ≤ 100) (hi : i < t) (hE : iE t p a) (hF : iF I Hh t p B a) (k1 : (∀ j, j < 3 → fitM a (3 * i + j)) → wp_X11_isShut t p x3 (a 11 0 1) (a 11 0 1) a (fun r124 a124 => ((r124 = nI 0 → ∃ n_136, wl_X11_go_136 t p post n_136 (nI i) x2 x3 (nI 0) a124) ∧ (¬ r124 = nI 0 → post (-nI 5) a124)))) (k0 : ¬ (∀ j, j < 3 → fitM a (3 * i + j)) → post (-nI 4) a) : ∀ (m j : Nat), j + m = 3 → (∀ j', j' < j → fitM a (3 * i + j')) → wl_X11_go_66 t p post (m + 1) (nI i) x2 x3 (nI (3 * i + j)) a := by
  intro m
  induction m with
  | zero =>
    intro j hj hn
    obtain rfl : j = 3 := by omega
    unfold wl_X11_go_66
    simp (disch := first | assumption | omega) only [l0, l1, l2, l3, l4, l5, l6, l7, l8, l9, l10, l20, l60, l61, l62, bb_t, bb_f, l100, l120, l512, l400, l401, l700, l9999, nm1, lm1, nlt, nle, neq, glt, gle, lgt, lge, geq, egq, mI_l, mI_e, e_mI, l_mI, le_mI, mI_le, bI_z, nC, vnI, nI_add, nI_sb, nI_mul, a1m, qs_eq, qs_nc, qs_ni, qs_nk, bq_l, bq_r, bq_l', bq_r', bq_t, bq_f, bq_t', bq_f', bq_n, bq_m, iT, iS, iN, true_and, and_true, eq_self, not_true_eq_false, not_false_eq_true, forall_const, bx_t, bx_f, reduceCtorEq, Option.some.injEq, forall_eq', ite_true, ite_false]
    exact k1 hn
  | succ m ih =>
    intro j hj hn
    have h20 := hF.2.1
    obtain ⟨f0, f1, f2, f3, f4, f5, f6, ⟨l, r, w, hw, w1, w2, w3⟩, f8, f9, f10, f11⟩ := hE (3 * i + j) (by omega)
    have ld := ld_eq (m := 3 * i + j) hE hF (by omega)
    rw [w1, w2, w3, nI_add, nI_add] at ld
    unfold wl_X11_go_66
    simp (disch := first | assumption | omega) only [wp_X11_isEven, l0, l1, l2, l3, l4, l5, l6, l7, l8, l9, l10, l20, l60, l61, l62, bb_t, bb_f, l100, l120, l512, l400, l401, l700, l9999, nm1, lm1, nlt, nle, neq, glt, gle, lgt, lge, geq, egq, mI_l, mI_e, e_mI, l_mI, le_mI, mI_le, bI_z, nC, vnI, nI_add, nI_sb, nI_mul, a1m, qs_eq, qs_nc, qs_ni, qs_nk, bq_l, bq_r, bq_l', bq_r', bq_t, bq_f, bq_t', bq_f', bq_n, bq_m, iT, iS, iN, true_and, and_true, eq_self, not_true_eq_false, not_false_eq_true, forall_const, bx_t, bx_f, reduceCtorEq, Option.some.injEq, forall_eq', ite_true, ite_false]
    refine sp_loadS2 (by decide) hp h20 (w1.symm.trans f8) ?_
    refine sp_loadS2 (by decide) hp h20 (w2.symm.trans f9) ?_
    have fm : fitM a (3 * i + j) ↔ (¬ l + 10 < r ∧ ¬ r + 10 < l ∧ (a 53 0 (3 * i + j) = nI 0 ∨ l + r + w = 0)) := by
      unfold fitM
      rw [w1, w2, w3, dlt (by omega) (by omega), dgt (by omega) (by omega), nI_add, nI_add, neq (by omega) (by omega)]
    have ih' : fitM a (3 * i + j) → wl_X11_go_66 t p post (m + 1) (nI i) x2 x3 (nI (3 * i + (j + 1))) a := fun h => ih (j + 1) (by omega) (fun j' hj' => by
        by_cases c : j' = j
        · subst c
          exact h
        · exact hn j' (by omega))
    have k0' : ¬ fitM a (3 * i + j) → post (-nI 4) a := fun h => k0 (fun h' => h (h' j (by omega)))
    rw [fm] at ih' k0'
    have ea : 3 * i + (j + 1) = 3 * i + j + 1 := by omega
    rw [ea] at ih'
    by_cases c1 : l + 10 < r
    · simp (disch := first | assumption | omega) only [dlt, dgt, l0, l1, l2, l3, l4, l5, l6, l7, l8, l9, l10, l20, l60, l61, l62, bb_t, bb_f, l100, l120, l512, l400, l401, l700, l9999, nm1, lm1, nlt, nle, neq, glt, gle, lgt, lge, geq, egq, mI_l, mI_e, e_mI, l_mI, le_mI, mI_le, bI_z, nC, vnI, nI_add, nI_sb, nI_mul, a1m, qs_eq, qs_nc, qs_ni, qs_nk, bq_l, bq_r, bq_l', bq_r', bq_t, bq_f, bq_t', bq_f', bq_n, bq_m, iT, iS, iN, true_and, and_true, eq_self, not_true_eq_false, not_false_eq_true, forall_const, bx_t, bx_f, reduceCtorEq, Option.some.injEq, forall_eq', ite_true, ite_false]
      exact k0' (fun h => by omega)
    by_cases c2 : r + 10 < l
    · have h := k0' (fun h => by omega)
      simp (disch := first | assumption | omega) only [dlt, dgt, l0, l1, l2, l3, l4, l5, l6, l7, l8, l9, l10, l20, l60, l61, l62, bb_t, bb_f, l100, l120, l512, l400, l401, l700, l9999, nm1, lm1, nlt, nle, neq, glt, gle, lgt, lge, geq, egq, mI_l, mI_e, e_mI, l_mI, le_mI, mI_le, bI_z, nC, vnI, nI_add, nI_sb, nI_mul, a1m, qs_eq, qs_nc, qs_ni, qs_nk, bq_l, bq_r, bq_l', bq_r', bq_t, bq_f, bq_t', bq_f', bq_n, bq_m, iT, iS, iN, true_and, and_true, eq_self, not_true_eq_false, not_false_eq_true, forall_const, bx_t, bx_f, reduceCtorEq, Option.some.injEq, forall_eq', ite_true, ite_false]
      exact ⟨fun _ => h, fun _ => h⟩
    by_cases c3 : a 53 0 (3 * i + j) = nI 0
    · simp (disch := first | assumption | omega) only [dlt, dgt, l0, l1, l2, l3, l4, l5, l6, l7, l8, l9, l10, l20, l60, l61, l62, bb_t, bb_f, l100, l120, l512, l400, l401, l700, l9999, nm1, lm1, nlt, nle, neq, glt, gle, lgt, lge, geq, egq, mI_l, mI_e, e_mI, l_mI, le_mI, mI_le, bI_z, nC, vnI, nI_add, nI_sb, nI_mul, a1m, qs_eq, qs_nc, qs_ni, qs_nk, bq_l, bq_r, bq_l', bq_r', bq_t, bq_f, bq_t', bq_f', bq_n, bq_m, iT, iS, iN, true_and, and_true, eq_self, not_true_eq_false, not_false_eq_true, forall_const, bx_t, bx_f, reduceCtorEq, Option.some.injEq, forall_eq', ite_true, ite_false]
      exact ih' ⟨c1, c2, Or.inl c3⟩
    simp (disch := first | assumption | omega) only [dlt, dgt, l0, l1, l2, l3, l4, l5, l6, l7, l8, l9, l10, l20, l60, l61, l62, bb_t, bb_f, l100, l120, l512, l400, l401, l700, l9999, nm1, lm1, nlt, nle, neq, glt, gle, lgt, lge, geq, egq, mI_l, mI_e, e_mI, l_mI, le_mI, mI_le, bI_z, nC, vnI, nI_add, nI_sb, nI_mul, a1m, qs_eq, qs_nc, qs_ni, qs_nk, bq_l, bq_r, bq_l', bq_r', bq_t, bq_f, bq_t', bq_f', bq_n, bq_m, iT, iS, iN, true_and, and_true, eq_self, not_true_eq_false, not_false_eq_true, forall_const, bx_t, bx_f, reduceCtorEq, Option.some.injEq, forall_eq', ite_true, ite_false]
    refine sp_loadA2 (v := nI (l + r + w)) hp h20 ld.symm ?_
    by_cases c4 : l + r + w = 0
    · simp (disch := first | assumption | omega) only [l0, l1, l2, l3, l4, l5, l6, l7, l8, l9, l10, l20, l60, l61, l62, bb_t, bb_f, l100, l120, l512, l400, l401, l700, l9999, nm1, lm1, nlt, nle, neq, glt, gle, lgt, lge, geq, egq, mI_l, mI_e, e_mI, l_mI, le_mI, mI_le, bI_z, nC, vnI, nI_add, nI_sb, nI_mul, a1m, qs_eq, qs_nc, qs_ni, qs_nk, bq_l, bq_r, bq_l', bq_r', bq_t, bq_f, bq_t', bq_f', bq_n, bq_m, iT, iS, iN, true_and, and_true, eq_self, not_true_eq_false, not_false_eq_true, forall_const, bx_t, bx_f, reduceCtorEq, Option.some.injEq, forall_eq', ite_true, ite_false]
      exact ih' ⟨c1, c2, Or.inr c4⟩
    · simp (disch := first | assumption | omega) only [l0, l1, l2, l3, l4, l5, l6, l7, l8, l9, l10, l20, l60, l61, l62, bb_t, bb_f, l100, l120, l512, l400, l401, l700, l9999, nm1, lm1, nlt, nle, neq, glt, gle, lgt, lge, geq, egq, mI_l, mI_e, e_mI, l_mI, le_mI, mI_le, bI_z, nC, vnI, nI_add, nI_sb, nI_mul, a1m, qs_eq, qs_nc, qs_ni, qs_nk, bq_l, bq_r, bq_l', bq_r', bq_t, bq_f, bq_t', bq_f', bq_n, bq_m, iT, iS, iN, true_and, and_true, eq_self, not_true_eq_false, not_false_eq_true, forall_const, bx_t, bx_f, reduceCtorEq, Option.some.injEq, forall_eq', ite_true, ite_false]
      exact k0' (fun h => by
        rcases h.2.2 with h | h
        · exact c3 h
        · exact c4 h)
def tkn (a : qa) (t : Nat) (x : Int32) : Prop := ∃ s, s < t ∧ a 48 0 s = x
theorem sl_X10_isTaken {t p : Nat} {x : Int32} {a : qa} {post : Int32 → qa → Prop} (ht : t ≤ 4) (e2 : ∀ s, s < t → a 9 s 2 = a 48 0 s) (k1 : tkn a t x → post (nI 1) a) (k0 : ¬ tkn a t x → post (nI 0) a) : ∀ (m j : Nat), j + m = 4 → (∀ s, s < j → s < t → ¬ a 48 0 s = x) → wl_X10_isTaken_2 t p post (m + 1) x (nI j) a := by
  intro m
  induction m with
  | zero =>
    intro j hj hn
    obtain rfl : j = 4 := by omega
    simp (disch := first | assumption | omega) only [wl_X10_isTaken_2, l0, l1, l2, l3, l4, l5, l6, l7, l8, l9, l10, l20, l60, l61, l62, bb_t, bb_f, l100, l120, l512, l400, l401, l700, l9999, nm1, lm1, nlt, nle, neq, glt, gle, lgt, lge, geq, egq, mI_l, mI_e, e_mI, l_mI, le_mI, mI_le, bI_z, nC, vnI, nI_add, nI_sb, nI_mul, a1m, qs_eq, qs_nc, qs_ni, qs_nk, bq_l, bq_r, bq_l', bq_r', bq_t, bq_f, bq_t', bq_f', bq_n, bq_m, iT, iS, iN, true_and, and_true, eq_self, not_true_eq_false, not_false_eq_true, forall_const, bx_t, bx_f, reduceCtorEq, Option.some.injEq, forall_eq', ite_true, ite_false]
    exact k0 (fun ⟨s, hs, e⟩ => hn s (by omega) hs e)
  | succ m ih =>
    intro j hj hn
    unfold wl_X10_isTaken_2
    by_cases hjt : j < t
    · by_cases c : a 48 0 j = x
      · simp (disch := first | assumption | omega) only [if_pos, e2, l0, l1, l2, l3, l4, l5, l6, l7, l8, l9, l10, l20, l60, l61, l62, bb_t, bb_f, l100, l120, l512, l400, l401, l700, l9999, nm1, lm1, nlt, nle, neq, glt, gle, lgt, lge, geq, egq, mI_l, mI_e, e_mI, l_mI, le_mI, mI_le, bI_z, nC, vnI, nI_add, nI_sb, nI_mul, a1m, qs_eq, qs_nc, qs_ni, qs_nk, bq_l, bq_r, bq_l', bq_r', bq_t, bq_f, bq_t', bq_f', bq_n, bq_m, iT, iS, iN, true_and, and_true, eq_self, not_true_eq_false, not_false_eq_true, forall_const, bx_t, bx_f, reduceCtorEq, Option.some.injEq, forall_eq', ite_true, ite_false]
        exact k1 ⟨j, hjt, c⟩
      · have := ih (j + 1) (by omega) (fun s hs hst => by
          by_cases c' : s = j
          · subst c'
            exact c
          · exact hn s (by omega) hst)
        simp (disch := first | assumption | omega) only [if_pos, e2, l0, l1, l2, l3, l4, l5, l6, l7, l8, l9, l10, l20, l60, l61, l62, bb_t, bb_f, l100, l120, l512, l400, l401, l700, l9999, nm1, lm1, nlt, nle, neq, glt, gle, lgt, lge, geq, egq, mI_l, mI_e, e_mI, l_mI, le_mI, mI_le, bI_z, nC, vnI, nI_add, nI_sb, nI_mul, a1m, qs_eq, qs_nc, qs_ni, qs_nk, bq_l, bq_r, bq_l', bq_r', bq_t, bq_f, bq_t', bq_f', bq_n, bq_m, iT, iS, iN, true_and, and_true, eq_self, not_true_eq_false, not_false_eq_true, forall_const, bx_t, bx_f, reduceCtorEq, Option.some.injEq, forall_eq', ite_true, ite_false]
        exact this
    · have := ih (j + 1) (by omega) (fun s hs hst => hn s (by omega) hst)
      simp (disch := first | assumption | omega) only [if_neg, l0, l1, l2, l3, l4, l5, l6, l7, l8, l9, l10, l20, l60, l61, l62, bb_t, bb_f, l100, l120, l512, l400, l401, l700, l9999, nm1, lm1, nlt, nle, neq, glt, gle, lgt, lge, geq, egq, mI_l, mI_e, e_mI, l_mI, le_mI, mI_le, bI_z, nC, vnI, nI_add, nI_sb, nI_mul, a1m, qs_eq, qs_nc, qs_ni, qs_nk, bq_l, bq_r, bq_l', bq_r', bq_t, bq_f, bq_t', bq_f', bq_n, bq_m, iT, iS, iN, true_and, and_true, eq_self, not_true_eq_false, not_false_eq_true, forall_const, bx_t, bx_f, reduceCtorEq, Option.some.injEq, forall_eq', ite_true, ite_false]
      exact this
theorem sl_X11_go136 {t p i L : Nat} {x2 : Int32} {a : qa} {post : Int32 → qa → Prop} (ht : t ≤ 4) (hi : i < t) (hL : L < 6) (h11 : a 11 0 11 = nI t) (k1 : ¬ a 42 0 L = nI 0 → tkn a t (nI L) → post (-nI 6) a) (k0 : (¬ a 42 0 L = nI 0 → ¬ tkn a t (nI L)) → post (a 11 0 1 + a 40 0 L) (qs (qs (qs (qs a 47 0 i mI) 48 0 i (nI L)) 49 0 i (vp_nar .boolean x2)) 50 0 i (a 11 0 1 + a 40 0 L))) : ∀ (m j : Nat), j + m = t → (¬ a 42 0 L = nI 0 → ∀ s, s < j → ¬ a 48 0 s = nI L) → wl_X11_go_136 t p post (m + 1) (nI i) x2 (nI L) (nI j) a := by
  intro m
  induction m with
  | zero =>
    intro j hj hn
    obtain rfl : j = t := by omega
    simp (disch := first | assumption | omega) only [wl_X11_go_136, h11, l0, l1, l2, l3, l4, l5, l6, l7, l8, l9, l10, l20, l60, l61, l62, bb_t, bb_f, l100, l120, l512, l400, l401, l700, l9999, nm1, lm1, nlt, nle, neq, glt, gle, lgt, lge, geq, egq, mI_l, mI_e, e_mI, l_mI, le_mI, mI_le, bI_z, nC, vnI, nI_add, nI_sb, nI_mul, a1m, qs_eq, qs_nc, qs_ni, qs_nk, bq_l, bq_r, bq_l', bq_r', bq_t, bq_f, bq_t', bq_f', bq_n, bq_m, iT, iS, iN, true_and, and_true, eq_self, not_true_eq_false, not_false_eq_true, forall_const, bx_t, bx_f, reduceCtorEq, Option.some.injEq, forall_eq', ite_true, ite_false]
    exact k0 (fun c ⟨s, hs, e⟩ => hn c s hs e)
  | succ m ih =>
    intro j hj hn
    unfold wl_X11_go_136
    by_cases c : a 42 0 L = nI 0
    · have := ih (j + 1) (by omega) (fun c' => absurd c c')
      simp (disch := first | assumption | omega) only [h11, l0, l1, l2, l3, l4, l5, l6, l7, l8, l9, l10, l20, l60, l61, l62, bb_t, bb_f, l100, l120, l512, l400, l401, l700, l9999, nm1, lm1, nlt, nle, neq, glt, gle, lgt, lge, geq, egq, mI_l, mI_e, e_mI, l_mI, le_mI, mI_le, bI_z, nC, vnI, nI_add, nI_sb, nI_mul, a1m, qs_eq, qs_nc, qs_ni, qs_nk, bq_l, bq_r, bq_l', bq_r', bq_t, bq_f, bq_t', bq_f', bq_n, bq_m, iT, iS, iN, true_and, and_true, eq_self, not_true_eq_false, not_false_eq_true, forall_const, bx_t, bx_f, reduceCtorEq, Option.some.injEq, forall_eq', ite_true, ite_false]
      exact this
    · by_cases c2 : a 48 0 j = nI L
      · simp (disch := first | assumption | omega) only [h11, l0, l1, l2, l3, l4, l5, l6, l7, l8, l9, l10, l20, l60, l61, l62, bb_t, bb_f, l100, l120, l512, l400, l401, l700, l9999, nm1, lm1, nlt, nle, neq, glt, gle, lgt, lge, geq, egq, mI_l, mI_e, e_mI, l_mI, le_mI, mI_le, bI_z, nC, vnI, nI_add, nI_sb, nI_mul, a1m, qs_eq, qs_nc, qs_ni, qs_nk, bq_l, bq_r, bq_l', bq_r', bq_t, bq_f, bq_t', bq_f', bq_n, bq_m, iT, iS, iN, true_and, and_true, eq_self, not_true_eq_false, not_false_eq_true, forall_const, bx_t, bx_f, reduceCtorEq, Option.some.injEq, forall_eq', ite_true, ite_false]
        exact k1 c ⟨j, by omega, c2⟩
      · have := ih (j + 1) (by omega) (fun _ s hs => by
          by_cases c' : s = j
          · subst c'
            exact c2
          · exact hn c s (by omega))
        simp (disch := first | assumption | omega) only [h11, l0, l1, l2, l3, l4, l5, l6, l7, l8, l9, l10, l20, l60, l61, l62, bb_t, bb_f, l100, l120, l512, l400, l401, l700, l9999, nm1, lm1, nlt, nle, neq, glt, gle, lgt, lge, geq, egq, mI_l, mI_e, e_mI, l_mI, le_mI, mI_le, bI_z, nC, vnI, nI_add, nI_sb, nI_mul, a1m, qs_eq, qs_nc, qs_ni, qs_nk, bq_l, bq_r, bq_l', bq_r', bq_t, bq_f, bq_t', bq_f', bq_n, bq_m, iT, iS, iN, true_and, and_true, eq_self, not_true_eq_false, not_false_eq_true, forall_const, bx_t, bx_f, reduceCtorEq, Option.some.injEq, forall_eq', ite_true, ite_false]
        exact this
