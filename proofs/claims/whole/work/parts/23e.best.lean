def ffR (base : qa) (n s : Nat) (w : Nat → Nat) (j : Nat) (Y : qa) : Prop := Y 1 0 5 = nI n ∧ Y 1 0 6 = nI s ∧ Y 1 0 7 = nI 0 ∧ Y 1 0 8 = nI 0 ∧ (∀ k, j ≤ k → k ≤ n → Y 19 0 k = nI (ah w (n - k) k)) ∧ (∀ k, j ≤ k → k < n → Y 21 0 k = nI 2) ∧ ∀ c, c ≠ 1 → c ≠ 19 → c ≠ 21 → Y c = base c
set_option maxHeartbeats 4000000 in
theorem sl_ff {t p n s : Nat} {base : qa} {w : Nat → Nat} {post : qa → Prop} (hn : n ≤ 10) (hw : ∀ i, i < n → w i ≤ 60 ∧ base 18 0 i = nI (w i)) (kk : ∀ Y, ffR base n s w 0 Y → ∃ n_75, n_75 ≤ 14 ∧ wp_X1_look t p n_75 (nI 0) (nI 0) (nI 0) (nI 0) Y (fun a75 => post a75)) : ∀ (j : Nat) (Y : qa), j ≤ n → ffR base n s w j Y → wl_X1_findFor_32 t p post (j + 1) (nI j - nI 1) Y := by
  intro j
  induction j with
  | zero =>
    intro Y hj h
    unfold wl_X1_findFor_32
    simp (disch := first | assumption | omega) only [z1, l0, l1, l2, l3, l4, l5, l6, l7, l8, l9, l10, l20, l60, l61, l62, bb_t, bb_f, l100, l120, l512, l400, l401, l700, l9999, nm1, lm1, nlt, nle, neq, glt, gle, lgt, lge, geq, egq, mI_l, mI_e, e_mI, l_mI, le_mI, mI_le, bI_z, nC, vnI, nI_add, nI_sb, nI_mul, a1m, qs_eq, qs_nc, qs_ni, qs_nk, bq_l, bq_r, bq_l', bq_r', bq_t, bq_f, bq_t', bq_f', bq_n, bq_m, iT, iS, iN, true_and, and_true, eq_self, not_true_eq_false, not_false_eq_true, forall_const, bx_t, bx_f, reduceCtorEq, Option.some.injEq, forall_eq', ite_true, ite_false]
    exact kk Y h
  | succ j ih =>
    intro Y hj h
    obtain ⟨h1, h2, h3, h4, h5, h6, h7⟩ := h
    have e0 : nI (j + 1) - nI 1 = nI j := nI_pred j
    have em : nI j + mI = nI j - nI 1 := (Int32.sub_eq_add_neg (nI j) (nI 1)).symm
    have x19 := h5 (j + 1) (Nat.le_refl _) hj
    have x18 : Y 18 0 j = nI (w j) := by
      rw [h7 18 (by decide) (by decide) (by decide)]
      exact (hw j (by omega)).2
    have hA := ah_le (fun i hi => (hw i hi).1) (n - (j + 1)) (j + 1) (by omega)
    unfold wl_X1_findFor_32
    rw [e0]
    simp (disch := first | assumption | omega) only [x19, x18, l0, l1, l2, l3, l4, l5, l6, l7, l8, l9, l10, l20, l60, l61, l62, bb_t, bb_f, l100, l120, l512, l400, l401, l700, l9999, nm1, lm1, nlt, nle, neq, glt, gle, lgt, lge, geq, egq, mI_l, mI_e, e_mI, l_mI, le_mI, mI_le, bI_z, nC, vnI, nI_add, nI_sb, nI_mul, a1m, qs_eq, qs_nc, qs_ni, qs_nk, bq_l, bq_r, bq_l', bq_r', bq_t, bq_f, bq_t', bq_f', bq_n, bq_m, iT, iS, iN, true_and, and_true, eq_self, not_true_eq_false, not_false_eq_true, forall_const, bx_t, bx_f, reduceCtorEq, Option.some.injEq, forall_eq', ite_true, ite_false]
    rw [em]
    refine ih _ (by omega) ⟨h1, h2, h3, h4, fun k k1 k2 => ?_, fun k k1 k2 => ?_, fun c c1 c2 c3 => ?_⟩
    · rw [qs_nc (by decide), qsr]
      by_cases c : k = j
      · subst c
        rw [if_pos rfl]
        have e : n - k = (n - (k + 1)) + 1 := by omega
        rw [e]
        rfl
      · rw [if_neg c]
        exact h5 k (by omega) k2
    · rw [qsr]
      by_cases c : k = j
      · rw [if_pos c]
      · rw [if_neg c, qs_nc (by decide)]
        exact h6 k (by omega) k2
    · rw [← h7 c c1 c2 c3]
      funext i k
      rw [qs_nc c3, qs_nc c2]
set_option maxHeartbeats 4000000 in
theorem sp_findFor {t p n s : Nat} {base : qa} {w : Nat → Nat} {post : qa → Prop} (hn : n ≤ 10) (hs : s ≤ 120) (h5 : base 1 0 5 = nI n) (hw : ∀ i, i < n → w i ≤ 60 ∧ base 18 0 i = nI (w i)) (kk : ∀ Y, Y 1 0 5 = nI n → Y 1 0 7 = nI ((rf w s n 0 0 0 0 (fun _ => nI 0) (1, 0, fun _ => nI 2)).1 - 1) → (∀ i, i < n → Y 21 0 i = (rf w s n 0 0 0 0 (fun _ => nI 0) (1, 0, fun _ => nI 2)).2.2 i) → (∀ c, c ≠ 1 → c ≠ 19 → c ≠ 20 → c ≠ 21 → Y c = base c) → post Y) : wp_X1_findFor t p (nI s) base post := by
  unfold wp_X1_findFor
  rw [h5]
  simp (disch := first | assumption | omega) only [l0, l1, l2, l3, l4, l5, l6, l7, l8, l9, l10, l20, l60, l61, l62, bb_t, bb_f, l100, l120, l512, l400, l401, l700, l9999, nm1, lm1, nlt, nle, neq, glt, gle, lgt, lge, geq, egq, mI_l, mI_e, e_mI, l_mI, le_mI, mI_le, bI_z, nC, vnI, nI_add, nI_sb, nI_mul, a1m, qs_eq, qs_nc, qs_ni, qs_nk, bq_l, bq_r, bq_l', bq_r', bq_t, bq_f, bq_t', bq_f', bq_n, bq_m, iT, iS, iN, true_and, and_true, eq_self, not_true_eq_false, not_false_eq_true, forall_const, bx_t, bx_f, reduceCtorEq, Option.some.injEq, forall_eq', ite_true, ite_false]
  refine ⟨n + 1, ?_⟩
  refine sl_ff (base := base) (s := s) (w := w) hn hw (fun Y hY => ?_) n _ (Nat.le_refl _) ?_
  · refine ⟨n + 1, by omega, ?_⟩
    obtain ⟨h1, h2, h3, h4, h5, h6, h7⟩ := hY
    refine sp_look (base := Y) (w := w) (s := s) hn hs (fun i hi => (hw i hi).1) n 0 0 0 0 (fun _ => nI 0) Y (1, 0, fun _ => nI 2) _ (n + 1) (by omega) (by omega) (by omega) (by omega) ⟨h1, h2, ?_, ?_, h3, by decide, by decide, h4, by decide, ?_, fun _ _ _ _ => rfl⟩ (fun i hi => by omega) (fun X' hX hX' => ?_)
    · intro i hi
      rw [h7 18 (by decide) (by decide) (by decide)]
      exact (hw i hi).2
    · intro k hk
      exact h5 k (by omega) hk
    · intro i hi
      exact h6 i (by omega) hi
    · obtain ⟨y1, y2, y3, y4, y5, y6, y7, y8, y9, y10, y11⟩ := hX
      refine kk X' y1 y5 y10 (fun c c1 c2 c3 c4 => ?_)
      rw [y11 c c1 c3 c4, h7 c c1 c2 c4]
  · refine ⟨h5, rfl, rfl, rfl, fun k k1 k2 => ?_, fun k k1 k2 => by omega, fun c c1 c2 c3 => ?_⟩
    · obtain rfl : k = n := by omega
      have e : k - k = 0 := by omega
      rw [e, qsr, if_pos rfl]
      rfl
    · funext i k
      rw [qs_nc c2, qs_nc c1, qs_nc c1, qs_nc c1]
def fndO (n : Nat) (pk : Nat → Nat) (v : Nat → Int32) (x : Int32) : Nat → Nat → Int32
  | 0 => fun _ => mI
  | m + 1 => fun j => if nI (pk j) = x then v j else fndO n pk v x m (j + 1)
theorem sl_sideOf {t p n : Nat} {pk : Nat → Nat} {v : Nat → Int32} {x : Int32} {X : qa} {post : Int32 → qa → Prop} (hn : n ≤ 10) (h5 : X 1 0 5 = nI n) (h17 : ∀ i, i < n → X 17 0 i = nI (pk i)) (h21 : ∀ i, i < n → X 21 0 i = v i) : ∀ (m j : Nat), j + m = n → post (fndO n pk v x m j) X → wl_X1_sideOf_2 t p post (m + 1) x (nI j) X := by
  intro m
  induction m with
  | zero =>
    intro j hj kk
    obtain rfl : j = n := by omega
    unfold wl_X1_sideOf_2
    simp (disch := first | assumption | omega) only [h5, l0, l1, l2, l3, l4, l5, l6, l7, l8, l9, l10, l20, l60, l61, l62, bb_t, bb_f, l100, l120, l512, l400, l401, l700, l9999, nm1, lm1, nlt, nle, neq, glt, gle, lgt, lge, geq, egq, mI_l, mI_e, e_mI, l_mI, le_mI, mI_le, bI_z, nC, vnI, nI_add, nI_sb, nI_mul, a1m, qs_eq, qs_nc, qs_ni, qs_nk, bq_l, bq_r, bq_l', bq_r', bq_t, bq_f, bq_t', bq_f', bq_n, bq_m, iT, iS, iN, true_and, and_true, eq_self, not_true_eq_false, not_false_eq_true, forall_const, bx_t, bx_f, reduceCtorEq, Option.some.injEq, forall_eq', ite_true, ite_false]
    exact kk
  | succ m ih =>
    intro j hj kk
    have e17 := h17 j (by omega)
    have e21 := h21 j (by omega)
    unfold fndO at kk
    unfold wl_X1_sideOf_2
    by_cases c : nI (pk j) = x
    · rw [if_pos c] at kk
      simp (disch := first | assumption | omega) only [h5, e17, e21, l0, l1, l2, l3, l4, l5, l6, l7, l8, l9, l10, l20, l60, l61, l62, bb_t, bb_f, l100, l120, l512, l400, l401, l700, l9999, nm1, lm1, nlt, nle, neq, glt, gle, lgt, lge, geq, egq, mI_l, mI_e, e_mI, l_mI, le_mI, mI_le, bI_z, nC, vnI, nI_add, nI_sb, nI_mul, a1m, qs_eq, qs_nc, qs_ni, qs_nk, bq_l, bq_r, bq_l', bq_r', bq_t, bq_f, bq_t', bq_f', bq_n, bq_m, iT, iS, iN, true_and, and_true, eq_self, not_true_eq_false, not_false_eq_true, forall_const, bx_t, bx_f, reduceCtorEq, Option.some.injEq, forall_eq', ite_true, ite_false]
      exact kk
    · rw [if_neg c] at kk
      have := ih (j + 1) (by omega) kk
      simp (disch := first | assumption | omega) only [h5, e17, l0, l1, l2, l3, l4, l5, l6, l7, l8, l9, l10, l20, l60, l61, l62, bb_t, bb_f, l100, l120, l512, l400, l401, l700, l9999, nm1, lm1, nlt, nle, neq, glt, gle, lgt, lge, geq, egq, mI_l, mI_e, e_mI, l_mI, le_mI, mI_le, bI_z, nC, vnI, nI_add, nI_sb, nI_mul, a1m, qs_eq, qs_nc, qs_ni, qs_nk, bq_l, bq_r, bq_l', bq_r', bq_t, bq_f, bq_t', bq_f', bq_n, bq_m, iT, iS, iN, true_and, and_true, eq_self, not_true_eq_false, not_false_eq_true, forall_const, bx_t, bx_f, reduceCtorEq, Option.some.injEq, forall_eq', ite_true, ite_false]
      exact this
theorem sl_bestOfR {t p n : Nat} {pk : Nat → Nat} {v : Nat → Int32} {x : Int32} {X : qa} {post : Int32 → qa → Prop} (hn : n ≤ 10) (h5 : X 11 0 36 = nI n) (h17 : ∀ i, i < n → X 68 0 i = nI (pk i)) (h21 : ∀ i, i < n → X 70 0 i = v i) : ∀ (m j : Nat), j + m = n → post (fndO n pk v x m j) X → wl_X11_bestOf_19 t p post (m + 1) x (nI j) X := by
  intro m
  induction m with
  | zero =>
    intro j hj kk
    obtain rfl : j = n := by omega
    unfold wl_X11_bestOf_19
    simp (disch := first | assumption | omega) only [h5, l0, l1, l2, l3, l4, l5, l6, l7, l8, l9, l10, l20, l60, l61, l62, bb_t, bb_f, l100, l120, l512, l400, l401, l700, l9999, nm1, lm1, nlt, nle, neq, glt, gle, lgt, lge, geq, egq, mI_l, mI_e, e_mI, l_mI, le_mI, mI_le, bI_z, nC, vnI, nI_add, nI_sb, nI_mul, a1m, qs_eq, qs_nc, qs_ni, qs_nk, bq_l, bq_r, bq_l', bq_r', bq_t, bq_f, bq_t', bq_f', bq_n, bq_m, iT, iS, iN, true_and, and_true, eq_self, not_true_eq_false, not_false_eq_true, forall_const, bx_t, bx_f, reduceCtorEq, Option.some.injEq, forall_eq', ite_true, ite_false]
    exact kk
  | succ m ih =>
    intro j hj kk
    have e17 := h17 j (by omega)
    have e21 := h21 j (by omega)
    unfold fndO at kk
    unfold wl_X11_bestOf_19
    by_cases c : nI (pk j) = x
    · rw [if_pos c] at kk
      simp (disch := first | assumption | omega) only [h5, e17, e21, l0, l1, l2, l3, l4, l5, l6, l7, l8, l9, l10, l20, l60, l61, l62, bb_t, bb_f, l100, l120, l512, l400, l401, l700, l9999, nm1, lm1, nlt, nle, neq, glt, gle, lgt, lge, geq, egq, mI_l, mI_e, e_mI, l_mI, le_mI, mI_le, bI_z, nC, vnI, nI_add, nI_sb, nI_mul, a1m, qs_eq, qs_nc, qs_ni, qs_nk, bq_l, bq_r, bq_l', bq_r', bq_t, bq_f, bq_t', bq_f', bq_n, bq_m, iT, iS, iN, true_and, and_true, eq_self, not_true_eq_false, not_false_eq_true, forall_const, bx_t, bx_f, reduceCtorEq, Option.some.injEq, forall_eq', ite_true, ite_false]
      exact kk
    · rw [if_neg c] at kk
      have := ih (j + 1) (by omega) kk
      simp (disch := first | assumption | omega) only [h5, e17, l0, l1, l2, l3, l4, l5, l6, l7, l8, l9, l10, l20, l60, l61, l62, bb_t, bb_f, l100, l120, l512, l400, l401, l700, l9999, nm1, lm1, nlt, nle, neq, glt, gle, lgt, lge, geq, egq, mI_l, mI_e, e_mI, l_mI, le_mI, mI_le, bI_z, nC, vnI, nI_add, nI_sb, nI_mul, a1m, qs_eq, qs_nc, qs_ni, qs_nk, bq_l, bq_r, bq_l', bq_r', bq_t, bq_f, bq_t', bq_f', bq_n, bq_m, iT, iS, iN, true_and, and_true, eq_self, not_true_eq_false, not_false_eq_true, forall_const, bx_t, bx_f, reduceCtorEq, Option.some.injEq, forall_eq', ite_true, ite_false]
      exact this
theorem fndO_e {n : Nat} {pk : Nat → Nat} {v v' : Nat → Int32} {x : Int32} (h : ∀ i, i < n → v i = v' i) : ∀ (m j : Nat), j + m = n → fndO n pk v x m j = fndO n pk v' x m j := by
  intro m
  induction m with
  | zero =>
    intro j hj
    rfl
  | succ m ih =>
    intro j hj
    unfold fndO
    rw [h j (by omega), ih (j + 1) (by omega)]
