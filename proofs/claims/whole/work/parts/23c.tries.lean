def ldv (x : Nat) : Int32 := if x = 0 then mI else nI (x - 1)
theorem ldv_lt {z x : Nat} (hz : z < 2147483648) (hx : x ≤ 1000) : (nI z < ldv x) = (z + 1 < x) := by
  unfold ldv
  by_cases c : x = 0
  · rw [if_pos c, l_mI hz]
    exact (eq_false (by omega)).symm
  · rw [if_neg c, nlt hz (by omega)]
    exact propext ⟨fun h => by omega, fun h => by omega⟩
theorem ldv_eq {z x : Nat} (hz : z < 2147483648) (hx : x ≤ 1000) : (nI z = ldv x) = (z + 1 = x) := by
  unfold ldv
  by_cases c : x = 0
  · rw [if_pos c, e_mI hz]
    exact (eq_false (by omega)).symm
  · rw [if_neg c, neq hz (by omega)]
    exact propext ⟨fun h => by omega, fun h => by omega⟩
theorem dle {l r : Nat} (hl : l ≤ 100000) (hr : r ≤ 100000) : (nI l - nI r ≤ nI 10) = (l ≤ r + 10) := by
  rw [q_lei, dI hl hr, nT (by omega)]
  exact propext ⟨fun h => by omega, fun h => by omega⟩
def rbR (base : qa) (n : Nat) (X : qa) (st : sSt) : Prop := X 11 0 39 = ldv st.1 ∧ st.1 ≤ 1000 ∧ X 11 0 40 = nI st.2.1 ∧ st.2.1 ≤ 10 ∧ (∀ i, i < n → X 70 0 i = st.2.2 i) ∧ (∀ j, j ≠ 39 → j ≠ 40 → X 11 0 j = base 11 0 j) ∧ ∀ c, c ≠ 11 → c ≠ 69 → c ≠ 70 → X c = base c
theorem rbR_69 {base : qa} {n k : Nat} {X : qa} {st : sSt} {x : Int32} (h : rbR base n X st) : rbR base n (qs X 69 0 k x) st := by
  obtain ⟨h1, h2, h3, h4, h5, h6, h7⟩ := h
  refine ⟨h1, h2, h3, h4, h5, h6, fun c c1 c2 c3 => ?_⟩
  rw [← h7 c c1 c2 c3]
  funext i j
  exact qs_nc c2
theorem sl_keepR {t p n : Nat} {X : qa} {post : qa → Prop} (hn : n ≤ 10) : ∀ (m j : Nat) (Y : qa), j + m = n → Y 11 0 36 = nI n → Y 69 = X 69 → (∀ i, Y 70 0 i = if i < j then X 69 0 i else X 70 0 i) → (∀ c, c ≠ 70 → Y c = X c) → (∀ Y, (∀ i, i < n → Y 70 0 i = X 69 0 i) → (∀ c, c ≠ 70 → Y c = X c) → post Y) → wl_X11_tries_85 t p post (m + 1) (nI j) Y := by
  intro m
  induction m with
  | zero =>
    intro j Y hj h5 h20 h21 hc kk
    obtain rfl : j = n := by omega
    unfold wl_X11_tries_85
    simp (disch := first | assumption | omega) only [h5, l0, l1, l2, l3, l4, l5, l6, l7, l8, l9, l10, l20, l60, l61, l62, bb_t, bb_f, l100, l120, l512, l400, l401, l700, l9999, nm1, lm1, nlt, nle, neq, glt, gle, lgt, lge, geq, egq, mI_l, mI_e, e_mI, l_mI, le_mI, mI_le, bI_z, nC, vnI, nI_add, nI_sb, nI_mul, a1m, qs_eq, qs_nc, qs_ni, qs_nk, bq_l, bq_r, bq_l', bq_r', bq_t, bq_f, bq_t', bq_f', bq_n, bq_m, iT, iS, iN, true_and, and_true, eq_self, not_true_eq_false, not_false_eq_true, forall_const, bx_t, bx_f, reduceCtorEq, Option.some.injEq, forall_eq', ite_true, ite_false]
    refine kk Y (fun i hi => ?_) hc
    rw [h21, if_pos hi]
  | succ m ih =>
    intro j Y hj h5 h20 h21 hc kk
    unfold wl_X11_tries_85
    simp (disch := first | assumption | omega) only [h5, l0, l1, l2, l3, l4, l5, l6, l7, l8, l9, l10, l20, l60, l61, l62, bb_t, bb_f, l100, l120, l512, l400, l401, l700, l9999, nm1, lm1, nlt, nle, neq, glt, gle, lgt, lge, geq, egq, mI_l, mI_e, e_mI, l_mI, le_mI, mI_le, bI_z, nC, vnI, nI_add, nI_sb, nI_mul, a1m, qs_eq, qs_nc, qs_ni, qs_nk, bq_l, bq_r, bq_l', bq_r', bq_t, bq_f, bq_t', bq_f', bq_n, bq_m, iT, iS, iN, true_and, and_true, eq_self, not_true_eq_false, not_false_eq_true, forall_const, bx_t, bx_f, reduceCtorEq, Option.some.injEq, forall_eq', ite_true, ite_false]
    refine ih (j + 1) _ (by omega) h5 ?_ (fun i => ?_) (fun c hc' => ?_) kk
    · rw [← h20]
      rfl
    · rw [qsr, h20]
      by_cases c : i = j
      · subst c
        rw [if_pos rfl, if_pos (by omega)]
      · rw [if_neg c, h21]
        by_cases d : i < j
        · rw [if_pos d, if_pos (by omega)]
        · rw [if_neg d, if_neg (by omega)]
    · rw [← hc c hc']
      funext i k
      exact qs_nc hc'
set_option maxHeartbeats 8000000 in
theorem sp_tries {t p n s : Nat} {base : qa} {w pk : Nat → Nat} (hn : n ≤ 10) (hs : s ≤ 120) (hw : ∀ i, i < n → w i ≤ 60) (h36 : base 11 0 36 = nI n) (hpk : ∀ i, i < n → base 68 0 i = nI (pk i) ∧ pk i < 100 ∧ base 56 0 (pk i) = nI (w i)) : ∀ (d k l r m : Nat) (f : Nat → Int32) (X : qa) (st : sSt) (post : qa → Prop) (fu : Nat), k + d = n → d < fu → l + r ≤ 60 * k → m ≤ k → rbR base n X st → (∀ i, i < k → X 69 0 i = f i) → (∀ X', rbR base n X' (rf w s d k l r m f st) → (∀ i, i < k → X' 69 0 i = f i) → post X') → wp_X11_tries t p fu (nI k) (nI l) (nI r) (nI m) (nI s) X post := by
  intro d
  induction d with
  | zero =>
    intro k l r m f X st post fu hk hfu hl hm h hf kk
    obtain rfl : k = n := by omega
    obtain ⟨fu, rfl⟩ : ∃ g, fu = g + 1 := ⟨fu - 1, by omega⟩
    have x36 : X 11 0 36 = nI k := (h.2.2.2.2.2.1 36 (by decide) (by decide)).trans h36
    have x39 := h.1
    have x1 := h.2.1
    have x40 := h.2.2.1
    have x2 := h.2.2.2.1
    unfold wp_X11_tries
    have no : ¬ imp s l r m st.1 st.2.1 → post X := fun hi => kk X (by
      have e : rf w s 0 k l r m f st = st := rfL_n hi
      rw [e]
      exact h) hf
    have yes : imp s l r m st.1 st.2.1 → ∃ n_85, wl_X11_tries_85 t p post n_85 (nI 0) (qs (qs X 11 0 39 (nI (l + r))) 11 0 40 (nI m)) := by
      intro hi
      have e : rf w s 0 k l r m f st = (l + r + 1, m, f) := rfL_y hi
      rw [e] at kk
      obtain ⟨h1, h2, h3, h4, h5, h6, h7⟩ := h
      refine ⟨k + 1, ?_⟩
      refine sl_keepR (X := qs (qs X 11 0 39 (nI (l + r))) 11 0 40 (nI m)) hn k 0 _ (by omega) x36 rfl (fun i => (if_neg (by omega)).symm) (fun _ _ => rfl) (fun Y hY hYc => ?_)
      have y1 : Y 11 = (qs (qs X 11 0 39 (nI (l + r))) 11 0 40 (nI m)) 11 := hYc 11 (by decide)
      refine kk Y ⟨?_, ?_, ?_, ?_, ?_, ?_, ?_⟩ ?_
      · rw [y1]
        rfl
      · show l + r + 1 ≤ 1000
        omega
      · rw [y1]
        rfl
      · show m ≤ 10
        omega
      · intro i hi'
        rw [hY i hi']
        exact hf i hi'
      · intro j j1 j2
        rw [y1, qs_nk j2, qs_nk j1]
        exact h6 j j1 j2
      · intro c c1 c2 c3
        rw [hYc c c3, ← h7 c c1 c2 c3]
        funext i j
        rw [qs_nc c1, qs_nc c1]
      · intro i hi'
        rw [hYc 69 (by decide)]
        exact hf i hi'
    by_cases c1 : l + r ≤ s
    · by_cases c2 : l + 10 < r
      · have := no (by unfold imp; omega)
        simp (disch := first | assumption | omega) only [x36, dlt, l0, l1, l2, l3, l4, l5, l6, l7, l8, l9, l10, l20, l60, l61, l62, bb_t, bb_f, l100, l120, l512, l400, l401, l700, l9999, nm1, lm1, nlt, nle, neq, glt, gle, lgt, lge, geq, egq, mI_l, mI_e, e_mI, l_mI, le_mI, mI_le, bI_z, nC, vnI, nI_add, nI_sb, nI_mul, a1m, qs_eq, qs_nc, qs_ni, qs_nk, bq_l, bq_r, bq_l', bq_r', bq_t, bq_f, bq_t', bq_f', bq_n, bq_m, iT, iS, iN, true_and, and_true, eq_self, not_true_eq_false, not_false_eq_true, forall_const, bx_t, bx_f, reduceCtorEq, Option.some.injEq, forall_eq', ite_true, ite_false]
        exact this
      by_cases c3 : l ≤ r + 10
      · by_cases c4 : l + r + 1 < st.1
        · have := no (by unfold imp; omega)
          simp (disch := first | assumption | omega) only [x36, dlt, dle, x39, ldv_lt, l0, l1, l2, l3, l4, l5, l6, l7, l8, l9, l10, l20, l60, l61, l62, bb_t, bb_f, l100, l120, l512, l400, l401, l700, l9999, nm1, lm1, nlt, nle, neq, glt, gle, lgt, lge, geq, egq, mI_l, mI_e, e_mI, l_mI, le_mI, mI_le, bI_z, nC, vnI, nI_add, nI_sb, nI_mul, a1m, qs_eq, qs_nc, qs_ni, qs_nk, bq_l, bq_r, bq_l', bq_r', bq_t, bq_f, bq_t', bq_f', bq_n, bq_m, iT, iS, iN, true_and, and_true, eq_self, not_true_eq_false, not_false_eq_true, forall_const, bx_t, bx_f, reduceCtorEq, Option.some.injEq, forall_eq', ite_true, ite_false]
          exact this
        by_cases c5 : l + r + 1 = st.1
        · by_cases c6 : m < st.2.1
          · have := yes (by unfold imp; omega)
            simp (disch := first | assumption | omega) only [x36, dlt, dle, x39, ldv_lt, ldv_eq, x40, l0, l1, l2, l3, l4, l5, l6, l7, l8, l9, l10, l20, l60, l61, l62, bb_t, bb_f, l100, l120, l512, l400, l401, l700, l9999, nm1, lm1, nlt, nle, neq, glt, gle, lgt, lge, geq, egq, mI_l, mI_e, e_mI, l_mI, le_mI, mI_le, bI_z, nC, vnI, nI_add, nI_sb, nI_mul, a1m, qs_eq, qs_nc, qs_ni, qs_nk, bq_l, bq_r, bq_l', bq_r', bq_t, bq_f, bq_t', bq_f', bq_n, bq_m, iT, iS, iN, true_and, and_true, eq_self, not_true_eq_false, not_false_eq_true, forall_const, bx_t, bx_f, reduceCtorEq, Option.some.injEq, forall_eq', ite_true, ite_false]
            exact this
          · have := no (by unfold imp; omega)
            simp (disch := first | assumption | omega) only [x36, dlt, dle, x39, ldv_lt, ldv_eq, x40, l0, l1, l2, l3, l4, l5, l6, l7, l8, l9, l10, l20, l60, l61, l62, bb_t, bb_f, l100, l120, l512, l400, l401, l700, l9999, nm1, lm1, nlt, nle, neq, glt, gle, lgt, lge, geq, egq, mI_l, mI_e, e_mI, l_mI, le_mI, mI_le, bI_z, nC, vnI, nI_add, nI_sb, nI_mul, a1m, qs_eq, qs_nc, qs_ni, qs_nk, bq_l, bq_r, bq_l', bq_r', bq_t, bq_f, bq_t', bq_f', bq_n, bq_m, iT, iS, iN, true_and, and_true, eq_self, not_true_eq_false, not_false_eq_true, forall_const, bx_t, bx_f, reduceCtorEq, Option.some.injEq, forall_eq', ite_true, ite_false]
            exact this
        · have := yes (by unfold imp; omega)
          simp (disch := first | assumption | omega) only [x36, dlt, dle, x39, ldv_lt, ldv_eq, x40, l0, l1, l2, l3, l4, l5, l6, l7, l8, l9, l10, l20, l60, l61, l62, bb_t, bb_f, l100, l120, l512, l400, l401, l700, l9999, nm1, lm1, nlt, nle, neq, glt, gle, lgt, lge, geq, egq, mI_l, mI_e, e_mI, l_mI, le_mI, mI_le, bI_z, nC, vnI, nI_add, nI_sb, nI_mul, a1m, qs_eq, qs_nc, qs_ni, qs_nk, bq_l, bq_r, bq_l', bq_r', bq_t, bq_f, bq_t', bq_f', bq_n, bq_m, iT, iS, iN, true_and, and_true, eq_self, not_true_eq_false, not_false_eq_true, forall_const, bx_t, bx_f, reduceCtorEq, Option.some.injEq, forall_eq', ite_true, ite_false]
          exact this
      · have := no (by unfold imp; omega)
        simp (disch := first | assumption | omega) only [x36, dlt, dle, l0, l1, l2, l3, l4, l5, l6, l7, l8, l9, l10, l20, l60, l61, l62, bb_t, bb_f, l100, l120, l512, l400, l401, l700, l9999, nm1, lm1, nlt, nle, neq, glt, gle, lgt, lge, geq, egq, mI_l, mI_e, e_mI, l_mI, le_mI, mI_le, bI_z, nC, vnI, nI_add, nI_sb, nI_mul, a1m, qs_eq, qs_nc, qs_ni, qs_nk, bq_l, bq_r, bq_l', bq_r', bq_t, bq_f, bq_t', bq_f', bq_n, bq_m, iT, iS, iN, true_and, and_true, eq_self, not_true_eq_false, not_false_eq_true, forall_const, bx_t, bx_f, reduceCtorEq, Option.some.injEq, forall_eq', ite_true, ite_false]
        exact ⟨fun _ => this, fun _ => this⟩
    · have := no (by unfold imp; omega)
      simp (disch := first | assumption | omega) only [l0, l1, l2, l3, l4, l5, l6, l7, l8, l9, l10, l20, l60, l61, l62, bb_t, bb_f, l100, l120, l512, l400, l401, l700, l9999, nm1, lm1, nlt, nle, neq, glt, gle, lgt, lge, geq, egq, mI_l, mI_e, e_mI, l_mI, le_mI, mI_le, bI_z, nC, vnI, nI_add, nI_sb, nI_mul, a1m, qs_eq, qs_nc, qs_ni, qs_nk, bq_l, bq_r, bq_l', bq_r', bq_t, bq_f, bq_t', bq_f', bq_n, bq_m, iT, iS, iN, true_and, and_true, eq_self, not_true_eq_false, not_false_eq_true, forall_const, bx_t, bx_f, reduceCtorEq, Option.some.injEq, forall_eq', ite_true, ite_false]
      exact this
  | succ d ih =>
    intro k l r m f X st post fu hk hfu hl hm h hf kk
    obtain ⟨fu, rfl⟩ : ∃ g, fu = g + 1 := ⟨fu - 1, by omega⟩
    have hwk := hw k (by omega)
    have x36 : X 11 0 36 = nI n := (h.2.2.2.2.2.1 36 (by decide) (by decide)).trans h36
    obtain ⟨b1, b2, b3⟩ := hpk k (by omega)
    have x68 : X 68 0 k = nI (pk k) := by
      rw [h.2.2.2.2.2.2 68 (by decide) (by decide) (by decide)]
      exact b1
    have x56 : X 56 0 (pk k) = nI (w k) := by
      rw [h.2.2.2.2.2.2 56 (by decide) (by decide) (by decide)]
      exact b3
    unfold wp_X11_tries
    by_cases c1 : l + r ≤ s
    · simp (disch := first | assumption | omega) only [x36, x68, x56, l0, l1, l2, l3, l4, l5, l6, l7, l8, l9, l10, l20, l60, l61, l62, bb_t, bb_f, l100, l120, l512, l400, l401, l700, l9999, nm1, lm1, nlt, nle, neq, glt, gle, lgt, lge, geq, egq, mI_l, mI_e, e_mI, l_mI, le_mI, mI_le, bI_z, nC, vnI, nI_add, nI_sb, nI_mul, a1m, qs_eq, qs_nc, qs_ni, qs_nk, bq_l, bq_r, bq_l', bq_r', bq_t, bq_f, bq_t', bq_f', bq_n, bq_m, iT, iS, iN, true_and, and_true, eq_self, not_true_eq_false, not_false_eq_true, forall_const, bx_t, bx_f, reduceCtorEq, Option.some.injEq, forall_eq', ite_true, ite_false]
      refine ih (k + 1) (l + w k) r (m + 1) (up f k (nI 0)) _ st _ fu (by omega) (by omega) (by omega) (by omega) (rbR_69 h) ?_ ?_
      · intro i hi
        unfold up
        rw [qsr]
        by_cases c : i = k
        · rw [if_pos c, if_pos c]
        · rw [if_neg c, if_neg c]
          exact hf i (by omega)
      intro X1 h1 hf1
      refine ih (k + 1) l (r + w k) (m + 1) (up f k (nI 1)) _ _ _ fu (by omega) (by omega) (by omega) (by omega) (rbR_69 h1) ?_ ?_
      · intro i hi
        unfold up
        rw [qsr]
        by_cases c : i = k
        · rw [if_pos c, if_pos c]
        · rw [if_neg c, if_neg c, hf1 i (by omega)]
          exact if_neg c
      intro X2 h2 hf2
      refine ih (k + 1) l r m (up f k (nI 2)) _ _ _ fu (by omega) (by omega) (by omega) (by omega) (rbR_69 h2) ?_ ?_
      · intro i hi
        unfold up
        rw [qsr]
        by_cases c : i = k
        · rw [if_pos c, if_pos c]
        · rw [if_neg c, if_neg c, hf2 i (by omega)]
          exact if_neg c
      intro X3 h3 hf3
      refine kk X3 h3 (fun i hi => ?_)
      rw [hf3 i (by omega)]
      exact if_neg (by omega)
    · have hno : ∀ L R M, lfR w (d + 1) k l r m L R M → ¬ imp s L R M st.1 st.2.1 := by
        intro L R M hl hi
        have := lf_b (w := w) (d + 1) k l r m L R M hl
        unfold imp at hi
        omega
      have := kk X (by rw [rf_no _ _ _ _ _ _ _ hno]; exact h) hf
      simp (disch := first | assumption | omega) only [l0, l1, l2, l3, l4, l5, l6, l7, l8, l9, l10, l20, l60, l61, l62, bb_t, bb_f, l100, l120, l512, l400, l401, l700, l9999, nm1, lm1, nlt, nle, neq, glt, gle, lgt, lge, geq, egq, mI_l, mI_e, e_mI, l_mI, le_mI, mI_le, bI_z, nC, vnI, nI_add, nI_sb, nI_mul, a1m, qs_eq, qs_nc, qs_ni, qs_nk, bq_l, bq_r, bq_l', bq_r', bq_t, bq_f, bq_t', bq_f', bq_n, bq_m, iT, iS, iN, true_and, and_true, eq_self, not_true_eq_false, not_false_eq_true, forall_const, bx_t, bx_f, reduceCtorEq, Option.some.injEq, forall_eq', ite_true, ite_false]
      exact this
