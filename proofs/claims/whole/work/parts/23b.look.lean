def cbR (base : qa) (n s : Nat) (w : Nat → Nat) (X : qa) (st : sSt) : Prop := X 1 0 5 = nI n ∧ X 1 0 6 = nI s ∧ (∀ i, i < n → X 18 0 i = nI (w i)) ∧ (∀ k, k ≤ n → X 19 0 k = nI (ah w (n - k) k)) ∧ X 1 0 7 = nI (st.1 - 1) ∧ 1 ≤ st.1 ∧ st.1 ≤ 1000 ∧ X 1 0 8 = nI st.2.1 ∧ st.2.1 ≤ 10 ∧ (∀ i, i < n → X 21 0 i = st.2.2 i) ∧ ∀ c, c ≠ 1 → c ≠ 20 → c ≠ 21 → X c = base c
theorem cbR_20 {base : qa} {n s k : Nat} {w : Nat → Nat} {X : qa} {st : sSt} {x : Int32} (h : cbR base n s w X st) : cbR base n s w (qs X 20 0 k x) st := by
  obtain ⟨h1, h2, h3, h4, h5, h6, h7, h8, h9, h10, h11⟩ := h
  refine ⟨h1, h2, h3, h4, h5, h6, h7, h8, h9, h10, fun c c1 c2 c3 => ?_⟩
  rw [← h11 c c1 c2 c3]
  funext i j
  exact qs_nc c2
theorem sl_keep {t p n : Nat} {X : qa} {post : qa → Prop} (hn : n ≤ 10) : ∀ (m j : Nat) (Y : qa), j + m = n → Y 1 0 5 = nI n → Y 20 = X 20 → (∀ i, Y 21 0 i = if i < j then X 20 0 i else X 21 0 i) → (∀ c, c ≠ 21 → Y c = X c) → (∀ Y, (∀ i, i < n → Y 21 0 i = X 20 0 i) → (∀ c, c ≠ 21 → Y c = X c) → post Y) → wl_X1_keep_12 t p post (m + 1) (nI j) Y := by
  intro m
  induction m with
  | zero =>
    intro j Y hj h5 h20 h21 hc kk
    obtain rfl : j = n := by omega
    unfold wl_X1_keep_12
    simp (disch := first | assumption | omega) only [h5, l0, l1, l2, l3, l4, l5, l6, l7, l8, l9, l10, l20, l60, l61, l62, bb_t, bb_f, l100, l120, l512, l400, l401, l700, l9999, nm1, lm1, nlt, nle, neq, glt, gle, lgt, lge, geq, egq, mI_l, mI_e, e_mI, l_mI, le_mI, mI_le, bI_z, nC, vnI, nI_add, nI_sb, nI_mul, a1m, qs_eq, qs_nc, qs_ni, qs_nk, bq_l, bq_r, bq_l', bq_r', bq_t, bq_f, bq_t', bq_f', bq_n, bq_m, iT, iS, iN, true_and, and_true, eq_self, not_true_eq_false, not_false_eq_true, forall_const, bx_t, bx_f, reduceCtorEq, Option.some.injEq, forall_eq', ite_true, ite_false]
    refine kk Y (fun i hi => ?_) hc
    rw [h21, if_pos hi]
  | succ m ih =>
    intro j Y hj h5 h20 h21 hc kk
    unfold wl_X1_keep_12
    simp (disch := first | assumption | omega) only [h5, l0, l1, l2, l3, l4, l5, l6, l7, l8, l9, l10, l20, l60, l61, l62, bb_t, bb_f, l100, l120, l512, l400, l401, l700, l9999, nm1, lm1, nlt, nle, neq, glt, gle, lgt, lge, geq, egq, mI_l, mI_e, e_mI, l_mI, le_mI, mI_le, bI_z, nC, vnI, nI_add, nI_sb, nI_mul, a1m, qs_eq, qs_nc, qs_ni, qs_nk, bq_l, bq_r, bq_l', bq_r', bq_t, bq_f, bq_t', bq_f', bq_n, bq_m, iT, iS, iN, true_and, and_true, eq_self, not_true_eq_false, not_false_eq_true, forall_const, bx_t, bx_f, reduceCtorEq, Option.some.injEq, forall_eq', ite_true, ite_false]
    refine ih (j + 1) _ (by omega) h5 ?_ (fun i => ?_) (fun c hc' => ?_) kk
    · rw [← h20]
      rfl
    · rw [qsr, h20]
      by_cases c : i = j
      · subst c
        rw [if_pos rfl, if_pos (by omega)]
      · rw [if_neg c, h21]
        by_cases d : i < j
        · rw [if_pos d, if_pos (by omega)]
        · rw [if_neg d, if_neg (by omega)]
    · rw [← hc c hc']
      funext i k
      exact qs_nc hc'
theorem nI_min {x y : Nat} (hx : x < 2147483648) (hy : y < 2147483648) : (if nI x < nI y then nI x else nI y) = nI (min x y) := by
  by_cases c : x < y
  · rw [if_pos (by rw [nlt hx hy]; exact c), Nat.min_eq_left (by omega)]
  · rw [if_neg (by rw [nlt hx hy]; exact c), Nat.min_eq_right (by omega)]
theorem nI_abs {l r : Nat} (hl : l ≤ 100000) (hr : r ≤ 100000) : (if nI 0 ≤ nI l - nI r then nI l - nI r else nI 0 - (nI l - nI r)) = nI (l - r + (r - l)) := by
  by_cases c : r ≤ l
  · rw [if_pos (by rw [dge (by omega) (by omega)]; exact c), nI_sub c]
    congr 1
    omega
  · rw [if_neg (by rw [dge (by omega) (by omega)]; exact c), dng (by omega)]
    congr 1
    omega
set_option maxHeartbeats 4000000 in
theorem sp_hopeless {t p n s d k l r m : Nat} {base X : qa} {w : Nat → Nat} {st : sSt} {post : Int32 → qa → Prop} (hn : n ≤ 10) (hs : s ≤ 120) (hw : ∀ i, i < n → w i ≤ 60) (hk : k + d = n) (hl : l + r ≤ 1000) (hm : m ≤ 10) (h : cbR base n s w X st) (k1 : (∀ L R M, lfR w d k l r m L R M → ¬ imp s L R M st.1 st.2.1) → post (nI 1) X) (k0 : l + r ≤ s → l - r + (r - l) ≤ 10 + ah w d k → (st.1 - 1 < min (l + r + ah w d k) s ∨ (min (l + r + ah w d k) s = st.1 - 1 ∧ ((l + r < st.1 - 1 ∧ m + 1 < st.2.1) ∨ (st.1 - 1 ≤ l + r ∧ m < st.2.1)))) → post (nI 0) X) : wp_X1_isHopeless t p (nI k) (nI l) (nI r) (nI m) X post := by
  obtain ⟨h1, h2, h3, h4, h5, h6, h7, h8, h9, h10, h11⟩ := h
  have hA := ah_le hw d k (by omega)
  have x19 : X 19 0 k = nI (ah w d k) := by
    have := h4 k (by omega)
    have e : n - k = d := by omega
    rw [e] at this
    exact this
  have hb := lf_b (w := w) d k l r m
  generalize ah w d k = A at *
  have eabs : (if 0 ≤ nI l - nI r then nI l - nI r else 0 - (nI l - nI r)) = nI (l - r + (r - l)) := nI_abs (l := l) (r := r) (by omega) (by omega)
  have emin := nI_min (x := l + r + A) (y := s) (by omega) (by omega)
  unfold wp_X1_isHopeless
  rw [nC (show k < 2147483648 by omega), x19, h2, nI_add l r, nI_add (l + r) A, eabs, emin]
  by_cases c1 : s < l + r
  · have := k1 (fun L R M hl hi => by
      have := hb L R M hl
      unfold imp at hi
      omega)
    simp (disch := first | assumption | omega) only [h2, l0, l1, l2, l3, l4, l5, l6, l7, l8, l9, l10, l20, l60, l61, l62, bb_t, bb_f, l100, l120, l512, l400, l401, l700, l9999, nm1, lm1, nlt, nle, neq, glt, gle, lgt, lge, geq, egq, mI_l, mI_e, e_mI, l_mI, le_mI, mI_le, bI_z, nC, vnI, nI_add, nI_sb, nI_mul, a1m, qs_eq, qs_nc, qs_ni, qs_nk, bq_l, bq_r, bq_l', bq_r', bq_t, bq_f, bq_t', bq_f', bq_n, bq_m, iT, iS, iN, true_and, and_true, eq_self, not_true_eq_false, not_false_eq_true, forall_const, bx_t, bx_f, reduceCtorEq, Option.some.injEq, forall_eq', ite_true, ite_false]
    exact this
  by_cases c2 : 10 + A < l - r + (r - l)
  · have := k1 (fun L R M hl hi => by
      have := hb L R M hl
      unfold imp at hi
      omega)
    simp (disch := first | assumption | omega) only [h2, x19, l0, l1, l2, l3, l4, l5, l6, l7, l8, l9, l10, l20, l60, l61, l62, bb_t, bb_f, l100, l120, l512, l400, l401, l700, l9999, nm1, lm1, nlt, nle, neq, glt, gle, lgt, lge, geq, egq, mI_l, mI_e, e_mI, l_mI, le_mI, mI_le, bI_z, nC, vnI, nI_add, nI_sb, nI_mul, a1m, qs_eq, qs_nc, qs_ni, qs_nk, bq_l, bq_r, bq_l', bq_r', bq_t, bq_f, bq_t', bq_f', bq_n, bq_m, iT, iS, iN, true_and, and_true, eq_self, not_true_eq_false, not_false_eq_true, forall_const, bx_t, bx_f, reduceCtorEq, Option.some.injEq, forall_eq', ite_true, ite_false]
    exact this
  by_cases c3 : min (l + r + A) s = st.1 - 1
  · by_cases c4 : st.1 - 1 ≤ l + r
    · by_cases c5 : m < st.2.1
      · have := k0 (by omega) (by omega) (by omega)
        simp (disch := first | assumption | omega) only [h2, x19, h5, wl_X1_isHopeless_94, h8, l0, l1, l2, l3, l4, l5, l6, l7, l8, l9, l10, l20, l60, l61, l62, bb_t, bb_f, l100, l120, l512, l400, l401, l700, l9999, nm1, lm1, nlt, nle, neq, glt, gle, lgt, lge, geq, egq, mI_l, mI_e, e_mI, l_mI, le_mI, mI_le, bI_z, nC, vnI, nI_add, nI_sb, nI_mul, a1m, qs_eq, qs_nc, qs_ni, qs_nk, bq_l, bq_r, bq_l', bq_r', bq_t, bq_f, bq_t', bq_f', bq_n, bq_m, iT, iS, iN, true_and, and_true, eq_self, not_true_eq_false, not_false_eq_true, forall_const, bx_t, bx_f, reduceCtorEq, Option.some.injEq, forall_eq', ite_true, ite_false]
        exact this
      · have := k1 (fun L R M hl hi => by
          have := hb L R M hl
          unfold imp at hi
          omega)
        simp (disch := first | assumption | omega) only [h2, x19, h5, wl_X1_isHopeless_94, h8, l0, l1, l2, l3, l4, l5, l6, l7, l8, l9, l10, l20, l60, l61, l62, bb_t, bb_f, l100, l120, l512, l400, l401, l700, l9999, nm1, lm1, nlt, nle, neq, glt, gle, lgt, lge, geq, egq, mI_l, mI_e, e_mI, l_mI, le_mI, mI_le, bI_z, nC, vnI, nI_add, nI_sb, nI_mul, a1m, qs_eq, qs_nc, qs_ni, qs_nk, bq_l, bq_r, bq_l', bq_r', bq_t, bq_f, bq_t', bq_f', bq_n, bq_m, iT, iS, iN, true_and, and_true, eq_self, not_true_eq_false, not_false_eq_true, forall_const, bx_t, bx_f, reduceCtorEq, Option.some.injEq, forall_eq', ite_true, ite_false]
        exact this
    · by_cases c5 : m + 1 < st.2.1
      · have := k0 (by omega) (by omega) (by omega)
        simp (disch := first | assumption | omega) only [h2, x19, h5, wl_X1_isHopeless_94, h8, l0, l1, l2, l3, l4, l5, l6, l7, l8, l9, l10, l20, l60, l61, l62, bb_t, bb_f, l100, l120, l512, l400, l401, l700, l9999, nm1, lm1, nlt, nle, neq, glt, gle, lgt, lge, geq, egq, mI_l, mI_e, e_mI, l_mI, le_mI, mI_le, bI_z, nC, vnI, nI_add, nI_sb, nI_mul, a1m, qs_eq, qs_nc, qs_ni, qs_nk, bq_l, bq_r, bq_l', bq_r', bq_t, bq_f, bq_t', bq_f', bq_n, bq_m, iT, iS, iN, true_and, and_true, eq_self, not_true_eq_false, not_false_eq_true, forall_const, bx_t, bx_f, reduceCtorEq, Option.some.injEq, forall_eq', ite_true, ite_false]
        exact this
      · have := k1 (fun L R M hl hi => by
          have := hb L R M hl
          unfold imp at hi
          omega)
        simp (disch := first | assumption | omega) only [h2, x19, h5, wl_X1_isHopeless_94, h8, l0, l1, l2, l3, l4, l5, l6, l7, l8, l9, l10, l20, l60, l61, l62, bb_t, bb_f, l100, l120, l512, l400, l401, l700, l9999, nm1, lm1, nlt, nle, neq, glt, gle, lgt, lge, geq, egq, mI_l, mI_e, e_mI, l_mI, le_mI, mI_le, bI_z, nC, vnI, nI_add, nI_sb, nI_mul, a1m, qs_eq, qs_nc, qs_ni, qs_nk, bq_l, bq_r, bq_l', bq_r', bq_t, bq_f, bq_t', bq_f', bq_n, bq_m, iT, iS, iN, true_and, and_true, eq_self, not_true_eq_false, not_false_eq_true, forall_const, bx_t, bx_f, reduceCtorEq, Option.some.injEq, forall_eq', ite_true, ite_false]
        exact this
  · by_cases c4 : st.1 - 1 ≤ min (l + r + A) s
    · have := k0 (by omega) (by omega) (by omega)
      simp (disch := first | assumption | omega) only [h2, x19, h5, l0, l1, l2, l3, l4, l5, l6, l7, l8, l9, l10, l20, l60, l61, l62, bb_t, bb_f, l100, l120, l512, l400, l401, l700, l9999, nm1, lm1, nlt, nle, neq, glt, gle, lgt, lge, geq, egq, mI_l, mI_e, e_mI, l_mI, le_mI, mI_le, bI_z, nC, vnI, nI_add, nI_sb, nI_mul, a1m, qs_eq, qs_nc, qs_ni, qs_nk, bq_l, bq_r, bq_l', bq_r', bq_t, bq_f, bq_t', bq_f', bq_n, bq_m, iT, iS, iN, true_and, and_true, eq_self, not_true_eq_false, not_false_eq_true, forall_const, bx_t, bx_f, reduceCtorEq, Option.some.injEq, forall_eq', ite_true, ite_false]
      exact this
    · have := k1 (fun L R M hl hi => by
        have := hb L R M hl
        unfold imp at hi
        omega)
      simp (disch := first | assumption | omega) only [h2, x19, h5, l0, l1, l2, l3, l4, l5, l6, l7, l8, l9, l10, l20, l60, l61, l62, bb_t, bb_f, l100, l120, l512, l400, l401, l700, l9999, nm1, lm1, nlt, nle, neq, glt, gle, lgt, lge, geq, egq, mI_l, mI_e, e_mI, l_mI, le_mI, mI_le, bI_z, nC, vnI, nI_add, nI_sb, nI_mul, a1m, qs_eq, qs_nc, qs_ni, qs_nk, bq_l, bq_r, bq_l', bq_r', bq_t, bq_f, bq_t', bq_f', bq_n, bq_m, iT, iS, iN, true_and, and_true, eq_self, not_true_eq_false, not_false_eq_true, forall_const, bx_t, bx_f, reduceCtorEq, Option.some.injEq, forall_eq', ite_true, ite_false]
      exact this
set_option maxHeartbeats 4000000 in
theorem sp_look {t p n s : Nat} {base : qa} {w : Nat → Nat} (hn : n ≤ 10) (hs : s ≤ 120) (hw : ∀ i, i < n → w i ≤ 60) : ∀ (d k l r m : Nat) (f : Nat → Int32) (X : qa) (st : sSt) (post : qa → Prop) (fu : Nat), k + d = n → d < fu → l + r ≤ 60 * k → m ≤ k → cbR base n s w X st → (∀ i, i < k → X 20 0 i = f i) → (∀ X', cbR base n s w X' (rf w s d k l r m f st) → (∀ i, i < k → X' 20 0 i = f i) → post X') → wp_X1_look t p fu (nI k) (nI l) (nI r) (nI m) X post := by
  intro d
  induction d with
  | zero =>
    intro k l r m f X st post fu hk hfu hl hm h hf kk
    obtain rfl : k = n := by omega
    obtain ⟨fu, rfl⟩ : ∃ g, fu = g + 1 := ⟨fu - 1, by omega⟩
    unfold wp_X1_look
    refine sp_hopeless hn hs hw hk (by omega) (by omega) h (fun hno => ?_) (fun y1 y2 y3 => ?_)
    · have := kk X (by rw [rf_no _ _ _ _ _ _ _ hno]; exact h) hf
      simp (disch := first | assumption | omega) only [l0, l1, l2, l3, l4, l5, l6, l7, l8, l9, l10, l20, l60, l61, l62, bb_t, bb_f, l100, l120, l512, l400, l401, l700, l9999, nm1, lm1, nlt, nle, neq, glt, gle, lgt, lge, geq, egq, mI_l, mI_e, e_mI, l_mI, le_mI, mI_le, bI_z, nC, vnI, nI_add, nI_sb, nI_mul, a1m, qs_eq, qs_nc, qs_ni, qs_nk, bq_l, bq_r, bq_l', bq_r', bq_t, bq_f, bq_t', bq_f', bq_n, bq_m, iT, iS, iN, true_and, and_true, eq_self, not_true_eq_false, not_false_eq_true, forall_const, bx_t, bx_f, reduceCtorEq, Option.some.injEq, forall_eq', ite_true, ite_false]
      exact this
    · have hi : imp s l r m st.1 st.2.1 := by
        have hh := h.2.2.2.2.2.1
        unfold ah at y2 y3
        unfold imp
        omega
      have e : rf w s 0 k l r m f st = (l + r + 1, m, f) := rfL_y hi
      rw [e] at kk
      obtain ⟨h1, h2, h3, h4, h5, h6, h7, h8, h9, h10, h11⟩ := h
      simp (disch := first | assumption | omega) only [h1, wp_X1_keep, l0, l1, l2, l3, l4, l5, l6, l7, l8, l9, l10, l20, l60, l61, l62, bb_t, bb_f, l100, l120, l512, l400, l401, l700, l9999, nm1, lm1, nlt, nle, neq, glt, gle, lgt, lge, geq, egq, mI_l, mI_e, e_mI, l_mI, le_mI, mI_le, bI_z, nC, vnI, nI_add, nI_sb, nI_mul, a1m, qs_eq, qs_nc, qs_ni, qs_nk, bq_l, bq_r, bq_l', bq_r', bq_t, bq_f, bq_t', bq_f', bq_n, bq_m, iT, iS, iN, true_and, and_true, eq_self, not_true_eq_false, not_false_eq_true, forall_const, bx_t, bx_f, reduceCtorEq, Option.some.injEq, forall_eq', ite_true, ite_false]
      refine ⟨k + 1, ?_⟩
      refine sl_keep (X := qs (qs X 1 0 7 (nI (l + r))) 1 0 8 (nI m)) hn k 0 _ (by omega) h1 rfl (fun i => (if_neg (by omega)).symm) (fun _ _ => rfl) (fun Y hY hYc => ?_)
      have y1 : Y 1 = (qs (qs X 1 0 7 (nI (l + r))) 1 0 8 (nI m)) 1 := hYc 1 (by decide)
      refine kk Y ⟨?_, ?_, ?_, ?_, ?_, ?_, ?_, ?_, ?_, ?_, ?_⟩ ?_
      · rw [y1]
        exact h1
      · rw [y1]
        exact h2
      · intro i hi'
        rw [hYc 18 (by decide)]
        exact h3 i hi'
      · intro j hj
        rw [hYc 19 (by decide)]
        exact h4 j hj
      · rw [y1]
        show nI (l + r) = nI (l + r + 1 - 1)
        rfl
      · show 1 ≤ l + r + 1
        omega
      · show l + r + 1 ≤ 1000
        omega
      · rw [y1]
        rfl
      · show m ≤ 10
        omega
      · intro i hi'
        rw [hY i hi']
        exact hf i hi'
      · intro c c1 c2 c3
        rw [hYc c c3, ← h11 c c1 c2 c3]
        funext i j
        rw [qs_nc c1, qs_nc c1]
      · intro i hi'
        rw [hYc 20 (by decide)]
        exact hf i hi'
  | succ d ih =>
    intro k l r m f X st post fu hk hfu hl hm h hf kk
    obtain ⟨fu, rfl⟩ : ∃ g, fu = g + 1 := ⟨fu - 1, by omega⟩
    have hwk := hw k (by omega)
    unfold wp_X1_look
    refine sp_hopeless hn hs hw hk (by omega) (by omega) h (fun hno => ?_) (fun y1 y2 y3 => ?_)
    · have := kk X (by rw [rf_no _ _ _ _ _ _ _ hno]; exact h) hf
      simp (disch := first | assumption | omega) only [l0, l1, l2, l3, l4, l5, l6, l7, l8, l9, l10, l20, l60, l61, l62, bb_t, bb_f, l100, l120, l512, l400, l401, l700, l9999, nm1, lm1, nlt, nle, neq, glt, gle, lgt, lge, geq, egq, mI_l, mI_e, e_mI, l_mI, le_mI, mI_le, bI_z, nC, vnI, nI_add, nI_sb, nI_mul, a1m, qs_eq, qs_nc, qs_ni, qs_nk, bq_l, bq_r, bq_l', bq_r', bq_t, bq_f, bq_t', bq_f', bq_n, bq_m, iT, iS, iN, true_and, and_true, eq_self, not_true_eq_false, not_false_eq_true, forall_const, bx_t, bx_f, reduceCtorEq, Option.some.injEq, forall_eq', ite_true, ite_false]
      exact this
    · have hX5 := h.1
      have hX18 := h.2.2.1 k (by omega)
      simp (disch := first | assumption | omega) only [hX5, hX18, l0, l1, l2, l3, l4, l5, l6, l7, l8, l9, l10, l20, l60, l61, l62, bb_t, bb_f, l100, l120, l512, l400, l401, l700, l9999, nm1, lm1, nlt, nle, neq, glt, gle, lgt, lge, geq, egq, mI_l, mI_e, e_mI, l_mI, le_mI, mI_le, bI_z, nC, vnI, nI_add, nI_sb, nI_mul, a1m, qs_eq, qs_nc, qs_ni, qs_nk, bq_l, bq_r, bq_l', bq_r', bq_t, bq_f, bq_t', bq_f', bq_n, bq_m, iT, iS, iN, true_and, and_true, eq_self, not_true_eq_false, not_false_eq_true, forall_const, bx_t, bx_f, reduceCtorEq, Option.some.injEq, forall_eq', ite_true, ite_false]
      refine ih (k + 1) (l + w k) r (m + 1) (up f k (nI 0)) _ st _ fu (by omega) (by omega) (by omega) (by omega) (cbR_20 h) ?_ ?_
      · intro i hi
        unfold up
        rw [qsr]
        by_cases c : i = k
        · rw [if_pos c, if_pos c]
        · rw [if_neg c, if_neg c]
          exact hf i (by omega)
      intro X1 h1 hf1
      have p1 : ∀ i, i < k → X1 20 0 i = f i := by
        intro i hi
        rw [hf1 i (by omega)]
        exact if_neg (by omega)
      have last : ∀ (X2 : qa) (st2 : sSt), cbR base n s w X2 st2 → (∀ i, i < k → X2 20 0 i = f i) → rf w s d (k + 1) l (r + w k) (m + 1) (up f k (nI 1)) (rf w s d (k + 1) (l + w k) r (m + 1) (up f k (nI 0)) st) = st2 → wp_X1_look t p fu (nI (k + 1)) (nI l) (nI r) (nI m) (qs X2 20 0 k (nI 2)) post := by
        intro X2 st2 h2 hf2 e2
        refine ih (k + 1) l r m (up f k (nI 2)) _ st2 _ fu (by omega) (by omega) (by omega) (by omega) (cbR_20 h2) ?_ ?_
        · intro i hi
          unfold up
          rw [qsr]
          by_cases c : i = k
          · rw [if_pos c, if_pos c]
          · rw [if_neg c, if_neg c]
            exact hf2 i (by omega)
        · intro X3 h3 hf3
          refine kk X3 ?_ ?_
          · have e3 : rf w s (d + 1) k l r m f st = rf w s d (k + 1) l r m (up f k (nI 2)) st2 := by
              rw [← e2]
              rfl
            rw [e3]
            exact h3
          · intro i hi
            rw [hf3 i (by omega)]
            exact if_neg (by omega)
      by_cases c : l = r
      · subst c
        have := last X1 _ h1 p1 rf_mir
        simp (disch := first | assumption | omega) only [l0, l1, l2, l3, l4, l5, l6, l7, l8, l9, l10, l20, l60, l61, l62, bb_t, bb_f, l100, l120, l512, l400, l401, l700, l9999, nm1, lm1, nlt, nle, neq, glt, gle, lgt, lge, geq, egq, mI_l, mI_e, e_mI, l_mI, le_mI, mI_le, bI_z, nC, vnI, nI_add, nI_sb, nI_mul, a1m, qs_eq, qs_nc, qs_ni, qs_nk, bq_l, bq_r, bq_l', bq_r', bq_t, bq_f, bq_t', bq_f', bq_n, bq_m, iT, iS, iN, true_and, and_true, eq_self, not_true_eq_false, not_false_eq_true, forall_const, bx_t, bx_f, reduceCtorEq, Option.some.injEq, forall_eq', ite_true, ite_false]
        exact this
      · have hX18' := h1.2.2.1 k (by omega)
        simp (disch := first | assumption | omega) only [hX18', l0, l1, l2, l3, l4, l5, l6, l7, l8, l9, l10, l20, l60, l61, l62, bb_t, bb_f, l100, l120, l512, l400, l401, l700, l9999, nm1, lm1, nlt, nle, neq, glt, gle, lgt, lge, geq, egq, mI_l, mI_e, e_mI, l_mI, le_mI, mI_le, bI_z, nC, vnI, nI_add, nI_sb, nI_mul, a1m, qs_eq, qs_nc, qs_ni, qs_nk, bq_l, bq_r, bq_l', bq_r', bq_t, bq_f, bq_t', bq_f', bq_n, bq_m, iT, iS, iN, true_and, and_true, eq_self, not_true_eq_false, not_false_eq_true, forall_const, bx_t, bx_f, reduceCtorEq, Option.some.injEq, forall_eq', ite_true, ite_false]
        refine ih (k + 1) l (r + w k) (m + 1) (up f k (nI 1)) _ _ _ fu (by omega) (by omega) (by omega) (by omega) (cbR_20 h1) ?_ ?_
        · intro i hi
          unfold up
          rw [qsr]
          by_cases c : i = k
          · rw [if_pos c, if_pos c]
          · rw [if_neg c, if_neg c]
            exact p1 i (by omega)
        · intro X2 h2 hf2
          have := last X2 _ h2 (fun i hi => by
            rw [hf2 i (by omega)]
            exact if_neg (by omega)) rfl
          exact this
