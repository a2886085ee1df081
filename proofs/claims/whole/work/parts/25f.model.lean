def SR (f : Nat → Nat) (T n : Nat) : Nat := srt f T (ps f T n)
def MS (f : Nat → Nat) (T n : Nat) (a : qa) : Prop := a 11 0 43 = nI (ps f T (n + 1)) ∧ a 11 0 44 = nI (PP f T n) ∧ a 11 0 45 = nI (SR f T n) ∧ (SR f T n = 2 ∨ SR f T n = 4 → a 11 0 46 = VV f T n)
theorem wT_t (f : Nat → Nat) (s e : Nat) : (wT f s e).1 = 5 ∨ (wT f s e).1 = 3 ∨ (wT f s e).1 = 4 ∨ (wT f s e).1 = 1 := by
  rcases wT_b f s e with ⟨h, _⟩ | ⟨_, ⟨h, _⟩ | ⟨h, _⟩ | h⟩
  · exact Or.inl h
  · exact Or.inr (Or.inl h)
  · exact Or.inr (Or.inr (Or.inl h))
  · exact Or.inr (Or.inr (Or.inr h))
theorem ty {f : Nat → Nat} {T : Nat} (hf : ∀ j, j < T → f j < 256) (n : Nat) : (SR f T n = 0 ∧ TT f T n = 0) ∨ (SR f T n = 1 ∧ TT f T n = 1) ∨ (SR f T n = 2 ∧ TT f T n = 2) ∨ (SR f T n = 3 ∧ PP f T n < T ∧ lB f (PP f T n) = true ∧ TT f T n = (wT f (PP f T n) (ps f T (n + 1))).1 ∧ VV f T n = (wT f (PP f T n) (ps f T (n + 1))).2) ∨ (SR f T n = 4 ∧ ∃ b, b < 256 ∧ TT f T n = sgT b ∧ VV f T n = nI b ∧ sgT b ≠ 1) := by
  unfold SR TT VV
  rcases tk_c hf (ps f T n) with ⟨h1, h2, _⟩ | ⟨hc, ⟨h1, h2⟩ | ⟨h1, h2⟩ | ⟨h1, h2, h3⟩ | ⟨h1, b, h2, h3, h4⟩⟩
  · exact Or.inl ⟨h1, h2⟩
  · exact Or.inr (Or.inl ⟨h1, h2⟩)
  · exact Or.inr (Or.inr (Or.inl ⟨h1, h2⟩))
  · have e : ps f T (n + 1) = tE f T (PP f T n) := if_pos hc
    refine Or.inr (Or.inr (Or.inr (Or.inl ⟨h1, hc, h2, ?_, ?_⟩)))
    · rw [e, h3]; rfl
    · rw [e, h3]; rfl
  · exact Or.inr (Or.inr (Or.inr (Or.inr ⟨h1, b, h2, by rw [h3], by rw [h3], h4⟩)))
theorem SR4 {f : Nat → Nat} {T : Nat} (hf : ∀ j, j < T → f j < 256) (n : Nat) : SR f T n ≤ 4 := by
  rcases ty hf n with ⟨h, _⟩ | ⟨h, _⟩ | ⟨h, _⟩ | ⟨h, _⟩ | ⟨h, _⟩ <;> omega
theorem MP.f {f : Nat → Nat} {T : Nat} {a : qa} (h : MP f T a) : ∀ j, j < T → f j < 256 := fun j hj => (h.2.2 j hj).1
theorem sp_mnext {t p T n : Nat} {f : Nat → Nat} {a : qa} {post : qa → Prop} (h : MP f T a) (hm : MS f T n a) (kk : ∀ a', Nx a a' → MS f T (n + 1) a' → post a') : wp_X11_next t p a post :=
  sp_rnext h (ps_b f T (n + 1)) hm.1 (fun a' b1 b2 => kk a' b1 b2)
theorem sp_is {t p T n c y : Nat} {f : Nat → Nat} {a : qa} {post : Int32 → qa → Prop} (hf : ∀ j, j < T → f j < 256) (hm : MS f T n a) (hc : c < 256) (hy : sgT c = y) (hy7 : 7 ≤ y) (hu : ∀ b, sgT b = y → b = c) (k1 : TT f T n = y → post (nI 1) a) (k0 : ¬ TT f T n = y → post (nI 0) a) : wp_X11_is t p (nI c) a post := by
  obtain ⟨m1, m2, m3, m4⟩ := hm
  have h4 := SR4 hf n
  unfold wp_X11_is
  by_cases c4 : SR f T n = 4
  · have e46 := m4 (Or.inr c4)
    rcases ty hf n with ⟨h, _⟩ | ⟨h, _⟩ | ⟨h, _⟩ | ⟨h, _⟩ | ⟨_, b, hb, h1, h2, h3⟩
    · omega
    · omega
    · omega
    · omega
    rw [h2] at e46
    by_cases cb : b = c
    · have g := k1 (by rw [h1, cb, hy])
      simp (disch := first | assumption | omega) only [m3, e46, l0, l1, l2, l3, l4, l5, l6, l7, l8, l9, l10, l20, l60, l61, l62, bb_t, bb_f, l100, l120, l512, l400, l401, l700, l9999, nm1, lm1, nlt, nle, neq, glt, gle, lgt, lge, geq, egq, mI_l, mI_e, e_mI, l_mI, le_mI, mI_le, bI_z, nC, vnI, nI_add, nI_sb, nI_mul, a1m, qs_eq, qs_nc, qs_ni, qs_nk, bq_l, bq_r, bq_l', bq_r', bq_t, bq_f, bq_t', bq_f', bq_n, bq_m, iT, iS, iN, true_and, and_true, eq_self, not_true_eq_false, not_false_eq_true, forall_const, bx_t, bx_f, reduceCtorEq, Option.some.injEq, forall_eq', ite_true, ite_false]
      exact g
    · have g := k0 (by rw [h1]; exact fun x => cb (hu b x))
      simp (disch := first | assumption | omega) only [m3, e46, l0, l1, l2, l3, l4, l5, l6, l7, l8, l9, l10, l20, l60, l61, l62, bb_t, bb_f, l100, l120, l512, l400, l401, l700, l9999, nm1, lm1, nlt, nle, neq, glt, gle, lgt, lge, geq, egq, mI_l, mI_e, e_mI, l_mI, le_mI, mI_le, bI_z, nC, vnI, nI_add, nI_sb, nI_mul, a1m, qs_eq, qs_nc, qs_ni, qs_nk, bq_l, bq_r, bq_l', bq_r', bq_t, bq_f, bq_t', bq_f', bq_n, bq_m, iT, iS, iN, true_and, and_true, eq_self, not_true_eq_false, not_false_eq_true, forall_const, bx_t, bx_f, reduceCtorEq, Option.some.injEq, forall_eq', ite_true, ite_false]
      exact g
  · have g : post (nI 0) a := by
      refine k0 (fun x => ?_)
      rcases ty hf n with ⟨_, h⟩ | ⟨_, h⟩ | ⟨_, h⟩ | ⟨_, _, _, h, _⟩ | ⟨h, _⟩
      · omega
      · omega
      · omega
      · rcases wT_t f (PP f T n) (ps f T (n + 1)) with q | q | q | q <;> omega
      · exact c4 h
    simp (disch := first | assumption | omega) only [m3, l0, l1, l2, l3, l4, l5, l6, l7, l8, l9, l10, l20, l60, l61, l62, bb_t, bb_f, l100, l120, l512, l400, l401, l700, l9999, nm1, lm1, nlt, nle, neq, glt, gle, lgt, lge, geq, egq, mI_l, mI_e, e_mI, l_mI, le_mI, mI_le, bI_z, nC, vnI, nI_add, nI_sb, nI_mul, a1m, qs_eq, qs_nc, qs_ni, qs_nk, bq_l, bq_r, bq_l', bq_r', bq_t, bq_f, bq_t', bq_f', bq_n, bq_m, iT, iS, iN, true_and, and_true, eq_self, not_true_eq_false, not_false_eq_true, forall_const, bx_t, bx_f, reduceCtorEq, Option.some.injEq, forall_eq', ite_true, ite_false]
    exact g
theorem sg7 : ∀ b, sgT b = 7 → b = 58 := by
  intro b h
  rcases sgT_b b with q | ⟨q, _⟩ | ⟨q, r⟩ | ⟨q, _⟩ | ⟨q, _⟩
  all_goals first | exact r | omega
theorem sg8 : ∀ b, sgT b = 8 → b = 59 := by
  intro b h
  rcases sgT_b b with q | ⟨q, _⟩ | ⟨q, _⟩ | ⟨q, r⟩ | ⟨q, _⟩
  all_goals first | exact r | omega
theorem sg9 : ∀ b, sgT b = 9 → b = 45 := by
  intro b h
  rcases sgT_b b with q | ⟨q, _⟩ | ⟨q, _⟩ | ⟨q, _⟩ | ⟨q, r⟩
  all_goals first | exact r | omega
theorem sp_is7 {t p T n : Nat} {f : Nat → Nat} {a : qa} {post : Int32 → qa → Prop} (hf : ∀ j, j < T → f j < 256) (hm : MS f T n a) (k1 : TT f T n = 7 → post (nI 1) a) (k0 : ¬ TT f T n = 7 → post (nI 0) a) : wp_X11_is t p 58 a post := sp_is (c := 58) hf hm (by decide) (by decide) (by decide) sg7 k1 k0
theorem sp_is8 {t p T n : Nat} {f : Nat → Nat} {a : qa} {post : Int32 → qa → Prop} (hf : ∀ j, j < T → f j < 256) (hm : MS f T n a) (k1 : TT f T n = 8 → post (nI 1) a) (k0 : ¬ TT f T n = 8 → post (nI 0) a) : wp_X11_is t p 59 a post := sp_is (c := 59) hf hm (by decide) (by decide) (by decide) sg8 k1 k0
theorem sp_is9 {t p T n : Nat} {f : Nat → Nat} {a : qa} {post : Int32 → qa → Prop} (hf : ∀ j, j < T → f j < 256) (hm : MS f T n a) (k1 : TT f T n = 9 → post (nI 1) a) (k0 : ¬ TT f T n = 9 → post (nI 0) a) : wp_X11_is t p 45 a post := sp_is (c := 45) hf hm (by decide) (by decide) (by decide) sg9 k1 k0
theorem sp_isv {t p T n c : Nat} {f : Nat → Nat} {a : qa} {post : Int32 → qa → Prop} (hf : ∀ j, j < T → f j < 256) (hm : MS f T n a) (hc : c < 256) (hy : sgT c = 6) (k1 : TT f T n = 6 → post (nI 1) a) (k0 : ¬ (TT f T n = 6 ∧ VV f T n = nI c) → post (nI 0) a) : wp_X11_is t p (nI c) a post := by
  obtain ⟨m1, m2, m3, m4⟩ := hm
  have h4 := SR4 hf n
  unfold wp_X11_is
  by_cases c4 : SR f T n = 4
  · have e46 := m4 (Or.inr c4)
    rcases ty hf n with ⟨h, _⟩ | ⟨h, _⟩ | ⟨h, _⟩ | ⟨h, _⟩ | ⟨_, b, hb, h1, h2, h3⟩
    · omega
    · omega
    · omega
    · omega
    rw [h2] at e46
    by_cases cb : b = c
    · have g := k1 (by rw [h1, cb, hy])
      simp (disch := first | assumption | omega) only [m3, e46, l0, l1, l2, l3, l4, l5, l6, l7, l8, l9, l10, l20, l60, l61, l62, bb_t, bb_f, l100, l120, l512, l400, l401, l700, l9999, nm1, lm1, nlt, nle, neq, glt, gle, lgt, lge, geq, egq, mI_l, mI_e, e_mI, l_mI, le_mI, mI_le, bI_z, nC, vnI, nI_add, nI_sb, nI_mul, a1m, qs_eq, qs_nc, qs_ni, qs_nk, bq_l, bq_r, bq_l', bq_r', bq_t, bq_f, bq_t', bq_f', bq_n, bq_m, iT, iS, iN, true_and, and_true, eq_self, not_true_eq_false, not_false_eq_true, forall_const, bx_t, bx_f, reduceCtorEq, Option.some.injEq, forall_eq', ite_true, ite_false]
      exact g
    · have g := k0 (by rw [h2, neq (by omega) (by omega)]; exact fun x => cb x.2)
      simp (disch := first | assumption | omega) only [m3, e46, l0, l1, l2, l3, l4, l5, l6, l7, l8, l9, l10, l20, l60, l61, l62, bb_t, bb_f, l100, l120, l512, l400, l401, l700, l9999, nm1, lm1, nlt, nle, neq, glt, gle, lgt, lge, geq, egq, mI_l, mI_e, e_mI, l_mI, le_mI, mI_le, bI_z, nC, vnI, nI_add, nI_sb, nI_mul, a1m, qs_eq, qs_nc, qs_ni, qs_nk, bq_l, bq_r, bq_l', bq_r', bq_t, bq_f, bq_t', bq_f', bq_n, bq_m, iT, iS, iN, true_and, and_true, eq_self, not_true_eq_false, not_false_eq_true, forall_const, bx_t, bx_f, reduceCtorEq, Option.some.injEq, forall_eq', ite_true, ite_false]
      exact g
  · have g : post (nI 0) a := by
      refine k0 (fun x => ?_)
      rcases ty hf n with ⟨_, h⟩ | ⟨_, h⟩ | ⟨_, h⟩ | ⟨_, _, _, h, _⟩ | ⟨h, _⟩
      · omega
      · omega
      · omega
      · rcases wT_t f (PP f T n) (ps f T (n + 1)) with q | q | q | q <;> omega
      · exact c4 h
    simp (disch := first | assumption | omega) only [m3, l0, l1, l2, l3, l4, l5, l6, l7, l8, l9, l10, l20, l60, l61, l62, bb_t, bb_f, l100, l120, l512, l400, l401, l700, l9999, nm1, lm1, nlt, nle, neq, glt, gle, lgt, lge, geq, egq, mI_l, mI_e, e_mI, l_mI, le_mI, mI_le, bI_z, nC, vnI, nI_add, nI_sb, nI_mul, a1m, qs_eq, qs_nc, qs_ni, qs_nk, bq_l, bq_r, bq_l', bq_r', bq_t, bq_f, bq_t', bq_f', bq_n, bq_m, iT, iS, iN, true_and, and_true, eq_self, not_true_eq_false, not_false_eq_true, forall_const, bx_t, bx_f, reduceCtorEq, Option.some.injEq, forall_eq', ite_true, ite_false]
    exact g
theorem TT6 {f : Nat → Nat} {T n : Nat} (hf : ∀ j, j < T → f j < 256) (h6 : TT f T n = 6) : SR f T n = 4 ∧ (VV f T n = nI 60 ∨ VV f T n = nI 61 ∨ VV f T n = nI 62) := by
  rcases ty hf n with ⟨_, h⟩ | ⟨_, h⟩ | ⟨_, h⟩ | ⟨_, _, _, h, _⟩ | ⟨h, b, hb, h1, h2, h3⟩
  · omega
  · omega
  · omega
  · rcases wT_t f (PP f T n) (ps f T (n + 1)) with q | q | q | q <;> omega
  · refine ⟨h, ?_⟩
    rcases sgT_b b with q | ⟨q, r⟩ | ⟨q, _⟩ | ⟨q, _⟩ | ⟨q, _⟩
    · omega
    · rw [h2]
      rcases r with r | r | r <;> rw [r]
      · exact Or.inl rfl
      · exact Or.inr (Or.inl rfl)
      · exact Or.inr (Or.inr rfl)
    · omega
    · omega
    · omega
theorem spB_c {f : Nat → Nat} {s e k o : Nat} (h : q_tx o = q_tx k) : spB f s e o = spB f s e k := by
  unfold spB
  rw [h]
theorem sl_isWord {t p k T s : Nat} {f : Nat → Nat} {a : qa} {post : Int32 → qa → Prop} (hk : k < 16) (h : MP f T a) (h44 : a 11 0 44 = nI s) (hs : s + (q_tx k).length ≤ T) (hl7 : ∀ i, i < (q_tx k).length → f (s + i) < 128) (k1 : allN (fun i => decide (nI (f (s + i)) = (q_tx k).getD i 0)) (q_tx k).length = true → post (nI 1) a) (k0 : allN (fun i => decide (nI (f (s + i)) = (q_tx k).getD i 0)) (q_tx k).length = false → post (nI 0) a) : ∀ (m j : Nat), j + m = (q_tx k).length → allN (fun i => decide (nI (f (s + i)) = (q_tx k).getD i 0)) j = true → wl_X11_isWord_28 t p post (m + 1) k (nI j) a := by
  have hl := tx_l k
  have hT := h.1
  intro m
  induction m with
  | zero =>
    intro j hj hn
    obtain rfl : j = (q_tx k).length := by omega
    simp (disch := first | assumption | omega) only [wl_X11_isWord_28, wp_J0_length_8abf5, hk, l0, l1, l2, l3, l4, l5, l6, l7, l8, l9, l10, l20, l60, l61, l62, bb_t, bb_f, l100, l120, l512, l400, l401, l700, l9999, nm1, lm1, nlt, nle, neq, glt, gle, lgt, lge, geq, egq, mI_l, mI_e, e_mI, l_mI, le_mI, mI_le, bI_z, nC, vnI, nI_add, nI_sb, nI_mul, a1m, qs_eq, qs_nc, qs_ni, qs_nk, bq_l, bq_r, bq_l', bq_r', bq_t, bq_f, bq_t', bq_f', bq_n, bq_m, iT, iS, iN, true_and, and_true, eq_self, not_true_eq_false, not_false_eq_true, forall_const, bx_t, bx_f, reduceCtorEq, Option.some.injEq, forall_eq', ite_true, ite_false]
    exact k1 hn
  | succ m ih =>
    intro j hj hn
    unfold wl_X11_isWord_28
    have hjl : j < (q_tx k).length := by omega
    have e71 : a 71 0 (s + j) = nI (f (s + j)) := by
      rw [(h.2.2 (s + j) (by omega)).2]
      exact sb_lo ⟨f (s + j), hl7 j hjl⟩
    simp (disch := first | assumption | omega) only [wp_J0_length_8abf5, hk, h44, wp_J0_charAt_5068e, e71, l0, l1, l2, l3, l4, l5, l6, l7, l8, l9, l10, l20, l60, l61, l62, bb_t, bb_f, l100, l120, l512, l400, l401, l700, l9999, nm1, lm1, nlt, nle, neq, glt, gle, lgt, lge, geq, egq, mI_l, mI_e, e_mI, l_mI, le_mI, mI_le, bI_z, nC, vnI, nI_add, nI_sb, nI_mul, a1m, qs_eq, qs_nc, qs_ni, qs_nk, bq_l, bq_r, bq_l', bq_r', bq_t, bq_f, bq_t', bq_f', bq_n, bq_m, iT, iS, iN, true_and, and_true, eq_self, not_true_eq_false, not_false_eq_true, forall_const, bx_t, bx_f, reduceCtorEq, Option.some.injEq, forall_eq', ite_true, ite_false]
    by_cases c : nI (f (s + j)) = (q_tx k).getD j (nI 0)
    · rw [bq_t c]
      refine ih (j + 1) (by omega) ?_
      show (allN _ j && decide _) = true
      rw [hn]
      exact decide_eq_true c
    · rw [bq_f c]
      exact k0 (allN_f (i := j) (decide_eq_false c) _ hjl)
theorem sp_isWord {t p k o T n : Nat} {f : Nat → Nat} {a : qa} {post : Int32 → qa → Prop} (ho : o < 16) (hq : q_tx o = q_tx k) (h : MP f T a) (hm : MS f T n a) (k1 : SR f T n = 3 → post (bb (spB f (PP f T n) (ps f T (n + 1)) k)) a) (k0 : ¬ SR f T n = 3 → post (nI 0) a) : wp_X11_isWord t p o a post := by
  have hl := tx_l o
  have hT := h.1
  have h4 := SR4 h.f n
  obtain ⟨m1, m2, m3, m4⟩ := hm
  unfold wp_X11_isWord
  by_cases c3 : SR f T n = 3
  · have kk := k1 c3
    rw [← spB_c hq] at kk
    rcases ty h.f n with ⟨q, _⟩ | ⟨q, _⟩ | ⟨q, _⟩ | ⟨_, hc, hL, _, _⟩ | ⟨q, _⟩
    · omega
    · omega
    · omega
    rotate_left 1
    · omega
    have eE : ps f T (n + 1) = tE f T (PP f T n) := if_pos hc
    have hE := tE_b (f := f) hc
    have eL : tE f T (PP f T n) = scn (lB f) T (PP f T n + 1) := if_pos hL
    have hb := scn_b (g := lB f) (T := T) _ (PP f T n + 1) rfl hc
    unfold spB at kk
    by_cases c : ps f T (n + 1) - PP f T n = (q_tx o).length
    · rw [decide_eq_true c] at kk
      have n3 : nI (SR f T n) = nI 3 := by rw [c3]
      simp (disch := first | assumption | omega) only [m3, n3, wp_J0_length_8abf5, ho, m1, m2, l0, l1, l2, l3, l4, l5, l6, l7, l8, l9, l10, l20, l60, l61, l62, bb_t, bb_f, l100, l120, l512, l400, l401, l700, l9999, nm1, lm1, nlt, nle, neq, glt, gle, lgt, lge, geq, egq, mI_l, mI_e, e_mI, l_mI, le_mI, mI_le, bI_z, nC, vnI, nI_add, nI_sb, nI_mul, a1m, qs_eq, qs_nc, qs_ni, qs_nk, bq_l, bq_r, bq_l', bq_r', bq_t, bq_f, bq_t', bq_f', bq_n, bq_m, iT, iS, iN, true_and, and_true, eq_self, not_true_eq_false, not_false_eq_true, forall_const, bx_t, bx_f, reduceCtorEq, Option.some.injEq, forall_eq', ite_true, ite_false]
      refine ⟨_, sl_isWord ho h m2 (by omega) (fun i hi => ?_) (fun e1 => ?_) (fun e1 => ?_) (q_tx o).length 0 (by omega) rfl⟩
      · by_cases ci : i = 0
        · have := lB_i.mp hL
          rw [ci, Nat.add_zero]
          omega
        · have := lB_i.mp (hb.2.2.2 (PP f T n + i) (by omega) (by omega))
          omega
      · rw [e1] at kk; exact kk
      · rw [e1] at kk; exact kk
    · rw [decide_eq_false c] at kk
      have n3 : nI (SR f T n) = nI 3 := by rw [c3]
      simp (disch := first | assumption | omega) only [m3, n3, wp_J0_length_8abf5, ho, m1, m2, l0, l1, l2, l3, l4, l5, l6, l7, l8, l9, l10, l20, l60, l61, l62, bb_t, bb_f, l100, l120, l512, l400, l401, l700, l9999, nm1, lm1, nlt, nle, neq, glt, gle, lgt, lge, geq, egq, mI_l, mI_e, e_mI, l_mI, le_mI, mI_le, bI_z, nC, vnI, nI_add, nI_sb, nI_mul, a1m, qs_eq, qs_nc, qs_ni, qs_nk, bq_l, bq_r, bq_l', bq_r', bq_t, bq_f, bq_t', bq_f', bq_n, bq_m, iT, iS, iN, true_and, and_true, eq_self, not_true_eq_false, not_false_eq_true, forall_const, bx_t, bx_f, reduceCtorEq, Option.some.injEq, forall_eq', ite_true, ite_false]
      exact kk
  · have g := k0 c3
    simp (disch := first | assumption | omega) only [m3, l0, l1, l2, l3, l4, l5, l6, l7, l8, l9, l10, l20, l60, l61, l62, bb_t, bb_f, l100, l120, l512, l400, l401, l700, l9999, nm1, lm1, nlt, nle, neq, glt, gle, lgt, lge, geq, egq, mI_l, mI_e, e_mI, l_mI, le_mI, mI_le, bI_z, nC, vnI, nI_add, nI_sb, nI_mul, a1m, qs_eq, qs_nc, qs_ni, qs_nk, bq_l, bq_r, bq_l', bq_r', bq_t, bq_f, bq_t', bq_f', bq_n, bq_m, iT, iS, iN, true_and, and_true, eq_self, not_true_eq_false, not_false_eq_true, forall_const, bx_t, bx_f, reduceCtorEq, Option.some.injEq, forall_eq', ite_true, ite_false]
    exact g
theorem sp0_x {f : Nat → Nat} {s e : Nat} (h : spB f s e 0 = true) {k : Nat} (h1 : (q_tx k).length ≠ 3) : spB f s e k = false := by
  unfold spB at h ⊢
  have h2 := of_decide_eq_true (Bool.and_eq_true_iff.mp h).1
  have h3 : e - s = 3 := h2
  rw [decide_eq_false (by rw [h3]; exact fun x => h1 x.symm)]
  rfl
def wd (f : Nat → Nat) (T n : Nat) : Int32 := if TT f T n = 3 then VV f T n else if TT f T n = 4 then VV f T n + nI 4 else mI
set_option maxHeartbeats 4000000 in
theorem sp_word {t p T n : Nat} {f : Nat → Nat} {a : qa} {post : Int32 → qa → Prop} (h : MP f T a) (hm : MS f T n a) (kk : post (wd f T n) a) : wp_X11_word t p a post := by
  unfold wp_X11_word
  by_cases c3 : SR f T n = 3
  · rcases ty h.f n with ⟨q, _⟩ | ⟨q, _⟩ | ⟨q, _⟩ | ⟨_, hc, hL, eT, eV⟩ | ⟨q, _⟩
    · omega
    · omega
    · omega
    rotate_left 1
    · omega
    cases e0 : spB f (PP f T n) (ps f T (n + 1)) 0
    rotate_left 1
    · have e1 := sp0_x e0 (k := 1) (by decide)
      have e2 := sp0_x e0 (k := 2) (by decide)
      have e3 := sp0_x e0 (k := 3) (by decide)
      have e4 := sp0_x e0 (k := 4) (by decide)
      have e5 := sp0_x e0 (k := 5) (by decide)
      have e6 := sp0_x e0 (k := 6) (by decide)
      have e7 := sp0_x e0 (k := 7) (by decide)
      have ew : wd f T n = mI := by
        unfold wd
        rw [eT, eV]
        simp only [wT, e0, ite_true]
        try rfl
      rw [ew] at kk
      refine sp_isWord (k := 1) (by decide) rfl h hm (fun _ => ?_) (fun x => absurd c3 x)
      rw [e1]
      simp (disch := first | assumption | omega) only [l0, l1, l2, l3, l4, l5, l6, l7, l8, l9, l10, l20, l60, l61, l62, bb_t, bb_f, l100, l120, l512, l400, l401, l700, l9999, nm1, lm1, nlt, nle, neq, glt, gle, lgt, lge, geq, egq, mI_l, mI_e, e_mI, l_mI, le_mI, mI_le, bI_z, nC, vnI, nI_add, nI_sb, nI_mul, a1m, qs_eq, qs_nc, qs_ni, qs_nk, bq_l, bq_r, bq_l', bq_r', bq_t, bq_f, bq_t', bq_f', bq_n, bq_m, iT, iS, iN, true_and, and_true, eq_self, not_true_eq_false, not_false_eq_true, forall_const, bx_t, bx_f, reduceCtorEq, Option.some.injEq, forall_eq', ite_true, ite_false]
      refine sp_isWord (k := 2) (by decide) rfl h hm (fun _ => ?_) (fun x => absurd c3 x)
      rw [e2]
      simp (disch := first | assumption | omega) only [l0, l1, l2, l3, l4, l5, l6, l7, l8, l9, l10, l20, l60, l61, l62, bb_t, bb_f, l100, l120, l512, l400, l401, l700, l9999, nm1, lm1, nlt, nle, neq, glt, gle, lgt, lge, geq, egq, mI_l, mI_e, e_mI, l_mI, le_mI, mI_le, bI_z, nC, vnI, nI_add, nI_sb, nI_mul, a1m, qs_eq, qs_nc, qs_ni, qs_nk, bq_l, bq_r, bq_l', bq_r', bq_t, bq_f, bq_t', bq_f', bq_n, bq_m, iT, iS, iN, true_and, and_true, eq_self, not_true_eq_false, not_false_eq_true, forall_const, bx_t, bx_f, reduceCtorEq, Option.some.injEq, forall_eq', ite_true, ite_false]
      refine sp_isWord (k := 3) (by decide) rfl h hm (fun _ => ?_) (fun x => absurd c3 x)
      rw [e3]
      simp (disch := first | assumption | omega) only [l0, l1, l2, l3, l4, l5, l6, l7, l8, l9, l10, l20, l60, l61, l62, bb_t, bb_f, l100, l120, l512, l400, l401, l700, l9999, nm1, lm1, nlt, nle, neq, glt, gle, lgt, lge, geq, egq, mI_l, mI_e, e_mI, l_mI, le_mI, mI_le, bI_z, nC, vnI, nI_add, nI_sb, nI_mul, a1m, qs_eq, qs_nc, qs_ni, qs_nk, bq_l, bq_r, bq_l', bq_r', bq_t, bq_f, bq_t', bq_f', bq_n, bq_m, iT, iS, iN, true_and, and_true, eq_self, not_true_eq_false, not_false_eq_true, forall_const, bx_t, bx_f, reduceCtorEq, Option.some.injEq, forall_eq', ite_true, ite_false]
      refine sp_isWord (k := 4) (by decide) rfl h hm (fun _ => ?_) (fun x => absurd c3 x)
      rw [e4]
      simp (disch := first | assumption | omega) only [l0, l1, l2, l3, l4, l5, l6, l7, l8, l9, l10, l20, l60, l61, l62, bb_t, bb_f, l100, l120, l512, l400, l401, l700, l9999, nm1, lm1, nlt, nle, neq, glt, gle, lgt, lge, geq, egq, mI_l, mI_e, e_mI, l_mI, le_mI, mI_le, bI_z, nC, vnI, nI_add, nI_sb, nI_mul, a1m, qs_eq, qs_nc, qs_ni, qs_nk, bq_l, bq_r, bq_l', bq_r', bq_t, bq_f, bq_t', bq_f', bq_n, bq_m, iT, iS, iN, true_and, and_true, eq_self, not_true_eq_false, not_false_eq_true, forall_const, bx_t, bx_f, reduceCtorEq, Option.some.injEq, forall_eq', ite_true, ite_false]
      refine sp_isWord (k := 5) (by decide) rfl h hm (fun _ => ?_) (fun x => absurd c3 x)
      rw [e5]
      simp (disch := first | assumption | omega) only [l0, l1, l2, l3, l4, l5, l6, l7, l8, l9, l10, l20, l60, l61, l62, bb_t, bb_f, l100, l120, l512, l400, l401, l700, l9999, nm1, lm1, nlt, nle, neq, glt, gle, lgt, lge, geq, egq, mI_l, mI_e, e_mI, l_mI, le_mI, mI_le, bI_z, nC, vnI, nI_add, nI_sb, nI_mul, a1m, qs_eq, qs_nc, qs_ni, qs_nk, bq_l, bq_r, bq_l', bq_r', bq_t, bq_f, bq_t', bq_f', bq_n, bq_m, iT, iS, iN, true_and, and_true, eq_self, not_true_eq_false, not_false_eq_true, forall_const, bx_t, bx_f, reduceCtorEq, Option.some.injEq, forall_eq', ite_true, ite_false]
      refine sp_isWord (k := 6) (by decide) rfl h hm (fun _ => ?_) (fun x => absurd c3 x)
      rw [e6]
      simp (disch := first | assumption | omega) only [l0, l1, l2, l3, l4, l5, l6, l7, l8, l9, l10, l20, l60, l61, l62, bb_t, bb_f, l100, l120, l512, l400, l401, l700, l9999, nm1, lm1, nlt, nle, neq, glt, gle, lgt, lge, geq, egq, mI_l, mI_e, e_mI, l_mI, le_mI, mI_le, bI_z, nC, vnI, nI_add, nI_sb, nI_mul, a1m, qs_eq, qs_nc, qs_ni, qs_nk, bq_l, bq_r, bq_l', bq_r', bq_t, bq_f, bq_t', bq_f', bq_n, bq_m, iT, iS, iN, true_and, and_true, eq_self, not_true_eq_false, not_false_eq_true, forall_const, bx_t, bx_f, reduceCtorEq, Option.some.injEq, forall_eq', ite_true, ite_false]
      refine sp_isWord (k := 7) (by decide) rfl h hm (fun _ => ?_) (fun x => absurd c3 x)
      rw [e7]
      simp (disch := first | assumption | omega) only [l0, l1, l2, l3, l4, l5, l6, l7, l8, l9, l10, l20, l60, l61, l62, bb_t, bb_f, l100, l120, l512, l400, l401, l700, l9999, nm1, lm1, nlt, nle, neq, glt, gle, lgt, lge, geq, egq, mI_l, mI_e, e_mI, l_mI, le_mI, mI_le, bI_z, nC, vnI, nI_add, nI_sb, nI_mul, a1m, qs_eq, qs_nc, qs_ni, qs_nk, bq_l, bq_r, bq_l', bq_r', bq_t, bq_f, bq_t', bq_f', bq_n, bq_m, iT, iS, iN, true_and, and_true, eq_self, not_true_eq_false, not_false_eq_true, forall_const, bx_t, bx_f, reduceCtorEq, Option.some.injEq, forall_eq', ite_true, ite_false]
      exact kk
    refine sp_isWord (k := 1) (by decide) rfl h hm (fun _ => ?_) (fun x => absurd c3 x)
    cases e1 : spB f (PP f T n) (ps f T (n + 1)) 1
    rotate_left 1
    · have ew : wd f T n = nI 0 := by
        unfold wd
        rw [eT, eV]
        simp only [wT, e0, e1, ite_true, ite_false, Bool.false_eq_true]
        try rfl
      rw [ew] at kk
      simp (disch := first | assumption | omega) only [l0, l1, l2, l3, l4, l5, l6, l7, l8, l9, l10, l20, l60, l61, l62, bb_t, bb_f, l100, l120, l512, l400, l401, l700, l9999, nm1, lm1, nlt, nle, neq, glt, gle, lgt, lge, geq, egq, mI_l, mI_e, e_mI, l_mI, le_mI, mI_le, bI_z, nC, vnI, nI_add, nI_sb, nI_mul, a1m, qs_eq, qs_nc, qs_ni, qs_nk, bq_l, bq_r, bq_l', bq_r', bq_t, bq_f, bq_t', bq_f', bq_n, bq_m, iT, iS, iN, true_and, and_true, eq_self, not_true_eq_false, not_false_eq_true, forall_const, bx_t, bx_f, reduceCtorEq, Option.some.injEq, forall_eq', ite_true, ite_false]
      exact kk
    simp (disch := first | assumption | omega) only [l0, l1, l2, l3, l4, l5, l6, l7, l8, l9, l10, l20, l60, l61, l62, bb_t, bb_f, l100, l120, l512, l400, l401, l700, l9999, nm1, lm1, nlt, nle, neq, glt, gle, lgt, lge, geq, egq, mI_l, mI_e, e_mI, l_mI, le_mI, mI_le, bI_z, nC, vnI, nI_add, nI_sb, nI_mul, a1m, qs_eq, qs_nc, qs_ni, qs_nk, bq_l, bq_r, bq_l', bq_r', bq_t, bq_f, bq_t', bq_f', bq_n, bq_m, iT, iS, iN, true_and, and_true, eq_self, not_true_eq_false, not_false_eq_true, forall_const, bx_t, bx_f, reduceCtorEq, Option.some.injEq, forall_eq', ite_true, ite_false]
    refine sp_isWord (k := 2) (by decide) rfl h hm (fun _ => ?_) (fun x => absurd c3 x)
    cases e2 : spB f (PP f T n) (ps f T (n + 1)) 2
    rotate_left 1
    · have ew : wd f T n = nI 1 := by
        unfold wd
        rw [eT, eV]
        simp only [wT, e0, e1, e2, ite_true, ite_false, Bool.false_eq_true]
        try rfl
      rw [ew] at kk
      simp (disch := first | assumption | omega) only [l0, l1, l2, l3, l4, l5, l6, l7, l8, l9, l10, l20, l60, l61, l62, bb_t, bb_f, l100, l120, l512, l400, l401, l700, l9999, nm1, lm1, nlt, nle, neq, glt, gle, lgt, lge, geq, egq, mI_l, mI_e, e_mI, l_mI, le_mI, mI_le, bI_z, nC, vnI, nI_add, nI_sb, nI_mul, a1m, qs_eq, qs_nc, qs_ni, qs_nk, bq_l, bq_r, bq_l', bq_r', bq_t, bq_f, bq_t', bq_f', bq_n, bq_m, iT, iS, iN, true_and, and_true, eq_self, not_true_eq_false, not_false_eq_true, forall_const, bx_t, bx_f, reduceCtorEq, Option.some.injEq, forall_eq', ite_true, ite_false]
      exact kk
    simp (disch := first | assumption | omega) only [l0, l1, l2, l3, l4, l5, l6, l7, l8, l9, l10, l20, l60, l61, l62, bb_t, bb_f, l100, l120, l512, l400, l401, l700, l9999, nm1, lm1, nlt, nle, neq, glt, gle, lgt, lge, geq, egq, mI_l, mI_e, e_mI, l_mI, le_mI, mI_le, bI_z, nC, vnI, nI_add, nI_sb, nI_mul, a1m, qs_eq, qs_nc, qs_ni, qs_nk, bq_l, bq_r, bq_l', bq_r', bq_t, bq_f, bq_t', bq_f', bq_n, bq_m, iT, iS, iN, true_and, and_true, eq_self, not_true_eq_false, not_false_eq_true, forall_const, bx_t, bx_f, reduceCtorEq, Option.some.injEq, forall_eq', ite_true, ite_false]
    refine sp_isWord (k := 3) (by decide) rfl h hm (fun _ => ?_) (fun x => absurd c3 x)
    cases e3 : spB f (PP f T n) (ps f T (n + 1)) 3
    rotate_left 1
    · have ew : wd f T n = nI 2 := by
        unfold wd
        rw [eT, eV]
        simp only [wT, e0, e1, e2, e3, ite_true, ite_false, Bool.false_eq_true]
        try rfl
      rw [ew] at kk
      simp (disch := first | assumption | omega) only [l0, l1, l2, l3, l4, l5, l6, l7, l8, l9, l10, l20, l60, l61, l62, bb_t, bb_f, l100, l120, l512, l400, l401, l700, l9999, nm1, lm1, nlt, nle, neq, glt, gle, lgt, lge, geq, egq, mI_l, mI_e, e_mI, l_mI, le_mI, mI_le, bI_z, nC, vnI, nI_add, nI_sb, nI_mul, a1m, qs_eq, qs_nc, qs_ni, qs_nk, bq_l, bq_r, bq_l', bq_r', bq_t, bq_f, bq_t', bq_f', bq_n, bq_m, iT, iS, iN, true_and, and_true, eq_self, not_true_eq_false, not_false_eq_true, forall_const, bx_t, bx_f, reduceCtorEq, Option.some.injEq, forall_eq', ite_true, ite_false]
      exact kk
    simp (disch := first | assumption | omega) only [l0, l1, l2, l3, l4, l5, l6, l7, l8, l9, l10, l20, l60, l61, l62, bb_t, bb_f, l100, l120, l512, l400, l401, l700, l9999, nm1, lm1, nlt, nle, neq, glt, gle, lgt, lge, geq, egq, mI_l, mI_e, e_mI, l_mI, le_mI, mI_le, bI_z, nC, vnI, nI_add, nI_sb, nI_mul, a1m, qs_eq, qs_nc, qs_ni, qs_nk, bq_l, bq_r, bq_l', bq_r', bq_t, bq_f, bq_t', bq_f', bq_n, bq_m, iT, iS, iN, true_and, and_true, eq_self, not_true_eq_false, not_false_eq_true, forall_const, bx_t, bx_f, reduceCtorEq, Option.some.injEq, forall_eq', ite_true, ite_false]
    refine sp_isWord (k := 4) (by decide) rfl h hm (fun _ => ?_) (fun x => absurd c3 x)
    cases e4 : spB f (PP f T n) (ps f T (n + 1)) 4
    rotate_left 1
    · have ew : wd f T n = nI 3 := by
        unfold wd
        rw [eT, eV]
        simp only [wT, e0, e1, e2, e3, e4, ite_true, ite_false, Bool.false_eq_true]
        try rfl
      rw [ew] at kk
      simp (disch := first | assumption | omega) only [l0, l1, l2, l3, l4, l5, l6, l7, l8, l9, l10, l20, l60, l61, l62, bb_t, bb_f, l100, l120, l512, l400, l401, l700, l9999, nm1, lm1, nlt, nle, neq, glt, gle, lgt, lge, geq, egq, mI_l, mI_e, e_mI, l_mI, le_mI, mI_le, bI_z, nC, vnI, nI_add, nI_sb, nI_mul, a1m, qs_eq, qs_nc, qs_ni, qs_nk, bq_l, bq_r, bq_l', bq_r', bq_t, bq_f, bq_t', bq_f', bq_n, bq_m, iT, iS, iN, true_and, and_true, eq_self, not_true_eq_false, not_false_eq_true, forall_const, bx_t, bx_f, reduceCtorEq, Option.some.injEq, forall_eq', ite_true, ite_false]
      exact kk
    simp (disch := first | assumption | omega) only [l0, l1, l2, l3, l4, l5, l6, l7, l8, l9, l10, l20, l60, l61, l62, bb_t, bb_f, l100, l120, l512, l400, l401, l700, l9999, nm1, lm1, nlt, nle, neq, glt, gle, lgt, lge, geq, egq, mI_l, mI_e, e_mI, l_mI, le_mI, mI_le, bI_z, nC, vnI, nI_add, nI_sb, nI_mul, a1m, qs_eq, qs_nc, qs_ni, qs_nk, bq_l, bq_r, bq_l', bq_r', bq_t, bq_f, bq_t', bq_f', bq_n, bq_m, iT, iS, iN, true_and, and_true, eq_self, not_true_eq_false, not_false_eq_true, forall_const, bx_t, bx_f, reduceCtorEq, Option.some.injEq, forall_eq', ite_true, ite_false]
    refine sp_isWord (k := 5) (by decide) rfl h hm (fun _ => ?_) (fun x => absurd c3 x)
    cases e5 : spB f (PP f T n) (ps f T (n + 1)) 5
    rotate_left 1
    · have ew : wd f T n = nI 4 := by
        unfold wd
        rw [eT, eV]
        simp only [wT, e0, e1, e2, e3, e4, e5, ite_true, ite_false, Bool.false_eq_true]
        try rfl
      rw [ew] at kk
      simp (disch := first | assumption | omega) only [l0, l1, l2, l3, l4, l5, l6, l7, l8, l9, l10, l20, l60, l61, l62, bb_t, bb_f, l100, l120, l512, l400, l401, l700, l9999, nm1, lm1, nlt, nle, neq, glt, gle, lgt, lge, geq, egq, mI_l, mI_e, e_mI, l_mI, le_mI, mI_le, bI_z, nC, vnI, nI_add, nI_sb, nI_mul, a1m, qs_eq, qs_nc, qs_ni, qs_nk, bq_l, bq_r, bq_l', bq_r', bq_t, bq_f, bq_t', bq_f', bq_n, bq_m, iT, iS, iN, true_and, and_true, eq_self, not_true_eq_false, not_false_eq_true, forall_const, bx_t, bx_f, reduceCtorEq, Option.some.injEq, forall_eq', ite_true, ite_false]
      exact kk
    simp (disch := first | assumption | omega) only [l0, l1, l2, l3, l4, l5, l6, l7, l8, l9, l10, l20, l60, l61, l62, bb_t, bb_f, l100, l120, l512, l400, l401, l700, l9999, nm1, lm1, nlt, nle, neq, glt, gle, lgt, lge, geq, egq, mI_l, mI_e, e_mI, l_mI, le_mI, mI_le, bI_z, nC, vnI, nI_add, nI_sb, nI_mul, a1m, qs_eq, qs_nc, qs_ni, qs_nk, bq_l, bq_r, bq_l', bq_r', bq_t, bq_f, bq_t', bq_f', bq_n, bq_m, iT, iS, iN, true_and, and_true, eq_self, not_true_eq_false, not_false_eq_true, forall_const, bx_t, bx_f, reduceCtorEq, Option.some.injEq, forall_eq', ite_true, ite_false]
    refine sp_isWord (k := 6) (by decide) rfl h hm (fun _ => ?_) (fun x => absurd c3 x)
    cases e6 : spB f (PP f T n) (ps f T (n + 1)) 6
    rotate_left 1
    · have ew : wd f T n = nI 5 := by
        unfold wd
        rw [eT, eV]
        simp only [wT, e0, e1, e2, e3, e4, e5, e6, ite_true, ite_false, Bool.false_eq_true]
        try rfl
      rw [ew] at kk
      simp (disch := first | assumption | omega) only [l0, l1, l2, l3, l4, l5, l6, l7, l8, l9, l10, l20, l60, l61, l62, bb_t, bb_f, l100, l120, l512, l400, l401, l700, l9999, nm1, lm1, nlt, nle, neq, glt, gle, lgt, lge, geq, egq, mI_l, mI_e, e_mI, l_mI, le_mI, mI_le, bI_z, nC, vnI, nI_add, nI_sb, nI_mul, a1m, qs_eq, qs_nc, qs_ni, qs_nk, bq_l, bq_r, bq_l', bq_r', bq_t, bq_f, bq_t', bq_f', bq_n, bq_m, iT, iS, iN, true_and, and_true, eq_self, not_true_eq_false, not_false_eq_true, forall_const, bx_t, bx_f, reduceCtorEq, Option.some.injEq, forall_eq', ite_true, ite_false]
      exact kk
    simp (disch := first | assumption | omega) only [l0, l1, l2, l3, l4, l5, l6, l7, l8, l9, l10, l20, l60, l61, l62, bb_t, bb_f, l100, l120, l512, l400, l401, l700, l9999, nm1, lm1, nlt, nle, neq, glt, gle, lgt, lge, geq, egq, mI_l, mI_e, e_mI, l_mI, le_mI, mI_le, bI_z, nC, vnI, nI_add, nI_sb, nI_mul, a1m, qs_eq, qs_nc, qs_ni, qs_nk, bq_l, bq_r, bq_l', bq_r', bq_t, bq_f, bq_t', bq_f', bq_n, bq_m, iT, iS, iN, true_and, and_true, eq_self, not_true_eq_false, not_false_eq_true, forall_const, bx_t, bx_f, reduceCtorEq, Option.some.injEq, forall_eq', ite_true, ite_false]
    refine sp_isWord (k := 7) (by decide) rfl h hm (fun _ => ?_) (fun x => absurd c3 x)
    cases e7 : spB f (PP f T n) (ps f T (n + 1)) 7
    rotate_left 1
    · have ew : wd f T n = nI 6 := by
        unfold wd
        rw [eT, eV]
        simp only [wT, e0, e1, e2, e3, e4, e5, e6, e7, ite_true, ite_false, Bool.false_eq_true]
        try rfl
      rw [ew] at kk
      simp (disch := first | assumption | omega) only [l0, l1, l2, l3, l4, l5, l6, l7, l8, l9, l10, l20, l60, l61, l62, bb_t, bb_f, l100, l120, l512, l400, l401, l700, l9999, nm1, lm1, nlt, nle, neq, glt, gle, lgt, lge, geq, egq, mI_l, mI_e, e_mI, l_mI, le_mI, mI_le, bI_z, nC, vnI, nI_add, nI_sb, nI_mul, a1m, qs_eq, qs_nc, qs_ni, qs_nk, bq_l, bq_r, bq_l', bq_r', bq_t, bq_f, bq_t', bq_f', bq_n, bq_m, iT, iS, iN, true_and, and_true, eq_self, not_true_eq_false, not_false_eq_true, forall_const, bx_t, bx_f, reduceCtorEq, Option.some.injEq, forall_eq', ite_true, ite_false]
      exact kk
    simp (disch := first | assumption | omega) only [l0, l1, l2, l3, l4, l5, l6, l7, l8, l9, l10, l20, l60, l61, l62, bb_t, bb_f, l100, l120, l512, l400, l401, l700, l9999, nm1, lm1, nlt, nle, neq, glt, gle, lgt, lge, geq, egq, mI_l, mI_e, e_mI, l_mI, le_mI, mI_le, bI_z, nC, vnI, nI_add, nI_sb, nI_mul, a1m, qs_eq, qs_nc, qs_ni, qs_nk, bq_l, bq_r, bq_l', bq_r', bq_t, bq_f, bq_t', bq_f', bq_n, bq_m, iT, iS, iN, true_and, and_true, eq_self, not_true_eq_false, not_false_eq_true, forall_const, bx_t, bx_f, reduceCtorEq, Option.some.injEq, forall_eq', ite_true, ite_false]
    have ew : wd f T n = mI := by
      unfold wd
      rw [eT, eV]
      simp only [wT, e0, e1, e2, e3, e4, e5, e6, e7, ite_false, Bool.false_eq_true]
      try rfl
    rw [ew] at kk
    exact kk
  · have e : wd f T n = mI := by
      unfold wd
      have : ¬ TT f T n = 3 ∧ ¬ TT f T n = 4 := by
        rcases ty h.f n with ⟨_, q⟩ | ⟨_, q⟩ | ⟨_, q⟩ | ⟨q, _⟩ | ⟨_, b, hb, q, _, q2⟩
        · omega
        · omega
        · omega
        · exact absurd q c3
        · rcases sgT_b b with r | ⟨r, _⟩ | ⟨r, _⟩ | ⟨r, _⟩ | ⟨r, _⟩ <;> omega
      rw [if_neg this.1, if_neg this.2]
    rw [e] at kk
    refine sp_isWord (k := 1) (by decide) rfl h hm (fun x => absurd x c3) (fun _ => ?_)
    simp (disch := first | assumption | omega) only [l0, l1, l2, l3, l4, l5, l6, l7, l8, l9, l10, l20, l60, l61, l62, bb_t, bb_f, l100, l120, l512, l400, l401, l700, l9999, nm1, lm1, nlt, nle, neq, glt, gle, lgt, lge, geq, egq, mI_l, mI_e, e_mI, l_mI, le_mI, mI_le, bI_z, nC, vnI, nI_add, nI_sb, nI_mul, a1m, qs_eq, qs_nc, qs_ni, qs_nk, bq_l, bq_r, bq_l', bq_r', bq_t, bq_f, bq_t', bq_f', bq_n, bq_m, iT, iS, iN, true_and, and_true, eq_self, not_true_eq_false, not_false_eq_true, forall_const, bx_t, bx_f, reduceCtorEq, Option.some.injEq, forall_eq', ite_true, ite_false]
    refine sp_isWord (k := 2) (by decide) rfl h hm (fun x => absurd x c3) (fun _ => ?_)
    simp (disch := first | assumption | omega) only [l0, l1, l2, l3, l4, l5, l6, l7, l8, l9, l10, l20, l60, l61, l62, bb_t, bb_f, l100, l120, l512, l400, l401, l700, l9999, nm1, lm1, nlt, nle, neq, glt, gle, lgt, lge, geq, egq, mI_l, mI_e, e_mI, l_mI, le_mI, mI_le, bI_z, nC, vnI, nI_add, nI_sb, nI_mul, a1m, qs_eq, qs_nc, qs_ni, qs_nk, bq_l, bq_r, bq_l', bq_r', bq_t, bq_f, bq_t', bq_f', bq_n, bq_m, iT, iS, iN, true_and, and_true, eq_self, not_true_eq_false, not_false_eq_true, forall_const, bx_t, bx_f, reduceCtorEq, Option.some.injEq, forall_eq', ite_true, ite_false]
    refine sp_isWord (k := 3) (by decide) rfl h hm (fun x => absurd x c3) (fun _ => ?_)
    simp (disch := first | assumption | omega) only [l0, l1, l2, l3, l4, l5, l6, l7, l8, l9, l10, l20, l60, l61, l62, bb_t, bb_f, l100, l120, l512, l400, l401, l700, l9999, nm1, lm1, nlt, nle, neq, glt, gle, lgt, lge, geq, egq, mI_l, mI_e, e_mI, l_mI, le_mI, mI_le, bI_z, nC, vnI, nI_add, nI_sb, nI_mul, a1m, qs_eq, qs_nc, qs_ni, qs_nk, bq_l, bq_r, bq_l', bq_r', bq_t, bq_f, bq_t', bq_f', bq_n, bq_m, iT, iS, iN, true_and, and_true, eq_self, not_true_eq_false, not_false_eq_true, forall_const, bx_t, bx_f, reduceCtorEq, Option.some.injEq, forall_eq', ite_true, ite_false]
    refine sp_isWord (k := 4) (by decide) rfl h hm (fun x => absurd x c3) (fun _ => ?_)
    simp (disch := first | assumption | omega) only [l0, l1, l2, l3, l4, l5, l6, l7, l8, l9, l10, l20, l60, l61, l62, bb_t, bb_f, l100, l120, l512, l400, l401, l700, l9999, nm1, lm1, nlt, nle, neq, glt, gle, lgt, lge, geq, egq, mI_l, mI_e, e_mI, l_mI, le_mI, mI_le, bI_z, nC, vnI, nI_add, nI_sb, nI_mul, a1m, qs_eq, qs_nc, qs_ni, qs_nk, bq_l, bq_r, bq_l', bq_r', bq_t, bq_f, bq_t', bq_f', bq_n, bq_m, iT, iS, iN, true_and, and_true, eq_self, not_true_eq_false, not_false_eq_true, forall_const, bx_t, bx_f, reduceCtorEq, Option.some.injEq, forall_eq', ite_true, ite_false]
    refine sp_isWord (k := 5) (by decide) rfl h hm (fun x => absurd x c3) (fun _ => ?_)
    simp (disch := first | assumption | omega) only [l0, l1, l2, l3, l4, l5, l6, l7, l8, l9, l10, l20, l60, l61, l62, bb_t, bb_f, l100, l120, l512, l400, l401, l700, l9999, nm1, lm1, nlt, nle, neq, glt, gle, lgt, lge, geq, egq, mI_l, mI_e, e_mI, l_mI, le_mI, mI_le, bI_z, nC, vnI, nI_add, nI_sb, nI_mul, a1m, qs_eq, qs_nc, qs_ni, qs_nk, bq_l, bq_r, bq_l', bq_r', bq_t, bq_f, bq_t', bq_f', bq_n, bq_m, iT, iS, iN, true_and, and_true, eq_self, not_true_eq_false, not_false_eq_true, forall_const, bx_t, bx_f, reduceCtorEq, Option.some.injEq, forall_eq', ite_true, ite_false]
    refine sp_isWord (k := 6) (by decide) rfl h hm (fun x => absurd x c3) (fun _ => ?_)
    simp (disch := first | assumption | omega) only [l0, l1, l2, l3, l4, l5, l6, l7, l8, l9, l10, l20, l60, l61, l62, bb_t, bb_f, l100, l120, l512, l400, l401, l700, l9999, nm1, lm1, nlt, nle, neq, glt, gle, lgt, lge, geq, egq, mI_l, mI_e, e_mI, l_mI, le_mI, mI_le, bI_z, nC, vnI, nI_add, nI_sb, nI_mul, a1m, qs_eq, qs_nc, qs_ni, qs_nk, bq_l, bq_r, bq_l', bq_r', bq_t, bq_f, bq_t', bq_f', bq_n, bq_m, iT, iS, iN, true_and, and_true, eq_self, not_true_eq_false, not_false_eq_true, forall_const, bx_t, bx_f, reduceCtorEq, Option.some.injEq, forall_eq', ite_true, ite_false]
    refine sp_isWord (k := 7) (by decide) rfl h hm (fun x => absurd x c3) (fun _ => ?_)
    simp (disch := first | assumption | omega) only [l0, l1, l2, l3, l4, l5, l6, l7, l8, l9, l10, l20, l60, l61, l62, bb_t, bb_f, l100, l120, l512, l400, l401, l700, l9999, nm1, lm1, nlt, nle, neq, glt, gle, lgt, lge, geq, egq, mI_l, mI_e, e_mI, l_mI, le_mI, mI_le, bI_z, nC, vnI, nI_add, nI_sb, nI_mul, a1m, qs_eq, qs_nc, qs_ni, qs_nk, bq_l, bq_r, bq_l', bq_r', bq_t, bq_f, bq_t', bq_f', bq_n, bq_m, iT, iS, iN, true_and, and_true, eq_self, not_true_eq_false, not_false_eq_true, forall_const, bx_t, bx_f, reduceCtorEq, Option.some.injEq, forall_eq', ite_true, ite_false]
    exact kk
theorem sp_and {t p T n : Nat} {f : Nat → Nat} {a : qa} {post : Int32 → qa → Prop} (h : MP f T a) (hm : MS f T n a) (k1 : TT f T n = 5 → post (nI 1) a) (k0 : ¬ TT f T n = 5 → post (nI 0) a) : wp_X11_isWord t p 15 a post := by
  refine sp_isWord (k := 0) (by decide) rfl h hm (fun c3 => ?_) (fun c3 => ?_)
  · rcases ty h.f n with ⟨q, _⟩ | ⟨q, _⟩ | ⟨q, _⟩ | ⟨_, hc, hL, eT, eV⟩ | ⟨q, _⟩
    · omega
    · omega
    · omega
    rotate_left 1
    · omega
    rcases wT_b f (PP f T n) (ps f T (n + 1)) with ⟨q, e⟩ | ⟨e, q⟩
    · rw [e]
      exact k1 (by omega)
    · rw [e]
      refine k0 (fun x => ?_)
      rcases q with ⟨q, _⟩ | ⟨q, _⟩ | q <;> omega
  · refine k0 (fun x => ?_)
    rcases ty h.f n with ⟨_, q⟩ | ⟨_, q⟩ | ⟨_, q⟩ | ⟨q, _⟩ | ⟨_, b, hb, q, _, q2⟩
    · omega
    · omega
    · omega
    · exact c3 q
    · rcases sgT_b b with r | ⟨r, _⟩ | ⟨r, _⟩ | ⟨r, _⟩ | ⟨r, _⟩ <;> omega
theorem wd_c {f : Nat → Nat} {T n : Nat} (hf : ∀ j, j < T → f j < 256) : (TT f T n = 3 ∧ wd f T n = VV f T n ∧ ∃ k, k ≤ 3 ∧ VV f T n = nI k) ∨ (TT f T n = 4 ∧ wd f T n = VV f T n + nI 4 ∧ ∃ k, k ≤ 2 ∧ VV f T n = nI k) ∨ (¬ (TT f T n = 3 ∨ TT f T n = 4) ∧ wd f T n = mI) := by
  by_cases c3 : TT f T n = 3
  · left
    refine ⟨c3, if_pos c3, ?_⟩
    rcases ty hf n with ⟨_, q⟩ | ⟨_, q⟩ | ⟨_, q⟩ | ⟨_, _, _, eT, eV⟩ | ⟨_, b, hb, q, _, q2⟩
    · omega
    · omega
    · omega
    · rcases wT_b f (PP f T n) (ps f T (n + 1)) with ⟨q, e⟩ | ⟨e, ⟨q, r⟩ | ⟨q, r⟩ | q⟩
      · omega
      · rw [eV]; exact r
      · omega
      · omega
    · rcases sgT_b b with r | ⟨r, _⟩ | ⟨r, _⟩ | ⟨r, _⟩ | ⟨r, _⟩ <;> omega
  right
  by_cases c4 : TT f T n = 4
  · left
    refine ⟨c4, by unfold wd; rw [if_neg c3, if_pos c4], ?_⟩
    rcases ty hf n with ⟨_, q⟩ | ⟨_, q⟩ | ⟨_, q⟩ | ⟨_, _, _, eT, eV⟩ | ⟨_, b, hb, q, _, q2⟩
    · omega
    · omega
    · omega
    · rcases wT_b f (PP f T n) (ps f T (n + 1)) with ⟨q, e⟩ | ⟨e, ⟨q, r⟩ | ⟨q, r⟩ | q⟩
      · omega
      · omega
      · rw [eV]; exact r
      · omega
    · rcases sgT_b b with r | ⟨r, _⟩ | ⟨r, _⟩ | ⟨r, _⟩ | ⟨r, _⟩ <;> omega
  · right
    exact ⟨by omega, by unfold wd; rw [if_neg c3, if_neg c4]⟩
theorem TT2 {f : Nat → Nat} {T n : Nat} (hf : ∀ j, j < T → f j < 256) : SR f T n = 2 ↔ TT f T n = 2 := by
  rcases ty hf n with ⟨q1, q⟩ | ⟨q1, q⟩ | ⟨q1, q⟩ | ⟨q1, _, _, eT, eV⟩ | ⟨q1, b, hb, q, _, q2⟩
  · omega
  · omega
  · omega
  · rcases wT_t f (PP f T n) (ps f T (n + 1)) with r | r | r | r <;> omega
  · rcases sgT_b b with r | ⟨r, _⟩ | ⟨r, _⟩ | ⟨r, _⟩ | ⟨r, _⟩ <;> omega
theorem TT0 {f : Nat → Nat} {T n : Nat} (hf : ∀ j, j < T → f j < 256) : SR f T n = 0 ↔ TT f T n = 0 := by
  rcases ty hf n with ⟨q1, q⟩ | ⟨q1, q⟩ | ⟨q1, q⟩ | ⟨q1, _, _, eT, eV⟩ | ⟨q1, b, hb, q, _, q2⟩
  · omega
  · omega
  · omega
  · rcases wT_t f (PP f T n) (ps f T (n + 1)) with r | r | r | r <;> omega
  · rcases sgT_b b with r | ⟨r, _⟩ | ⟨r, _⟩ | ⟨r, _⟩ | ⟨r, _⟩ <;> omega
def fm (f : Nat → Nat) (T : Nat) (a : qa) (k n : Nat) : qa := qs (qs a 11 0 47 (nI k)) 11 0 48 (nI (PP f T n))
def FQ (f : Nat → Nat) (T k n : Nat) (a : qa) : Prop := a 11 0 47 = nI k ∧ a 11 0 48 = nI (PP f T n)
theorem fm_q {f : Nat → Nat} {T k n : Nat} {a : qa} : FQ f T k n (fm f T a k n) := by
  unfold fm
  refine ⟨?_, ?_⟩
  · rw [qs_nk (by decide), qs_eq]
  · rw [qs_eq]
theorem sp_fails {t p T n k : Nat} {f : Nat → Nat} {a : qa} {post : qa → Prop} (h47 : a 11 0 47 = nI 0) (hm : MS f T n a) (kk : post (fm f T a k n)) : wp_X11_fails t p (nI k) a post := by
  have e := hm.2.1
  simp (disch := first | assumption | omega) only [wp_X11_fails, h47, e, l0, l1, l2, l3, l4, l5, l6, l7, l8, l9, l10, l20, l60, l61, l62, bb_t, bb_f, l100, l120, l512, l400, l401, l700, l9999, nm1, lm1, nlt, nle, neq, glt, gle, lgt, lge, geq, egq, mI_l, mI_e, e_mI, l_mI, le_mI, mI_le, bI_z, nC, vnI, nI_add, nI_sb, nI_mul, a1m, qs_eq, qs_nc, qs_ni, qs_nk, bq_l, bq_r, bq_l', bq_r', bq_t, bq_f, bq_t', bq_f', bq_n, bq_m, iT, iS, iN, true_and, and_true, eq_self, not_true_eq_false, not_false_eq_true, forall_const, bx_t, bx_f, reduceCtorEq, Option.some.injEq, forall_eq', ite_true, ite_false]
  exact kk
theorem sp_well {t p : Nat} {a : qa} {post : Int32 → qa → Prop} (h47 : a 11 0 47 = nI 0) (kk : post (nI 1) a) : wp_X11_isWell t p a post := by
  simp (disch := first | assumption | omega) only [wp_X11_isWell, h47, l0, l1, l2, l3, l4, l5, l6, l7, l8, l9, l10, l20, l60, l61, l62, bb_t, bb_f, l100, l120, l512, l400, l401, l700, l9999, nm1, lm1, nlt, nle, neq, glt, gle, lgt, lge, geq, egq, mI_l, mI_e, e_mI, l_mI, le_mI, mI_le, bI_z, nC, vnI, nI_add, nI_sb, nI_mul, a1m, qs_eq, qs_nc, qs_ni, qs_nk, bq_l, bq_r, bq_l', bq_r', bq_t, bq_f, bq_t', bq_f', bq_n, bq_m, iT, iS, iN, true_and, and_true, eq_self, not_true_eq_false, not_false_eq_true, forall_const, bx_t, bx_f, reduceCtorEq, Option.some.injEq, forall_eq', ite_true, ite_false]
  exact kk
theorem sp_ill {t p k : Nat} {a : qa} {post : Int32 → qa → Prop} (h47 : a 11 0 47 = nI k) (hk : 1 ≤ k) (hk2 : k ≤ 2) (kk : post (nI 0) a) : wp_X11_isWell t p a post := by
  simp (disch := first | assumption | omega) only [wp_X11_isWell, h47, l0, l1, l2, l3, l4, l5, l6, l7, l8, l9, l10, l20, l60, l61, l62, bb_t, bb_f, l100, l120, l512, l400, l401, l700, l9999, nm1, lm1, nlt, nle, neq, glt, gle, lgt, lge, geq, egq, mI_l, mI_e, e_mI, l_mI, le_mI, mI_le, bI_z, nC, vnI, nI_add, nI_sb, nI_mul, a1m, qs_eq, qs_nc, qs_ni, qs_nk, bq_l, bq_r, bq_l', bq_r', bq_t, bq_f, bq_t', bq_f', bq_n, bq_m, iT, iS, iN, true_and, and_true, eq_self, not_true_eq_false, not_false_eq_true, forall_const, bx_t, bx_f, reduceCtorEq, Option.some.injEq, forall_eq', ite_true, ite_false]
  exact kk
theorem sp_number {t p T n : Nat} {f : Nat → Nat} {a : qa} {post : Int32 → qa → Prop} (h : MP f T a) (h47 : a 11 0 47 = nI 0) (hm : MS f T n a) (k1 : TT f T n = 2 → ∀ a', Nx a a' → MS f T (n + 1) a' → post (VV f T n) a') (k0 : ¬ TT f T n = 2 → post (nI 0) (fm f T a 1 n)) : wp_X11_number t p a post := by
  have h4 := SR4 h.f n
  have e45 := hm.2.2.1
  unfold wp_X11_number
  refine sp_well h47 ?_
  by_cases c : TT f T n = 2
  · have c2 := (TT2 h.f).mpr c
    have e46 := hm.2.2.2 (Or.inl c2)
    have n2 : nI (SR f T n) = nI 2 := by rw [c2]
    simp (disch := first | assumption | omega) only [e45, n2, wl_X11_number_20, l0, l1, l2, l3, l4, l5, l6, l7, l8, l9, l10, l20, l60, l61, l62, bb_t, bb_f, l100, l120, l512, l400, l401, l700, l9999, nm1, lm1, nlt, nle, neq, glt, gle, lgt, lge, geq, egq, mI_l, mI_e, e_mI, l_mI, le_mI, mI_le, bI_z, nC, vnI, nI_add, nI_sb, nI_mul, a1m, qs_eq, qs_nc, qs_ni, qs_nk, bq_l, bq_r, bq_l', bq_r', bq_t, bq_f, bq_t', bq_f', bq_n, bq_m, iT, iS, iN, true_and, and_true, eq_self, not_true_eq_false, not_false_eq_true, forall_const, bx_t, bx_f, reduceCtorEq, Option.some.injEq, forall_eq', ite_true, ite_false]
    refine sp_well h47 ?_
    simp (disch := first | assumption | omega) only [e46, l0, l1, l2, l3, l4, l5, l6, l7, l8, l9, l10, l20, l60, l61, l62, bb_t, bb_f, l100, l120, l512, l400, l401, l700, l9999, nm1, lm1, nlt, nle, neq, glt, gle, lgt, lge, geq, egq, mI_l, mI_e, e_mI, l_mI, le_mI, mI_le, bI_z, nC, vnI, nI_add, nI_sb, nI_mul, a1m, qs_eq, qs_nc, qs_ni, qs_nk, bq_l, bq_r, bq_l', bq_r', bq_t, bq_f, bq_t', bq_f', bq_n, bq_m, iT, iS, iN, true_and, and_true, eq_self, not_true_eq_false, not_false_eq_true, forall_const, bx_t, bx_f, reduceCtorEq, Option.some.injEq, forall_eq', ite_true, ite_false]
    exact sp_mnext h hm (k1 c)
  · have c2 : ¬ SR f T n = 2 := fun x => c ((TT2 h.f).mp x)
    simp (disch := first | assumption | omega) only [e45, l0, l1, l2, l3, l4, l5, l6, l7, l8, l9, l10, l20, l60, l61, l62, bb_t, bb_f, l100, l120, l512, l400, l401, l700, l9999, nm1, lm1, nlt, nle, neq, glt, gle, lgt, lge, geq, egq, mI_l, mI_e, e_mI, l_mI, le_mI, mI_le, bI_z, nC, vnI, nI_add, nI_sb, nI_mul, a1m, qs_eq, qs_nc, qs_ni, qs_nk, bq_l, bq_r, bq_l', bq_r', bq_t, bq_f, bq_t', bq_f', bq_n, bq_m, iT, iS, iN, true_and, and_true, eq_self, not_true_eq_false, not_false_eq_true, forall_const, bx_t, bx_f, reduceCtorEq, Option.some.injEq, forall_eq', ite_true, ite_false]
    refine sp_fails (k := 1) h47 hm ?_
    unfold wl_X11_number_20
    refine sp_ill (k := 1) fm_q.1 (by decide) (by decide) ?_
    have g := k0 c
    simp (disch := first | assumption | omega) only [l0, l1, l2, l3, l4, l5, l6, l7, l8, l9, l10, l20, l60, l61, l62, bb_t, bb_f, l100, l120, l512, l400, l401, l700, l9999, nm1, lm1, nlt, nle, neq, glt, gle, lgt, lge, geq, egq, mI_l, mI_e, e_mI, l_mI, le_mI, mI_le, bI_z, nC, vnI, nI_add, nI_sb, nI_mul, a1m, qs_eq, qs_nc, qs_ni, qs_nk, bq_l, bq_r, bq_l', bq_r', bq_t, bq_f, bq_t', bq_f', bq_n, bq_m, iT, iS, iN, true_and, and_true, eq_self, not_true_eq_false, not_false_eq_true, forall_const, bx_t, bx_f, reduceCtorEq, Option.some.injEq, forall_eq', ite_true, ite_false]
    exact g
theorem sp_number0 {t p k : Nat} {a : qa} {post : Int32 → qa → Prop} (h47 : a 11 0 47 = nI k) (hk : 1 ≤ k) (hk2 : k ≤ 2) (kk : post (nI 0) a) : wp_X11_number t p a post := by
  unfold wp_X11_number
  refine sp_ill h47 hk hk2 ?_
  simp (disch := first | assumption | omega) only [wl_X11_number_20, l0, l1, l2, l3, l4, l5, l6, l7, l8, l9, l10, l20, l60, l61, l62, bb_t, bb_f, l100, l120, l512, l400, l401, l700, l9999, nm1, lm1, nlt, nle, neq, glt, gle, lgt, lge, geq, egq, mI_l, mI_e, e_mI, l_mI, le_mI, mI_le, bI_z, nC, vnI, nI_add, nI_sb, nI_mul, a1m, qs_eq, qs_nc, qs_ni, qs_nk, bq_l, bq_r, bq_l', bq_r', bq_t, bq_f, bq_t', bq_f', bq_n, bq_m, iT, iS, iN, true_and, and_true, eq_self, not_true_eq_false, not_false_eq_true, forall_const, bx_t, bx_f, reduceCtorEq, Option.some.injEq, forall_eq', ite_true, ite_false]
  refine sp_ill h47 hk hk2 ?_
  simp (disch := first | assumption | omega) only [l0, l1, l2, l3, l4, l5, l6, l7, l8, l9, l10, l20, l60, l61, l62, bb_t, bb_f, l100, l120, l512, l400, l401, l700, l9999, nm1, lm1, nlt, nle, neq, glt, gle, lgt, lge, geq, egq, mI_l, mI_e, e_mI, l_mI, le_mI, mI_le, bI_z, nC, vnI, nI_add, nI_sb, nI_mul, a1m, qs_eq, qs_nc, qs_ni, qs_nk, bq_l, bq_r, bq_l', bq_r', bq_t, bq_f, bq_t', bq_f', bq_n, bq_m, iT, iS, iN, true_and, and_true, eq_self, not_true_eq_false, not_false_eq_true, forall_const, bx_t, bx_f, reduceCtorEq, Option.some.injEq, forall_eq', ite_true, ite_false]
  exact kk
theorem sp_want7 {t p T n : Nat} {f : Nat → Nat} {a : qa} {post : qa → Prop} (h : MP f T a) (h47 : a 11 0 47 = nI 0) (hm : MS f T n a) (k1 : TT f T n = 7 → ∀ a', Nx a a' → MS f T (n + 1) a' → post a') (k0 : ¬ TT f T n = 7 → post (fm f T a 1 n)) : wp_X11_want t p 58 a post := by
  unfold wp_X11_want
  refine sp_well h47 ?_
  simp (disch := first | assumption | omega) only [l0, l1, l2, l3, l4, l5, l6, l7, l8, l9, l10, l20, l60, l61, l62, bb_t, bb_f, l100, l120, l512, l400, l401, l700, l9999, nm1, lm1, nlt, nle, neq, glt, gle, lgt, lge, geq, egq, mI_l, mI_e, e_mI, l_mI, le_mI, mI_le, bI_z, nC, vnI, nI_add, nI_sb, nI_mul, a1m, qs_eq, qs_nc, qs_ni, qs_nk, bq_l, bq_r, bq_l', bq_r', bq_t, bq_f, bq_t', bq_f', bq_n, bq_m, iT, iS, iN, true_and, and_true, eq_self, not_true_eq_false, not_false_eq_true, forall_const, bx_t, bx_f, reduceCtorEq, Option.some.injEq, forall_eq', ite_true, ite_false]
  refine sp_is7 h.f hm (fun c => ?_) (fun c => ?_)
  · simp (disch := first | assumption | omega) only [l0, l1, l2, l3, l4, l5, l6, l7, l8, l9, l10, l20, l60, l61, l62, bb_t, bb_f, l100, l120, l512, l400, l401, l700, l9999, nm1, lm1, nlt, nle, neq, glt, gle, lgt, lge, geq, egq, mI_l, mI_e, e_mI, l_mI, le_mI, mI_le, bI_z, nC, vnI, nI_add, nI_sb, nI_mul, a1m, qs_eq, qs_nc, qs_ni, qs_nk, bq_l, bq_r, bq_l', bq_r', bq_t, bq_f, bq_t', bq_f', bq_n, bq_m, iT, iS, iN, true_and, and_true, eq_self, not_true_eq_false, not_false_eq_true, forall_const, bx_t, bx_f, reduceCtorEq, Option.some.injEq, forall_eq', ite_true, ite_false]
    exact sp_mnext h hm (k1 c)
  · simp (disch := first | assumption | omega) only [l0, l1, l2, l3, l4, l5, l6, l7, l8, l9, l10, l20, l60, l61, l62, bb_t, bb_f, l100, l120, l512, l400, l401, l700, l9999, nm1, lm1, nlt, nle, neq, glt, gle, lgt, lge, geq, egq, mI_l, mI_e, e_mI, l_mI, le_mI, mI_le, bI_z, nC, vnI, nI_add, nI_sb, nI_mul, a1m, qs_eq, qs_nc, qs_ni, qs_nk, bq_l, bq_r, bq_l', bq_r', bq_t, bq_f, bq_t', bq_f', bq_n, bq_m, iT, iS, iN, true_and, and_true, eq_self, not_true_eq_false, not_false_eq_true, forall_const, bx_t, bx_f, reduceCtorEq, Option.some.injEq, forall_eq', ite_true, ite_false]
    exact sp_fails (k := 1) h47 hm (k0 c)
theorem sp_want8 {t p T n : Nat} {f : Nat → Nat} {a : qa} {post : qa → Prop} (h : MP f T a) (h47 : a 11 0 47 = nI 0) (hm : MS f T n a) (k1 : TT f T n = 8 → ∀ a', Nx a a' → MS f T (n + 1) a' → post a') (k0 : ¬ TT f T n = 8 → post (fm f T a 1 n)) : wp_X11_want t p 59 a post := by
  unfold wp_X11_want
  refine sp_well h47 ?_
  simp (disch := first | assumption | omega) only [l0, l1, l2, l3, l4, l5, l6, l7, l8, l9, l10, l20, l60, l61, l62, bb_t, bb_f, l100, l120, l512, l400, l401, l700, l9999, nm1, lm1, nlt, nle, neq, glt, gle, lgt, lge, geq, egq, mI_l, mI_e, e_mI, l_mI, le_mI, mI_le, bI_z, nC, vnI, nI_add, nI_sb, nI_mul, a1m, qs_eq, qs_nc, qs_ni, qs_nk, bq_l, bq_r, bq_l', bq_r', bq_t, bq_f, bq_t', bq_f', bq_n, bq_m, iT, iS, iN, true_and, and_true, eq_self, not_true_eq_false, not_false_eq_true, forall_const, bx_t, bx_f, reduceCtorEq, Option.some.injEq, forall_eq', ite_true, ite_false]
  refine sp_is8 h.f hm (fun c => ?_) (fun c => ?_)
  · simp (disch := first | assumption | omega) only [l0, l1, l2, l3, l4, l5, l6, l7, l8, l9, l10, l20, l60, l61, l62, bb_t, bb_f, l100, l120, l512, l400, l401, l700, l9999, nm1, lm1, nlt, nle, neq, glt, gle, lgt, lge, geq, egq, mI_l, mI_e, e_mI, l_mI, le_mI, mI_le, bI_z, nC, vnI, nI_add, nI_sb, nI_mul, a1m, qs_eq, qs_nc, qs_ni, qs_nk, bq_l, bq_r, bq_l', bq_r', bq_t, bq_f, bq_t', bq_f', bq_n, bq_m, iT, iS, iN, true_and, and_true, eq_self, not_true_eq_false, not_false_eq_true, forall_const, bx_t, bx_f, reduceCtorEq, Option.some.injEq, forall_eq', ite_true, ite_false]
    exact sp_mnext h hm (k1 c)
  · simp (disch := first | assumption | omega) only [l0, l1, l2, l3, l4, l5, l6, l7, l8, l9, l10, l20, l60, l61, l62, bb_t, bb_f, l100, l120, l512, l400, l401, l700, l9999, nm1, lm1, nlt, nle, neq, glt, gle, lgt, lge, geq, egq, mI_l, mI_e, e_mI, l_mI, le_mI, mI_le, bI_z, nC, vnI, nI_add, nI_sb, nI_mul, a1m, qs_eq, qs_nc, qs_ni, qs_nk, bq_l, bq_r, bq_l', bq_r', bq_t, bq_f, bq_t', bq_f', bq_n, bq_m, iT, iS, iN, true_and, and_true, eq_self, not_true_eq_false, not_false_eq_true, forall_const, bx_t, bx_f, reduceCtorEq, Option.some.injEq, forall_eq', ite_true, ite_false]
    exact sp_fails (k := 1) h47 hm (k0 c)
theorem sp_want0 {t p k : Nat} {x : Int32} {a : qa} {post : qa → Prop} (h47 : a 11 0 47 = nI k) (hk : 1 ≤ k) (hk2 : k ≤ 2) (kk : post a) : wp_X11_want t p x a post := by
  unfold wp_X11_want
  refine sp_ill h47 hk hk2 ?_
  simp (disch := first | assumption | omega) only [l0, l1, l2, l3, l4, l5, l6, l7, l8, l9, l10, l20, l60, l61, l62, bb_t, bb_f, l100, l120, l512, l400, l401, l700, l9999, nm1, lm1, nlt, nle, neq, glt, gle, lgt, lge, geq, egq, mI_l, mI_e, e_mI, l_mI, le_mI, mI_le, bI_z, nC, vnI, nI_add, nI_sb, nI_mul, a1m, qs_eq, qs_nc, qs_ni, qs_nk, bq_l, bq_r, bq_l', bq_r', bq_t, bq_f, bq_t', bq_f', bq_n, bq_m, iT, iS, iN, true_and, and_true, eq_self, not_true_eq_false, not_false_eq_true, forall_const, bx_t, bx_f, reduceCtorEq, Option.some.injEq, forall_eq', ite_true, ite_false]
  exact kk
