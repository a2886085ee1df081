def KM (R : Nat) (a a' : qa) : Prop := ∀ c i k, ¬ ((c = 11 ∧ i = 0 ∧ 43 ≤ k ∧ k ≤ 48) ∨ (c = 73 ∧ i = 0 ∧ k = 10) ∨ ((c = 74 ∨ c = 75) ∧ i = 0 ∧ R ≤ k) ∨ ((76 ≤ c ∧ c ≤ 78) ∧ i = 0 ∧ 4 * R ≤ k)) → a' c i k = a c i k
theorem KM.rf {R : Nat} (a : qa) : KM R a a := fun _ _ _ _ => rfl
theorem KM.tr {R : Nat} {a a1 a2 : qa} (h : KM R a a1) (h2 : KM R a1 a2) : KM R a a2 := fun c i k x => (h2 c i k x).trans (h c i k x)
theorem KM.nx {R : Nat} {a a1 a2 : qa} (h : KM R a a1) (h2 : Nx a1 a2) : KM R a a2 := fun c i k x => (h2 c i k (by omega)).trans (h c i k x)
theorem KM.q {R : Nat} {a a' : qa} (h : KM R a a') {c k : Nat} {x : Int32} (hc : (c = 11 ∧ 43 ≤ k ∧ k ≤ 48) ∨ (c = 73 ∧ k = 10) ∨ ((c = 74 ∨ c = 75) ∧ R ≤ k) ∨ ((76 ≤ c ∧ c ≤ 78) ∧ 4 * R ≤ k)) : KM R a (qs a' c 0 k x) := by
  intro d j n hn
  rw [← h d j n hn]
  unfold qs
  rw [if_neg (fun e => hn (by omega))]
theorem KM.le {R S : Nat} {a a' : qa} (h : KM R a a') (hs : S ≤ R) : KM S a a' := fun c i k x => h c i k (by omega)
theorem MP.km {f : Nat → Nat} {T R : Nat} {a a' : qa} (h : MP f T a) (hn : KM R a a') : MP f T a' := by
  refine ⟨h.1, ?_, fun j hj => ⟨(h.2.2 j hj).1, ?_⟩⟩
  · rw [hn 11 0 42 (by omega)]; exact h.2.1
  · rw [hn 71 0 j (by omega)]; exact (h.2.2 j hj).2
theorem fm_k {f : Nat → Nat} {T R k n : Nat} {a a' : qa} (h : KM R a a') : KM R a (fm f T a' k n) := (h.q (Or.inl ⟨rfl, by decide, by decide⟩)).q (Or.inl ⟨rfl, by decide, by decide⟩)
theorem MS.q {f : Nat → Nat} {T n c i k : Nat} {x : Int32} {a : qa} (h : MS f T n a) (hc : c ≠ 11) : MS f T n (qs a c i k x) := by
  unfold MS at h ⊢
  simp only [qs_nc (Ne.symm hc)]
  exact h
def MRT (f : Nat → Nat) (T R j m q : Nat) (a a' : qa) : Prop := a' 74 0 R = nI (j + m) ∧ a' 73 0 10 = a 73 0 10 ∧ (∀ k, k < 4 * R + j → a' 76 0 k = a 76 0 k ∧ a' 77 0 k = a 77 0 k ∧ a' 78 0 k = a 78 0 k) ∧ ∀ i, i < m → tmM f T (tj f T i q) (a' 76 0 (4 * R + j + i)) (a' 77 0 (4 * R + j + i)) (a' 78 0 (4 * R + j + i))
theorem MRT_tr {f : Nat → Nat} {T R j m q : Nat} {a a1 a2 : qa} (h1 : MRT f T R j 1 q a a1) (h2 : MRT f T R (j + 1) m (tnx f T q + 1) a1 a2) : MRT f T R j (m + 1) q a a2 := by
  obtain ⟨p1, p2, p3, p4⟩ := h1
  obtain ⟨r1, r2, r3, r4⟩ := h2
  refine ⟨by rw [r1, show j + 1 + m = j + (m + 1) by omega], r2.trans p2, fun k hk => ?_, fun i hi => ?_⟩
  · obtain ⟨x1, x2, x3⟩ := r3 k (by omega)
    obtain ⟨y1, y2, y3⟩ := p3 k hk
    exact ⟨x1.trans y1, x2.trans y2, x3.trans y3⟩
  · cases i with
    | zero =>
      obtain ⟨x1, x2, x3⟩ := r3 (4 * R + j) (by omega)
      have := p4 0 (by omega)
      rw [Nat.add_zero (4 * R + j)] at this ⊢
      rw [x1, x2, x3]
      exact this
    | succ i =>
      have := r4 i (by omega)
      rw [show 4 * R + (j + 1) + i = 4 * R + j + (i + 1) by omega] at this
      exact this
theorem MRT_nx {f : Nat → Nat} {T R j m q : Nat} {a a0 a1 : qa} (h1 : MRT f T R j m q a0 a) (h : Nx a a1) : MRT f T R j m q a0 a1 := by
  have e : ∀ c k, c ≠ 11 → a1 c 0 k = a c 0 k := fun c k hc => h c 0 k (by omega)
  unfold MRT
  simp only [e 73 _ (by decide), e 74 _ (by decide), e 76 _ (by decide), e 77 _ (by decide), e 78 _ (by decide)]
  exact h1
set_option maxHeartbeats 8000000 in
theorem sp_mterm {t p T n R j : Nat} {f : Nat → Nat} {a : qa} {post : qa → Prop} (h : MP f T a) (h47 : a 11 0 47 = nI 0) (hm : MS f T n a) (hR : R < 220) (hj : j ≤ 4) (h74 : a 74 0 R = nI j) (kA : ¬ (TT f T n = 3 ∨ TT f T n = 4) → post (fm f T a 1 n)) (kB : TT f T n = 3 ∨ TT f T n = 4 → j = 4 → post (fm f T a 2 n)) (kC : j < 4 → tok f T n = true → ∀ a', KM R a a' → a' 11 0 47 = nI 0 → MS f T (tnx f T n) a' → MRT f T R j 1 n a a' → post a') (kD : j < 4 → tok f T n = false → ∀ a', KM R a a' → FQ f T 1 (tfp f T n) a' → post a') : wp_X11_term t p (nI R) a post := by
  unfold wp_X11_term
  refine sp_word h hm ?_
  have hw : ¬ (TT f T n = 3 ∨ TT f T n = 4) → wd f T n = mI := by
    intro c
    unfold wd
    rw [if_neg (by omega), if_neg (by omega)]
  by_cases c34 : TT f T n = 3 ∨ TT f T n = 4
  rotate_left 1
  · rw [hw c34]
    simp (disch := first | assumption | omega) only [l0, l1, l2, l3, l4, l5, l6, l7, l8, l9, l10, l20, l60, l61, l62, bb_t, bb_f, l100, l120, l512, l400, l401, l700, l9999, nm1, lm1, nlt, nle, neq, glt, gle, lgt, lge, geq, egq, mI_l, mI_e, e_mI, l_mI, le_mI, mI_le, bI_z, nC, vnI, nI_add, nI_sb, nI_mul, a1m, qs_eq, qs_nc, qs_ni, qs_nk, bq_l, bq_r, bq_l', bq_r', bq_t, bq_f, bq_t', bq_f', bq_n, bq_m, iT, iS, iN, true_and, and_true, eq_self, not_true_eq_false, not_false_eq_true, forall_const, bx_t, bx_f, reduceCtorEq, Option.some.injEq, forall_eq', ite_true, ite_false]
    exact sp_fails (k := 1) h47 hm (kA c34)
  have hv : ∃ w, w ≤ 6 ∧ wd f T n = nI w ∧ ((TT f T n = 3 ∧ w < 4) ∨ (TT f T n = 4 ∧ 4 ≤ w)) := by
    rcases wd_c (n := n) h.f with ⟨q1, q2, k, q3, q4⟩ | ⟨q1, q2, k, q3, q4⟩ | ⟨q, _⟩
    · exact ⟨k, by omega, by rw [q2, q4], Or.inl ⟨q1, by omega⟩⟩
    · exact ⟨k + 4, by omega, by rw [q2, q4, nI_add], Or.inr ⟨q1, by omega⟩⟩
    · exact absurd c34 q
  obtain ⟨w, hw6, ew, hwt⟩ := hv
  by_cases c4 : j = 4
  · have g := kB c34 c4
    rw [ew]
    simp (disch := first | assumption | omega) only [h74, l0, l1, l2, l3, l4, l5, l6, l7, l8, l9, l10, l20, l60, l61, l62, bb_t, bb_f, l100, l120, l512, l400, l401, l700, l9999, nm1, lm1, nlt, nle, neq, glt, gle, lgt, lge, geq, egq, mI_l, mI_e, e_mI, l_mI, le_mI, mI_le, bI_z, nC, vnI, nI_add, nI_sb, nI_mul, a1m, qs_eq, qs_nc, qs_ni, qs_nk, bq_l, bq_r, bq_l', bq_r', bq_t, bq_f, bq_t', bq_f', bq_n, bq_m, iT, iS, iN, true_and, and_true, eq_self, not_true_eq_false, not_false_eq_true, forall_const, bx_t, bx_f, reduceCtorEq, Option.some.injEq, forall_eq', ite_true, ite_false]
    exact sp_fails (k := 2) h47 hm g
  have hmm := hm
  rw [ew]
  simp (disch := first | assumption | omega) only [h74, l0, l1, l2, l3, l4, l5, l6, l7, l8, l9, l10, l20, l60, l61, l62, bb_t, bb_f, l100, l120, l512, l400, l401, l700, l9999, nm1, lm1, nlt, nle, neq, glt, gle, lgt, lge, geq, egq, mI_l, mI_e, e_mI, l_mI, le_mI, mI_le, bI_z, nC, vnI, nI_add, nI_sb, nI_mul, a1m, qs_eq, qs_nc, qs_ni, qs_nk, bq_l, bq_r, bq_l', bq_r', bq_t, bq_f, bq_t', bq_f', bq_n, bq_m, iT, iS, iN, true_and, and_true, eq_self, not_true_eq_false, not_false_eq_true, forall_const, bx_t, bx_f, reduceCtorEq, Option.some.injEq, forall_eq', ite_true, ite_false]
  have kb1 : KM R a (qs (qs a 74 0 R (nI (j + 1))) 76 0 (4 * R + j) (nI w)) := ((KM.rf a).q (Or.inr (Or.inr (Or.inl ⟨Or.inl rfl, Nat.le_refl _⟩)))).q (Or.inr (Or.inr (Or.inr ⟨⟨by decide, by decide⟩, by omega⟩)))
  refine sp_mnext (n := n) (h.km kb1) ((hm.q (by decide)).q (by decide)) (fun a1 b1 b2 => ?_)
  have kb2 := kb1.nx b1
  have f47 : a1 11 0 47 = nI 0 := by
    rw [b1 11 0 47 (by omega), qs_nc (by decide), qs_nc (by decide)]; exact h47
  have f74 : a1 74 0 R = nI (j + 1) := by
    rw [b1 74 0 R (by omega), qs_nc (by decide), qs_eq]
  have f73 : a1 73 0 10 = a 73 0 10 := by
    rw [b1 73 0 10 (by omega), qs_nc (by decide), qs_nc (by decide)]
  have f76 : a1 76 0 (4 * R + j) = nI w := by
    rw [b1 76 0 _ (by omega), qs_eq]
  have fo : ∀ k, k < 4 * R + j → a1 76 0 k = a 76 0 k ∧ a1 77 0 k = a 77 0 k ∧ a1 78 0 k = a 78 0 k := by
    intro k hk
    rw [b1 76 0 k (by omega), b1 77 0 k (by omega), b1 78 0 k (by omega), qs_nk (by omega), qs_nc (by decide), qs_nc (by decide), qs_nc (by decide), qs_nc (by decide), qs_nc (by decide)]
    exact ⟨rfl, rfl, rfl⟩
  rcases hwt with ⟨c3, w4⟩ | ⟨c4', w4⟩
  · have eT : tok f T n = true := decide_eq_true (Or.inl c3)
    have eN : tnx f T n = n + 1 := if_pos c3
    have hV : VV f T n = nI w := by
      rw [← ew]; unfold wd; rw [if_pos c3]
    have g := kC (by omega) eT a1 kb2 f47 (by rw [eN]; exact b2) ⟨f74, f73, fo, fun i hi => by
      obtain rfl : i = 0 := by omega
      rw [Nat.add_zero (4 * R + j), f76]
      exact Or.inl ⟨c3, hV.symm⟩⟩
    try simp (disch := first | assumption | omega) only [l0, l1, l2, l3, l4, l5, l6, l7, l8, l9, l10, l20, l60, l61, l62, bb_t, bb_f, l100, l120, l512, l400, l401, l700, l9999, nm1, lm1, nlt, nle, neq, glt, gle, lgt, lge, geq, egq, mI_l, mI_e, e_mI, l_mI, le_mI, mI_le, bI_z, nC, vnI, nI_add, nI_sb, nI_mul, a1m, qs_eq, qs_nc, qs_ni, qs_nk, bq_l, bq_r, bq_l', bq_r', bq_t, bq_f, bq_t', bq_f', bq_n, bq_m, iT, iS, iN, true_and, and_true, eq_self, not_true_eq_false, not_false_eq_true, forall_const, bx_t, bx_f, reduceCtorEq, Option.some.injEq, forall_eq', ite_true, ite_false]
    exact g
  have c3 : ¬ TT f T n = 3 := by omega
  have hV : nI w = VV f T n + nI 4 := by
    rw [← ew]; unfold wd; rw [if_neg c3, if_pos c4']
  have h1 := h.km kb2
  have go : TT f T (n + 1) = 6 → wl_X11_term_103 t p post (nI (4 * R + j)) a1 := by
    intro c6
    obtain ⟨q1, q2⟩ := TT6 h.f c6
    have e46 := b2.2.2.2 (Or.inr q1)
    simp (disch := first | assumption | omega) only [wl_X11_term_103, e46, l0, l1, l2, l3, l4, l5, l6, l7, l8, l9, l10, l20, l60, l61, l62, bb_t, bb_f, l100, l120, l512, l400, l401, l700, l9999, nm1, lm1, nlt, nle, neq, glt, gle, lgt, lge, geq, egq, mI_l, mI_e, e_mI, l_mI, le_mI, mI_le, bI_z, nC, vnI, nI_add, nI_sb, nI_mul, a1m, qs_eq, qs_nc, qs_ni, qs_nk, bq_l, bq_r, bq_l', bq_r', bq_t, bq_f, bq_t', bq_f', bq_n, bq_m, iT, iS, iN, true_and, and_true, eq_self, not_true_eq_false, not_false_eq_true, forall_const, bx_t, bx_f, reduceCtorEq, Option.some.injEq, forall_eq', ite_true, ite_false]
    have kb3 : KM R a (qs a1 77 0 (4 * R + j) (VV f T (n + 1))) := kb2.q (Or.inr (Or.inr (Or.inr ⟨⟨by decide, by decide⟩, by omega⟩)))
    refine sp_mnext (n := n + 1) (h.km kb3) (b2.q (by decide)) (fun a2 d1 d2 => ?_)
    have kb4 := kb3.nx d1
    have g47 : a2 11 0 47 = nI 0 := by
      rw [d1 11 0 47 (by omega), qs_nc (by decide)]; exact f47
    have g77 : a2 77 0 (4 * R + j) = VV f T (n + 1) := by
      rw [d1 77 0 _ (by omega), qs_eq]
    refine sp_number (n := n + 2) (h.km kb4) g47 d2 (fun c2 a3 e1 e2 => ?_) (fun c2 => ?_)
    · have kb5 : KM R a (qs a3 78 0 (4 * R + j) (VV f T (n + 2))) := (kb4.nx e1).q (Or.inr (Or.inr (Or.inr ⟨⟨by decide, by decide⟩, by omega⟩)))
      have eT : tok f T n = true := decide_eq_true (Or.inr ⟨c4', c6, c2⟩)
      have eN : tnx f T n = n + 3 := if_neg c3
      have g := kC (by omega) eT _ kb5 (by rw [qs_nc (by decide), e1 11 0 47 (by omega)]; exact g47) (by rw [eN]; exact e2.q (by decide)) (by
        refine ⟨?_, ?_, fun k hk => ⟨?_, ?_, ?_⟩, fun i hi => ?_⟩
        · rw [qs_nc (by decide), e1 74 0 R (by omega), d1 74 0 R (by omega), qs_nc (by decide)]; exact f74
        · rw [qs_nc (by decide), e1 73 0 10 (by omega), d1 73 0 10 (by omega), qs_nc (by decide)]; exact f73
        · rw [qs_nc (by decide), e1 76 0 k (by omega), d1 76 0 k (by omega), qs_nc (by decide)]; exact (fo k hk).1
        · rw [qs_nc (by decide), e1 77 0 k (by omega), d1 77 0 k (by omega), qs_nk (by omega)]; exact (fo k hk).2.1
        · rw [qs_nk (by omega), e1 78 0 k (by omega), d1 78 0 k (by omega), qs_nc (by decide)]; exact (fo k hk).2.2
        · obtain rfl : i = 0 := by omega
          rw [Nat.add_zero (4 * R + j)]
          refine Or.inr ⟨c4', ?_, ?_, ?_⟩
          · rw [qs_nc (by decide), e1 76 0 _ (by omega), d1 76 0 _ (by omega), qs_nc (by decide), f76]; exact hV
          · rw [qs_nc (by decide), e1 77 0 _ (by omega)]; exact g77
          · rw [qs_eq]; rfl)
      try simp (disch := first | assumption | omega) only [l0, l1, l2, l3, l4, l5, l6, l7, l8, l9, l10, l20, l60, l61, l62, bb_t, bb_f, l100, l120, l512, l400, l401, l700, l9999, nm1, lm1, nlt, nle, neq, glt, gle, lgt, lge, geq, egq, mI_l, mI_e, e_mI, l_mI, le_mI, mI_le, bI_z, nC, vnI, nI_add, nI_sb, nI_mul, a1m, qs_eq, qs_nc, qs_ni, qs_nk, bq_l, bq_r, bq_l', bq_r', bq_t, bq_f, bq_t', bq_f', bq_n, bq_m, iT, iS, iN, true_and, and_true, eq_self, not_true_eq_false, not_false_eq_true, forall_const, bx_t, bx_f, reduceCtorEq, Option.some.injEq, forall_eq', ite_true, ite_false]
      exact g
    · have eT : tok f T n = false := decide_eq_false (by omega)
      have eF : tfp f T n = n + 2 := by unfold tfp; rw [if_pos c4', if_pos c6]
      have g := kD (by omega) eT (qs (fm f T a2 1 (n + 2)) 78 0 (4 * R + j) (nI 0)) ((fm_k kb4).q (Or.inr (Or.inr (Or.inr ⟨⟨by decide, by decide⟩, by omega⟩)))) (by
        rw [eF]
        exact ⟨by rw [qs_nc (by decide)]; exact fm_q.1, by rw [qs_nc (by decide)]; exact fm_q.2⟩)
      try simp (disch := first | assumption | omega) only [l0, l1, l2, l3, l4, l5, l6, l7, l8, l9, l10, l20, l60, l61, l62, bb_t, bb_f, l100, l120, l512, l400, l401, l700, l9999, nm1, lm1, nlt, nle, neq, glt, gle, lgt, lge, geq, egq, mI_l, mI_e, e_mI, l_mI, le_mI, mI_le, bI_z, nC, vnI, nI_add, nI_sb, nI_mul, a1m, qs_eq, qs_nc, qs_ni, qs_nk, bq_l, bq_r, bq_l', bq_r', bq_t, bq_f, bq_t', bq_f', bq_n, bq_m, iT, iS, iN, true_and, and_true, eq_self, not_true_eq_false, not_false_eq_true, forall_const, bx_t, bx_f, reduceCtorEq, Option.some.injEq, forall_eq', ite_true, ite_false]
      exact g
  simp (disch := first | assumption | omega) only [l0, l1, l2, l3, l4, l5, l6, l7, l8, l9, l10, l20, l60, l61, l62, bb_t, bb_f, l100, l120, l512, l400, l401, l700, l9999, nm1, lm1, nlt, nle, neq, glt, gle, lgt, lge, geq, egq, mI_l, mI_e, e_mI, l_mI, le_mI, mI_le, bI_z, nC, vnI, nI_add, nI_sb, nI_mul, a1m, qs_eq, qs_nc, qs_ni, qs_nk, bq_l, bq_r, bq_l', bq_r', bq_t, bq_f, bq_t', bq_f', bq_n, bq_m, iT, iS, iN, true_and, and_true, eq_self, not_true_eq_false, not_false_eq_true, forall_const, bx_t, bx_f, reduceCtorEq, Option.some.injEq, forall_eq', ite_true, ite_false]
  refine sp_isv (n := n + 1) (c := 60) h.f b2 (by decide) (by decide) (fun c6 => ?_) (fun x60 => ?_)
  · simp (disch := first | assumption | omega) only [l0, l1, l2, l3, l4, l5, l6, l7, l8, l9, l10, l20, l60, l61, l62, bb_t, bb_f, l100, l120, l512, l400, l401, l700, l9999, nm1, lm1, nlt, nle, neq, glt, gle, lgt, lge, geq, egq, mI_l, mI_e, e_mI, l_mI, le_mI, mI_le, bI_z, nC, vnI, nI_add, nI_sb, nI_mul, a1m, qs_eq, qs_nc, qs_ni, qs_nk, bq_l, bq_r, bq_l', bq_r', bq_t, bq_f, bq_t', bq_f', bq_n, bq_m, iT, iS, iN, true_and, and_true, eq_self, not_true_eq_false, not_false_eq_true, forall_const, bx_t, bx_f, reduceCtorEq, Option.some.injEq, forall_eq', ite_true, ite_false]
    exact go c6
  simp (disch := first | assumption | omega) only [l0, l1, l2, l3, l4, l5, l6, l7, l8, l9, l10, l20, l60, l61, l62, bb_t, bb_f, l100, l120, l512, l400, l401, l700, l9999, nm1, lm1, nlt, nle, neq, glt, gle, lgt, lge, geq, egq, mI_l, mI_e, e_mI, l_mI, le_mI, mI_le, bI_z, nC, vnI, nI_add, nI_sb, nI_mul, a1m, qs_eq, qs_nc, qs_ni, qs_nk, bq_l, bq_r, bq_l', bq_r', bq_t, bq_f, bq_t', bq_f', bq_n, bq_m, iT, iS, iN, true_and, and_true, eq_self, not_true_eq_false, not_false_eq_true, forall_const, bx_t, bx_f, reduceCtorEq, Option.some.injEq, forall_eq', ite_true, ite_false]
  refine sp_isv (n := n + 1) (c := 61) h.f b2 (by decide) (by decide) (fun c6 => ?_) (fun x61 => ?_)
  · simp (disch := first | assumption | omega) only [l0, l1, l2, l3, l4, l5, l6, l7, l8, l9, l10, l20, l60, l61, l62, bb_t, bb_f, l100, l120, l512, l400, l401, l700, l9999, nm1, lm1, nlt, nle, neq, glt, gle, lgt, lge, geq, egq, mI_l, mI_e, e_mI, l_mI, le_mI, mI_le, bI_z, nC, vnI, nI_add, nI_sb, nI_mul, a1m, qs_eq, qs_nc, qs_ni, qs_nk, bq_l, bq_r, bq_l', bq_r', bq_t, bq_f, bq_t', bq_f', bq_n, bq_m, iT, iS, iN, true_and, and_true, eq_self, not_true_eq_false, not_false_eq_true, forall_const, bx_t, bx_f, reduceCtorEq, Option.some.injEq, forall_eq', ite_true, ite_false]
    exact go c6
  simp (disch := first | assumption | omega) only [l0, l1, l2, l3, l4, l5, l6, l7, l8, l9, l10, l20, l60, l61, l62, bb_t, bb_f, l100, l120, l512, l400, l401, l700, l9999, nm1, lm1, nlt, nle, neq, glt, gle, lgt, lge, geq, egq, mI_l, mI_e, e_mI, l_mI, le_mI, mI_le, bI_z, nC, vnI, nI_add, nI_sb, nI_mul, a1m, qs_eq, qs_nc, qs_ni, qs_nk, bq_l, bq_r, bq_l', bq_r', bq_t, bq_f, bq_t', bq_f', bq_n, bq_m, iT, iS, iN, true_and, and_true, eq_self, not_true_eq_false, not_false_eq_true, forall_const, bx_t, bx_f, reduceCtorEq, Option.some.injEq, forall_eq', ite_true, ite_false]
  refine sp_isv (n := n + 1) (c := 62) h.f b2 (by decide) (by decide) (fun c6 => ?_) (fun x62 => ?_)
  · simp (disch := first | assumption | omega) only [l0, l1, l2, l3, l4, l5, l6, l7, l8, l9, l10, l20, l60, l61, l62, bb_t, bb_f, l100, l120, l512, l400, l401, l700, l9999, nm1, lm1, nlt, nle, neq, glt, gle, lgt, lge, geq, egq, mI_l, mI_e, e_mI, l_mI, le_mI, mI_le, bI_z, nC, vnI, nI_add, nI_sb, nI_mul, a1m, qs_eq, qs_nc, qs_ni, qs_nk, bq_l, bq_r, bq_l', bq_r', bq_t, bq_f, bq_t', bq_f', bq_n, bq_m, iT, iS, iN, true_and, and_true, eq_self, not_true_eq_false, not_false_eq_true, forall_const, bx_t, bx_f, reduceCtorEq, Option.some.injEq, forall_eq', ite_true, ite_false]
    exact go c6
  simp (disch := first | assumption | omega) only [l0, l1, l2, l3, l4, l5, l6, l7, l8, l9, l10, l20, l60, l61, l62, bb_t, bb_f, l100, l120, l512, l400, l401, l700, l9999, nm1, lm1, nlt, nle, neq, glt, gle, lgt, lge, geq, egq, mI_l, mI_e, e_mI, l_mI, le_mI, mI_le, bI_z, nC, vnI, nI_add, nI_sb, nI_mul, a1m, qs_eq, qs_nc, qs_ni, qs_nk, bq_l, bq_r, bq_l', bq_r', bq_t, bq_f, bq_t', bq_f', bq_n, bq_m, iT, iS, iN, true_and, and_true, eq_self, not_true_eq_false, not_false_eq_true, forall_const, bx_t, bx_f, reduceCtorEq, Option.some.injEq, forall_eq', ite_true, ite_false]
  have c6 : ¬ TT f T (n + 1) = 6 := by
    intro c6
    rcases (TT6 h.f c6).2 with q | q | q
    · exact x60 ⟨c6, q⟩
    · exact x61 ⟨c6, q⟩
    · exact x62 ⟨c6, q⟩
  have eT : tok f T n = false := decide_eq_false (by omega)
  have eF : tfp f T n = n + 1 := by unfold tfp; rw [if_pos c4', if_neg c6]
  refine sp_fails (k := 1) f47 b2 ?_
  exact kD (by omega) eT _ (fm_k kb2) (by rw [eF]; exact fm_q)
set_option maxHeartbeats 4000000 in
theorem sl_mterms {t p T R : Nat} {f : Nat → Nat} {post : qa → Prop} (hR : R < 220) : ∀ (d q : Nat) (a : qa), d ≤ 4 → MP f T a → a 11 0 47 = nI 0 → MS f T q a → a 74 0 R = nI (4 - d) → ((ph f T d q).1 = 0 → ∀ a', KM R a a' → a' 11 0 47 = nI 0 → MS f T (ph f T d q).2.1 a' → MRT f T R (4 - d) (ph f T d q).2.2 q a a' → ∀ n, wl_X11_rule_86 t p post (n + 1) (nI R) (nI 0) a') → (¬ (ph f T d q).1 = 0 → ∀ a', KM R a a' → FQ f T (ph f T d q).1 (ph f T d q).2.1 a' → ∀ n, wl_X11_rule_86 t p post (n + 1) (nI R) (nI 0) a') → wl_X11_rule_86 t p post (d + 2) (nI R) (nI 1) a := by
  intro d
  induction d with
  | zero =>
    intro q a hd h h47 hm h74 k1 k0
    unfold wl_X11_rule_86
    have n4 : nI (4 - 0) = nI 4 := rfl
    rw [n4] at h74
    simp (disch := first | assumption | omega) only [l0, l1, l2, l3, l4, l5, l6, l7, l8, l9, l10, l20, l60, l61, l62, bb_t, bb_f, l100, l120, l512, l400, l401, l700, l9999, nm1, lm1, nlt, nle, neq, glt, gle, lgt, lge, geq, egq, mI_l, mI_e, e_mI, l_mI, le_mI, mI_le, bI_z, nC, vnI, nI_add, nI_sb, nI_mul, a1m, qs_eq, qs_nc, qs_ni, qs_nk, bq_l, bq_r, bq_l', bq_r', bq_t, bq_f, bq_t', bq_f', bq_n, bq_m, iT, iS, iN, true_and, and_true, eq_self, not_true_eq_false, not_false_eq_true, forall_const, bx_t, bx_f, reduceCtorEq, Option.some.injEq, forall_eq', ite_true, ite_false]
    refine sp_mterm (j := 4) h h47 hm hR (by decide) h74 (fun x => ?_) (fun x _ => ?_) (fun x => by omega) (fun x => by omega)
    · have e : ph f T 0 q = (1, q, 0) := by unfold ph; rw [if_neg x]
      have g := k0 (by rw [e]; exact Nat.succ_ne_zero _) (fm f T a 1 q) (fm_k (KM.rf a)) (by rw [e]; exact fm_q) 0
      refine sp_ill (k := 1) fm_q.1 (by decide) (by decide) ?_
      simp (disch := first | assumption | omega) only [wl_X11_rule_116, l0, l1, l2, l3, l4, l5, l6, l7, l8, l9, l10, l20, l60, l61, l62, bb_t, bb_f, l100, l120, l512, l400, l401, l700, l9999, nm1, lm1, nlt, nle, neq, glt, gle, lgt, lge, geq, egq, mI_l, mI_e, e_mI, l_mI, le_mI, mI_le, bI_z, nC, vnI, nI_add, nI_sb, nI_mul, a1m, qs_eq, qs_nc, qs_ni, qs_nk, bq_l, bq_r, bq_l', bq_r', bq_t, bq_f, bq_t', bq_f', bq_n, bq_m, iT, iS, iN, true_and, and_true, eq_self, not_true_eq_false, not_false_eq_true, forall_const, bx_t, bx_f, reduceCtorEq, Option.some.injEq, forall_eq', ite_true, ite_false]
      exact g
    · have e : ph f T 0 q = (2, q, 0) := by unfold ph; rw [if_pos x]
      have g := k0 (by rw [e]; exact Nat.succ_ne_zero _) (fm f T a 2 q) (fm_k (KM.rf a)) (by rw [e]; exact fm_q) 0
      refine sp_ill (k := 2) fm_q.1 (by decide) (by decide) ?_
      simp (disch := first | assumption | omega) only [wl_X11_rule_116, l0, l1, l2, l3, l4, l5, l6, l7, l8, l9, l10, l20, l60, l61, l62, bb_t, bb_f, l100, l120, l512, l400, l401, l700, l9999, nm1, lm1, nlt, nle, neq, glt, gle, lgt, lge, geq, egq, mI_l, mI_e, e_mI, l_mI, le_mI, mI_le, bI_z, nC, vnI, nI_add, nI_sb, nI_mul, a1m, qs_eq, qs_nc, qs_ni, qs_nk, bq_l, bq_r, bq_l', bq_r', bq_t, bq_f, bq_t', bq_f', bq_n, bq_m, iT, iS, iN, true_and, and_true, eq_self, not_true_eq_false, not_false_eq_true, forall_const, bx_t, bx_f, reduceCtorEq, Option.some.injEq, forall_eq', ite_true, ite_false]
      exact g
  | succ d ih =>
    intro q a hd h h47 hm h74 k1 k0
    unfold wl_X11_rule_86
    simp (disch := first | assumption | omega) only [l0, l1, l2, l3, l4, l5, l6, l7, l8, l9, l10, l20, l60, l61, l62, bb_t, bb_f, l100, l120, l512, l400, l401, l700, l9999, nm1, lm1, nlt, nle, neq, glt, gle, lgt, lge, geq, egq, mI_l, mI_e, e_mI, l_mI, le_mI, mI_le, bI_z, nC, vnI, nI_add, nI_sb, nI_mul, a1m, qs_eq, qs_nc, qs_ni, qs_nk, bq_l, bq_r, bq_l', bq_r', bq_t, bq_f, bq_t', bq_f', bq_n, bq_m, iT, iS, iN, true_and, and_true, eq_self, not_true_eq_false, not_false_eq_true, forall_const, bx_t, bx_f, reduceCtorEq, Option.some.injEq, forall_eq', ite_true, ite_false]
    refine sp_mterm (j := 4 - (d + 1)) h h47 hm hR (by omega) h74 (fun x => ?_) (fun x y => by omega) (fun _ eT a1 b1 b2 b3 b4 => ?_) (fun _ eT a1 b1 b2 => ?_)
    · have eT : tok f T q = false := decide_eq_false (by omega)
      have eF : tfp f T q = q := by unfold tfp; rw [if_neg (by omega)]
      have e : ph f T (d + 1) q = (1, tfp f T q, 0) := by rw [ph, if_neg (by rw [eT]; decide)]
      rw [e, eF] at k0
      have g := k0 (Nat.succ_ne_zero _) _ (fm_k (KM.rf a)) fm_q (d + 1)
      refine sp_ill (k := 1) fm_q.1 (by decide) (by decide) ?_
      simp (disch := first | assumption | omega) only [wl_X11_rule_116, l0, l1, l2, l3, l4, l5, l6, l7, l8, l9, l10, l20, l60, l61, l62, bb_t, bb_f, l100, l120, l512, l400, l401, l700, l9999, nm1, lm1, nlt, nle, neq, glt, gle, lgt, lge, geq, egq, mI_l, mI_e, e_mI, l_mI, le_mI, mI_le, bI_z, nC, vnI, nI_add, nI_sb, nI_mul, a1m, qs_eq, qs_nc, qs_ni, qs_nk, bq_l, bq_r, bq_l', bq_r', bq_t, bq_f, bq_t', bq_f', bq_n, bq_m, iT, iS, iN, true_and, and_true, eq_self, not_true_eq_false, not_false_eq_true, forall_const, bx_t, bx_f, reduceCtorEq, Option.some.injEq, forall_eq', ite_true, ite_false]
      exact g
    rotate_left 1
    · have e : ph f T (d + 1) q = (1, tfp f T q, 0) := by rw [ph, if_neg (by rw [eT]; decide)]
      rw [e] at k0
      have g := k0 (Nat.succ_ne_zero _) a1 b1 b2 (d + 1)
      refine sp_ill (k := 1) b2.1 (by decide) (by decide) ?_
      simp (disch := first | assumption | omega) only [wl_X11_rule_116, l0, l1, l2, l3, l4, l5, l6, l7, l8, l9, l10, l20, l60, l61, l62, bb_t, bb_f, l100, l120, l512, l400, l401, l700, l9999, nm1, lm1, nlt, nle, neq, glt, gle, lgt, lge, geq, egq, mI_l, mI_e, e_mI, l_mI, le_mI, mI_le, bI_z, nC, vnI, nI_add, nI_sb, nI_mul, a1m, qs_eq, qs_nc, qs_ni, qs_nk, bq_l, bq_r, bq_l', bq_r', bq_t, bq_f, bq_t', bq_f', bq_n, bq_m, iT, iS, iN, true_and, and_true, eq_self, not_true_eq_false, not_false_eq_true, forall_const, bx_t, bx_f, reduceCtorEq, Option.some.injEq, forall_eq', ite_true, ite_false]
      exact g
    have h1 := h.km b1
    have e4 : 4 - (d + 1) + 1 = 4 - d := by omega
    refine sp_well b2 ?_
    simp (disch := first | assumption | omega) only [l0, l1, l2, l3, l4, l5, l6, l7, l8, l9, l10, l20, l60, l61, l62, bb_t, bb_f, l100, l120, l512, l400, l401, l700, l9999, nm1, lm1, nlt, nle, neq, glt, gle, lgt, lge, geq, egq, mI_l, mI_e, e_mI, l_mI, le_mI, mI_le, bI_z, nC, vnI, nI_add, nI_sb, nI_mul, a1m, qs_eq, qs_nc, qs_ni, qs_nk, bq_l, bq_r, bq_l', bq_r', bq_t, bq_f, bq_t', bq_f', bq_n, bq_m, iT, iS, iN, true_and, and_true, eq_self, not_true_eq_false, not_false_eq_true, forall_const, bx_t, bx_f, reduceCtorEq, Option.some.injEq, forall_eq', ite_true, ite_false]
    refine sp_and h1 b3 (fun c5 => ?_) (fun c5 => ?_)
    · have e : ph f T (d + 1) q = ((ph f T d (tnx f T q + 1)).1, (ph f T d (tnx f T q + 1)).2.1, (ph f T d (tnx f T q + 1)).2.2 + 1) := by rw [ph, if_pos eT, if_pos c5]
      rw [e] at k1 k0
      simp (disch := first | assumption | omega) only [l0, l1, l2, l3, l4, l5, l6, l7, l8, l9, l10, l20, l60, l61, l62, bb_t, bb_f, l100, l120, l512, l400, l401, l700, l9999, nm1, lm1, nlt, nle, neq, glt, gle, lgt, lge, geq, egq, mI_l, mI_e, e_mI, l_mI, le_mI, mI_le, bI_z, nC, vnI, nI_add, nI_sb, nI_mul, a1m, qs_eq, qs_nc, qs_ni, qs_nk, bq_l, bq_r, bq_l', bq_r', bq_t, bq_f, bq_t', bq_f', bq_n, bq_m, iT, iS, iN, true_and, and_true, eq_self, not_true_eq_false, not_false_eq_true, forall_const, bx_t, bx_f, reduceCtorEq, Option.some.injEq, forall_eq', ite_true, ite_false]
      refine sp_mnext h1 b3 (fun a2 d1 d2 => ?_)
      have kb2 := b1.nx d1
      have b5 := MRT_nx b4 d1
      refine ih (tnx f T q + 1) a2 (by omega) (h.km kb2) (by rw [d1 11 0 47 (by omega)]; exact b2) d2 (by rw [b5.1, e4]) (fun x a3 g1 g2 g3 g4 => ?_) (fun x a3 g1 g2 => ?_)
      · refine k1 x a3 (kb2.tr g1) g2 g3 (MRT_tr b5 ?_)
        rw [e4]
        exact g4
      · exact k0 x a3 (kb2.tr g1) g2
    · have e : ph f T (d + 1) q = (0, tnx f T q, 1) := by rw [ph, if_pos eT, if_neg c5]
      rw [e] at k1
      have g := k1 rfl a1 b1 b2 b3 b4 (d + 1)
      simp (disch := first | assumption | omega) only [wl_X11_rule_116, l0, l1, l2, l3, l4, l5, l6, l7, l8, l9, l10, l20, l60, l61, l62, bb_t, bb_f, l100, l120, l512, l400, l401, l700, l9999, nm1, lm1, nlt, nle, neq, glt, gle, lgt, lge, geq, egq, mI_l, mI_e, e_mI, l_mI, le_mI, mI_le, bI_z, nC, vnI, nI_add, nI_sb, nI_mul, a1m, qs_eq, qs_nc, qs_ni, qs_nk, bq_l, bq_r, bq_l', bq_r', bq_t, bq_f, bq_t', bq_f', bq_n, bq_m, iT, iS, iN, true_and, and_true, eq_self, not_true_eq_false, not_false_eq_true, forall_const, bx_t, bx_f, reduceCtorEq, Option.some.injEq, forall_eq', ite_true, ite_false]
      exact g
def ES (a a' : qa) : Prop := a' 73 0 10 = a 73 0 10 ∧ a' 74 0 = a 74 0 ∧ a' 76 0 = a 76 0 ∧ a' 77 0 = a 77 0 ∧ a' 78 0 = a 78 0
theorem ES.rf (a : qa) : ES a a := ⟨rfl, rfl, rfl, rfl, rfl⟩
theorem ES.nx {a a1 a2 : qa} (h : ES a a1) (h2 : Nx a1 a2) : ES a a2 := by
  have e : ∀ c, c ≠ 11 → a2 c 0 = a1 c 0 := fun c hc => by funext k; exact h2 c 0 k (by omega)
  unfold ES at h ⊢
  rw [e 73 (by decide), e 74 (by decide), e 76 (by decide), e 77 (by decide), e 78 (by decide)]
  exact h
theorem ES.q5 {a a1 : qa} {k : Nat} {x : Int32} (h : ES a a1) : ES a (qs a1 75 0 k x) := by
  have e : ∀ c, c ≠ 75 → (qs a1 75 0 k x) c 0 = a1 c 0 := fun c hc => by funext k; exact qs_nc hc
  unfold ES at h ⊢
  rw [e 73 (by decide), e 74 (by decide), e 76 (by decide), e 77 (by decide), e 78 (by decide)]
  exact h
set_option maxHeartbeats 4000000 in
theorem sp_m165 {t p T R z : Nat} {x y : Int32} {f : Nat → Nat} {a0 a : qa} {post : qa → Prop} (hR : R < 220) (h : MP f T a) (h47 : a 11 0 47 = nI 0) (hm : MS f T z a) (hk : KM R a0 a) (he : ES a0 a) (hx : (x = nI 0 ∧ y = VV f T z) ∨ (x = nI 1 ∧ y = -(VV f T z))) (k1 : TT f T z = 2 → TT f T (z + 1) = 8 → ∀ a', KM R a0 a' → a' 11 0 47 = nI 0 → MS f T (z + 2) a' → a' 75 0 R = y → ES a0 a' → post a') (k2 : ¬ TT f T z = 2 → ∀ a', KM R a0 a' → FQ f T 1 z a' → post a') (k3 : TT f T z = 2 → ¬ TT f T (z + 1) = 8 → ∀ a', KM R a0 a' → FQ f T 1 (z + 1) a' → post a') : wl_X11_rule_165 t p post (nI R) x a := by
  have q75 : ∀ {b : qa} {v : Int32}, KM R a0 b → KM R a0 (qs b 75 0 R v) := fun hb => hb.q (Or.inr (Or.inr (Or.inl ⟨Or.inr rfl, Nat.le_refl _⟩)))
  unfold wl_X11_rule_165
  refine sp_number h h47 hm (fun c2 a1 b1 b2 => ?_) (fun c2 => ?_)
  · have kb1 := hk.nx b1
    have es1 := he.nx b1
    have g47 : a1 11 0 47 = nI 0 := by rw [b1 11 0 47 (by omega)]; exact h47
    have go : wp_X11_want t p 59 (qs a1 75 0 R y) (fun a192 => post a192) := by
      refine sp_want8 (n := z + 1) (h.km ((KM.rf a).nx b1 |>.q (R := R) (Or.inr (Or.inr (Or.inl ⟨Or.inr rfl, Nat.le_refl _⟩))))) (by rw [qs_nc (by decide)]; exact g47) (b2.q (by decide)) (fun c8 a2 d1 d2 => ?_) (fun c8 => ?_)
      · refine k1 c2 c8 a2 ((q75 kb1).nx d1) (by rw [d1 11 0 47 (by omega), qs_nc (by decide)]; exact g47) d2 ?_ ((es1.q5).nx d1)
        rw [d1 75 0 R (by omega), qs_eq]
      · exact k3 c2 c8 _ (fm_k (q75 kb1)) fm_q
    rcases hx with ⟨hx, hy⟩ | ⟨hx, hy⟩
    · rw [hx]
      rw [hy] at go
      try simp (disch := first | assumption | omega) only [l0, l1, l2, l3, l4, l5, l6, l7, l8, l9, l10, l20, l60, l61, l62, bb_t, bb_f, l100, l120, l512, l400, l401, l700, l9999, nm1, lm1, nlt, nle, neq, glt, gle, lgt, lge, geq, egq, mI_l, mI_e, e_mI, l_mI, le_mI, mI_le, bI_z, nC, vnI, nI_add, nI_sb, nI_mul, a1m, qs_eq, qs_nc, qs_ni, qs_nk, bq_l, bq_r, bq_l', bq_r', bq_t, bq_f, bq_t', bq_f', bq_n, bq_m, iT, iS, iN, true_and, and_true, eq_self, not_true_eq_false, not_false_eq_true, forall_const, bx_t, bx_f, reduceCtorEq, Option.some.injEq, forall_eq', ite_true, ite_false]
      exact go
    · rw [hx]
      rw [hy] at go
      try simp (disch := first | assumption | omega) only [l0, l1, l2, l3, l4, l5, l6, l7, l8, l9, l10, l20, l60, l61, l62, bb_t, bb_f, l100, l120, l512, l400, l401, l700, l9999, nm1, lm1, nlt, nle, neq, glt, gle, lgt, lge, geq, egq, mI_l, mI_e, e_mI, l_mI, le_mI, mI_le, bI_z, nC, vnI, nI_add, nI_sb, nI_mul, a1m, qs_eq, qs_nc, qs_ni, qs_nk, bq_l, bq_r, bq_l', bq_r', bq_t, bq_f, bq_t', bq_f', bq_n, bq_m, iT, iS, iN, true_and, and_true, eq_self, not_true_eq_false, not_false_eq_true, forall_const, bx_t, bx_f, reduceCtorEq, Option.some.injEq, forall_eq', ite_true, ite_false]
      exact go
  · have go : ∀ v : Int32, wp_X11_want t p 59 (qs (fm f T a 1 z) 75 0 R v) (fun a192 => post a192) := by
      intro v
      have e : (qs (fm f T a 1 z) 75 0 R v) 11 0 47 = nI 1 := by rw [qs_nc (by decide)]; exact fm_q.1
      refine sp_want0 e (by decide) (by decide) ?_
      refine k2 c2 _ (q75 (fm_k hk)) ⟨e, ?_⟩
      rw [qs_nc (by decide)]; exact fm_q.2
    rcases hx with ⟨hx, hy⟩ | ⟨hx, hy⟩
    · rw [hx]
      try simp (disch := first | assumption | omega) only [l0, l1, l2, l3, l4, l5, l6, l7, l8, l9, l10, l20, l60, l61, l62, bb_t, bb_f, l100, l120, l512, l400, l401, l700, l9999, nm1, lm1, nlt, nle, neq, glt, gle, lgt, lge, geq, egq, mI_l, mI_e, e_mI, l_mI, le_mI, mI_le, bI_z, nC, vnI, nI_add, nI_sb, nI_mul, a1m, qs_eq, qs_nc, qs_ni, qs_nk, bq_l, bq_r, bq_l', bq_r', bq_t, bq_f, bq_t', bq_f', bq_n, bq_m, iT, iS, iN, true_and, and_true, eq_self, not_true_eq_false, not_false_eq_true, forall_const, bx_t, bx_f, reduceCtorEq, Option.some.injEq, forall_eq', ite_true, ite_false]
      exact go _
    · rw [hx]
      try simp (disch := first | assumption | omega) only [l0, l1, l2, l3, l4, l5, l6, l7, l8, l9, l10, l20, l60, l61, l62, bb_t, bb_f, l100, l120, l512, l400, l401, l700, l9999, nm1, lm1, nlt, nle, neq, glt, gle, lgt, lge, geq, egq, mI_l, mI_e, e_mI, l_mI, le_mI, mI_le, bI_z, nC, vnI, nI_add, nI_sb, nI_mul, a1m, qs_eq, qs_nc, qs_ni, qs_nk, bq_l, bq_r, bq_l', bq_r', bq_t, bq_f, bq_t', bq_f', bq_n, bq_m, iT, iS, iN, true_and, and_true, eq_self, not_true_eq_false, not_false_eq_true, forall_const, bx_t, bx_f, reduceCtorEq, Option.some.injEq, forall_eq', ite_true, ite_false]
      exact go _
set_option maxHeartbeats 4000000 in
theorem sp_mrest {t p T R q n : Nat} {f : Nat → Nat} {a : qa} {post : qa → Prop} (hR : R < 220) (h : MP f T a) (h47 : a 11 0 47 = nI 0) (hm : MS f T q a) (k1 : (rz f T q).1 = 0 → ∀ a', KM R a a' → a' 11 0 47 = nI 0 → MS f T (rz f T q).2 a' → a' 75 0 R = am f T (q + 1) → ES a a' → post a') (k0 : ¬ (rz f T q).1 = 0 → ∀ a', KM R a a' → FQ f T (rz f T q).1 (rz f T q).2 a' → post a') : wl_X11_rule_86 t p post (n + 1) (nI R) (nI 0) a := by
  unfold wl_X11_rule_86
  simp (disch := first | assumption | omega) only [l0, l1, l2, l3, l4, l5, l6, l7, l8, l9, l10, l20, l60, l61, l62, bb_t, bb_f, l100, l120, l512, l400, l401, l700, l9999, nm1, lm1, nlt, nle, neq, glt, gle, lgt, lge, geq, egq, mI_l, mI_e, e_mI, l_mI, le_mI, mI_le, bI_z, nC, vnI, nI_add, nI_sb, nI_mul, a1m, qs_eq, qs_nc, qs_ni, qs_nk, bq_l, bq_r, bq_l', bq_r', bq_t, bq_f, bq_t', bq_f', bq_n, bq_m, iT, iS, iN, true_and, and_true, eq_self, not_true_eq_false, not_false_eq_true, forall_const, bx_t, bx_f, reduceCtorEq, Option.some.injEq, forall_eq', ite_true, ite_false]
  refine sp_want7 h h47 hm (fun c7 a1 b1 b2 => ?_) (fun c7 => ?_)
  rotate_left 1
  · have e : rz f T q = (1, q) := if_neg c7
    rw [e] at k0
    have g47 : fm f T a 1 q 11 0 47 = nI 1 := fm_q.1
    refine sp_ill g47 (by decide) (by decide) ?_
    simp (disch := first | assumption | omega) only [wl_X11_rule_155, wl_X11_rule_156, wl_X11_rule_165, l0, l1, l2, l3, l4, l5, l6, l7, l8, l9, l10, l20, l60, l61, l62, bb_t, bb_f, l100, l120, l512, l400, l401, l700, l9999, nm1, lm1, nlt, nle, neq, glt, gle, lgt, lge, geq, egq, mI_l, mI_e, e_mI, l_mI, le_mI, mI_le, bI_z, nC, vnI, nI_add, nI_sb, nI_mul, a1m, qs_eq, qs_nc, qs_ni, qs_nk, bq_l, bq_r, bq_l', bq_r', bq_t, bq_f, bq_t', bq_f', bq_n, bq_m, iT, iS, iN, true_and, and_true, eq_self, not_true_eq_false, not_false_eq_true, forall_const, bx_t, bx_f, reduceCtorEq, Option.some.injEq, forall_eq', ite_true, ite_false]
    refine sp_number0 g47 (by decide) (by decide) ?_
    try simp (disch := first | assumption | omega) only [l0, l1, l2, l3, l4, l5, l6, l7, l8, l9, l10, l20, l60, l61, l62, bb_t, bb_f, l100, l120, l512, l400, l401, l700, l9999, nm1, lm1, nlt, nle, neq, glt, gle, lgt, lge, geq, egq, mI_l, mI_e, e_mI, l_mI, le_mI, mI_le, bI_z, nC, vnI, nI_add, nI_sb, nI_mul, a1m, qs_eq, qs_nc, qs_ni, qs_nk, bq_l, bq_r, bq_l', bq_r', bq_t, bq_f, bq_t', bq_f', bq_n, bq_m, iT, iS, iN, true_and, and_true, eq_self, not_true_eq_false, not_false_eq_true, forall_const, bx_t, bx_f, reduceCtorEq, Option.some.injEq, forall_eq', ite_true, ite_false]
    refine sp_want0 (k := 1) (by rw [qs_nc (by decide)]; exact g47) (by decide) (by decide) ?_
    refine k0 (Nat.succ_ne_zero _) _ ((fm_k (KM.rf a)).q (Or.inr (Or.inr (Or.inl ⟨Or.inr rfl, Nat.le_refl _⟩)))) ⟨by rw [qs_nc (by decide)]; exact g47, by rw [qs_nc (by decide)]; exact fm_q.2⟩
  have kb1 : KM R a a1 := (KM.rf a).nx b1
  have es1 : ES a a1 := (ES.rf a).nx b1
  have h1 := h.km kb1
  have g47 : a1 11 0 47 = nI 0 := by rw [b1 11 0 47 (by omega)]; exact h47
  have ez : rz f T q = if TT f T (hz f T (q + 1)) = 2 then (if TT f T (hz f T (q + 1) + 1) = 8 then (0, hz f T (q + 1) + 2) else (1, hz f T (q + 1) + 1)) else (1, hz f T (q + 1)) := if_pos c7
  rw [ez] at k1 k0
  refine sp_well g47 ?_
  simp (disch := first | assumption | omega) only [l0, l1, l2, l3, l4, l5, l6, l7, l8, l9, l10, l20, l60, l61, l62, bb_t, bb_f, l100, l120, l512, l400, l401, l700, l9999, nm1, lm1, nlt, nle, neq, glt, gle, lgt, lge, geq, egq, mI_l, mI_e, e_mI, l_mI, le_mI, mI_le, bI_z, nC, vnI, nI_add, nI_sb, nI_mul, a1m, qs_eq, qs_nc, qs_ni, qs_nk, bq_l, bq_r, bq_l', bq_r', bq_t, bq_f, bq_t', bq_f', bq_n, bq_m, iT, iS, iN, true_and, and_true, eq_self, not_true_eq_false, not_false_eq_true, forall_const, bx_t, bx_f, reduceCtorEq, Option.some.injEq, forall_eq', ite_true, ite_false]
  refine sp_is9 h.f b2 (fun c9 => ?_) (fun c9 => ?_)
  · have ehz : hz f T (q + 1) = q + 2 := if_pos c9
    have eam : am f T (q + 1) = -(VV f T (q + 2)) := if_pos c9
    rw [ehz, eam] at k1
    rw [ehz] at k0
    simp (disch := first | assumption | omega) only [wl_X11_rule_156, l0, l1, l2, l3, l4, l5, l6, l7, l8, l9, l10, l20, l60, l61, l62, bb_t, bb_f, l100, l120, l512, l400, l401, l700, l9999, nm1, lm1, nlt, nle, neq, glt, gle, lgt, lge, geq, egq, mI_l, mI_e, e_mI, l_mI, le_mI, mI_le, bI_z, nC, vnI, nI_add, nI_sb, nI_mul, a1m, qs_eq, qs_nc, qs_ni, qs_nk, bq_l, bq_r, bq_l', bq_r', bq_t, bq_f, bq_t', bq_f', bq_n, bq_m, iT, iS, iN, true_and, and_true, eq_self, not_true_eq_false, not_false_eq_true, forall_const, bx_t, bx_f, reduceCtorEq, Option.some.injEq, forall_eq', ite_true, ite_false]
    refine sp_mnext (n := q + 1) h1 b2 (fun a2 d1 d2 => ?_)
    refine sp_m165 (z := q + 2) (y := -(VV f T (q + 2))) (a0 := a) hR (h.km (kb1.nx d1)) (by rw [d1 11 0 47 (by omega)]; exact g47) d2 (kb1.nx d1) (es1.nx d1) (Or.inr ⟨rfl, rfl⟩) (fun x y a' e1 e2 e3 e4 e5 => ?_) (fun x a' e1 e2 => ?_) (fun x y a' e1 e2 => ?_)
    · rw [if_pos x, if_pos y] at k1
      exact k1 rfl a' e1 e2 e3 e4 e5
    · rw [if_neg x] at k0
      exact k0 (Nat.succ_ne_zero _) a' e1 e2
    · rw [if_pos x, if_neg y] at k0
      exact k0 (Nat.succ_ne_zero _) a' e1 e2
  · have ehz : hz f T (q + 1) = q + 1 := if_neg c9
    have eam : am f T (q + 1) = VV f T (q + 1) := if_neg c9
    rw [ehz, eam] at k1
    rw [ehz] at k0
    simp (disch := first | assumption | omega) only [wl_X11_rule_155, wl_X11_rule_156, l0, l1, l2, l3, l4, l5, l6, l7, l8, l9, l10, l20, l60, l61, l62, bb_t, bb_f, l100, l120, l512, l400, l401, l700, l9999, nm1, lm1, nlt, nle, neq, glt, gle, lgt, lge, geq, egq, mI_l, mI_e, e_mI, l_mI, le_mI, mI_le, bI_z, nC, vnI, nI_add, nI_sb, nI_mul, a1m, qs_eq, qs_nc, qs_ni, qs_nk, bq_l, bq_r, bq_l', bq_r', bq_t, bq_f, bq_t', bq_f', bq_n, bq_m, iT, iS, iN, true_and, and_true, eq_self, not_true_eq_false, not_false_eq_true, forall_const, bx_t, bx_f, reduceCtorEq, Option.some.injEq, forall_eq', ite_true, ite_false]
    refine sp_m165 (z := q + 1) (y := VV f T (q + 1)) (a0 := a) hR h1 g47 b2 kb1 es1 (Or.inl ⟨rfl, rfl⟩) (fun x y a' e1 e2 e3 e4 e5 => ?_) (fun x a' e1 e2 => ?_) (fun x y a' e1 e2 => ?_)
    · rw [if_pos x, if_pos y] at k1
      exact k1 rfl a' e1 e2 e3 e4 e5
    · rw [if_neg x] at k0
      exact k0 (Nat.succ_ne_zero _) a' e1 e2
    · rw [if_pos x, if_neg y] at k0
      exact k0 (Nat.succ_ne_zero _) a' e1 e2
theorem sp_mbad {t p T R k i n : Nat} {f : Nat → Nat} {a : qa} {post : qa → Prop} (hR : R < 220) (hk : 1 ≤ k) (hk2 : k ≤ 2) (hq : FQ f T k i a) (kk : ∀ a', KM R a a' → FQ f T k i a' → post a') : wl_X11_rule_86 t p post (n + 1) (nI R) (nI 0) a := by
  have g47 := hq.1
  unfold wl_X11_rule_86
  simp (disch := first | assumption | omega) only [l0, l1, l2, l3, l4, l5, l6, l7, l8, l9, l10, l20, l60, l61, l62, bb_t, bb_f, l100, l120, l512, l400, l401, l700, l9999, nm1, lm1, nlt, nle, neq, glt, gle, lgt, lge, geq, egq, mI_l, mI_e, e_mI, l_mI, le_mI, mI_le, bI_z, nC, vnI, nI_add, nI_sb, nI_mul, a1m, qs_eq, qs_nc, qs_ni, qs_nk, bq_l, bq_r, bq_l', bq_r', bq_t, bq_f, bq_t', bq_f', bq_n, bq_m, iT, iS, iN, true_and, and_true, eq_self, not_true_eq_false, not_false_eq_true, forall_const, bx_t, bx_f, reduceCtorEq, Option.some.injEq, forall_eq', ite_true, ite_false]
  refine sp_want0 g47 hk hk2 ?_
  refine sp_ill g47 hk hk2 ?_
  simp (disch := first | assumption | omega) only [wl_X11_rule_155, wl_X11_rule_156, wl_X11_rule_165, l0, l1, l2, l3, l4, l5, l6, l7, l8, l9, l10, l20, l60, l61, l62, bb_t, bb_f, l100, l120, l512, l400, l401, l700, l9999, nm1, lm1, nlt, nle, neq, glt, gle, lgt, lge, geq, egq, mI_l, mI_e, e_mI, l_mI, le_mI, mI_le, bI_z, nC, vnI, nI_add, nI_sb, nI_mul, a1m, qs_eq, qs_nc, qs_ni, qs_nk, bq_l, bq_r, bq_l', bq_r', bq_t, bq_f, bq_t', bq_f', bq_n, bq_m, iT, iS, iN, true_and, and_true, eq_self, not_true_eq_false, not_false_eq_true, forall_const, bx_t, bx_f, reduceCtorEq, Option.some.injEq, forall_eq', ite_true, ite_false]
  refine sp_number0 g47 hk hk2 ?_
  try simp (disch := first | assumption | omega) only [l0, l1, l2, l3, l4, l5, l6, l7, l8, l9, l10, l20, l60, l61, l62, bb_t, bb_f, l100, l120, l512, l400, l401, l700, l9999, nm1, lm1, nlt, nle, neq, glt, gle, lgt, lge, geq, egq, mI_l, mI_e, e_mI, l_mI, le_mI, mI_le, bI_z, nC, vnI, nI_add, nI_sb, nI_mul, a1m, qs_eq, qs_nc, qs_ni, qs_nk, bq_l, bq_r, bq_l', bq_r', bq_t, bq_f, bq_t', bq_f', bq_n, bq_m, iT, iS, iN, true_and, and_true, eq_self, not_true_eq_false, not_false_eq_true, forall_const, bx_t, bx_f, reduceCtorEq, Option.some.injEq, forall_eq', ite_true, ite_false]
  refine sp_want0 (k := k) (by rw [qs_nc (by decide)]; exact g47) hk hk2 ?_
  exact kk _ ((KM.rf a).q (Or.inr (Or.inr (Or.inl ⟨Or.inr rfl, Nat.le_refl _⟩)))) ⟨by rw [qs_nc (by decide)]; exact g47, by rw [qs_nc (by decide)]; exact hq.2⟩
def MU (f : Nat → Nat) (T r n : Nat) (a : qa) : Prop := a 74 0 (200 + r) = nI (Cn f T n) ∧ a 75 0 (200 + r) = Am f T n ∧ ∀ i, i < Cn f T n → tmM f T (tj f T i n) (a 76 0 (4 * (200 + r) + i)) (a 77 0 (4 * (200 + r) + i)) (a 78 0 (4 * (200 + r) + i))
set_option maxHeartbeats 4000000 in
theorem sp_mrule {t p T r n : Nat} {f : Nat → Nat} {a : qa} {post : qa → Prop} (hr : r < 20) (h : MP f T a) (h47 : a 11 0 47 = nI 0) (hm : MS f T n a) (h73 : a 73 0 10 = nI r) (hh : hpB f T n = true) (k1 : (rl f T n).1 = 0 → ∀ a', KM (200 + r) a a' → a' 11 0 47 = nI 0 → MS f T (rl f T n).2 a' → a' 73 0 10 = nI (r + 1) → MU f T r n a' → post a') (k0 : ¬ (rl f T n).1 = 0 → ∀ a', KM (200 + r) a a' → FQ f T (rl f T n).1 (rl f T n).2 a' → post a') : wp_X11_rule t p a post := by
  have hc := of_decide_eq_true hh
  have kb0 : KM (200 + r) a (qs (qs a 73 0 10 (nI (r + 1))) 74 0 (200 + r) (nI 0)) := ((KM.rf a).q (Or.inr (Or.inl ⟨rfl, rfl⟩))).q (Or.inr (Or.inr (Or.inl ⟨Or.inl rfl, Nat.le_refl _⟩)))
  have f47 : (qs (qs a 73 0 10 (nI (r + 1))) 74 0 (200 + r) (nI 0)) 11 0 47 = nI 0 := by rw [qs_nc (by decide), qs_nc (by decide)]; exact h47
  have fm0 : MS f T n (qs (qs a 73 0 10 (nI (r + 1))) 74 0 (200 + r) (nI 0)) := (hm.q (by decide)).q (by decide)
  have f74 : (qs (qs a 73 0 10 (nI (r + 1))) 74 0 (200 + r) (nI 0)) 74 0 (200 + r) = nI 0 := by rw [qs_eq]
  have f73 : (qs (qs a 73 0 10 (nI (r + 1))) 74 0 (200 + r) (nI 0)) 73 0 10 = nI (r + 1) := by rw [qs_nc (by decide), qs_eq]
  have h1 := h.km kb0
  have go : wl_X11_rule_23 t p post a := by
    unfold wl_X11_rule_23
    simp (disch := first | assumption | omega) only [h73, l200, l0, l1, l2, l3, l4, l5, l6, l7, l8, l9, l10, l20, l60, l61, l62, bb_t, bb_f, l100, l120, l512, l400, l401, l700, l9999, nm1, lm1, nlt, nle, neq, glt, gle, lgt, lge, geq, egq, mI_l, mI_e, e_mI, l_mI, le_mI, mI_le, bI_z, nC, vnI, nI_add, nI_sb, nI_mul, a1m, qs_eq, qs_nc, qs_ni, qs_nk, bq_l, bq_r, bq_l', bq_r', bq_t, bq_f, bq_t', bq_f', bq_n, bq_m, iT, iS, iN, true_and, and_true, eq_self, not_true_eq_false, not_false_eq_true, forall_const, bx_t, bx_f, reduceCtorEq, Option.some.injEq, forall_eq', ite_true, ite_false]
    generalize (qs (qs a 73 0 10 (nI (r + 1))) 74 0 (200 + r) (nI 0)) = a1 at *
    refine sp_is7 h.f fm0 (fun c7 => ?_) (fun c7 => ?_)
    · have e : hd f T n = (0, n, 0) := if_pos c7
      have er : rl f T n = rz f T n := by unfold rl; rw [e]; rfl
      have ec : Cn f T n = 0 := by unfold Cn; rw [e]
      have ea : Am f T n = am f T (n + 1) := by unfold Am; rw [e]
      rw [er] at k1 k0
      simp (disch := first | assumption | omega) only [l0, l1, l2, l3, l4, l5, l6, l7, l8, l9, l10, l20, l60, l61, l62, bb_t, bb_f, l100, l120, l512, l400, l401, l700, l9999, nm1, lm1, nlt, nle, neq, glt, gle, lgt, lge, geq, egq, mI_l, mI_e, e_mI, l_mI, le_mI, mI_le, bI_z, nC, vnI, nI_add, nI_sb, nI_mul, a1m, qs_eq, qs_nc, qs_ni, qs_nk, bq_l, bq_r, bq_l', bq_r', bq_t, bq_f, bq_t', bq_f', bq_n, bq_m, iT, iS, iN, true_and, and_true, eq_self, not_true_eq_false, not_false_eq_true, forall_const, bx_t, bx_f, reduceCtorEq, Option.some.injEq, forall_eq', ite_true, ite_false]
      refine ⟨1, sp_mrest (by omega) h1 f47 fm0 (fun x a2 b1 b2 b3 b4 b5 => ?_) (fun x a2 b1 b2 => k0 x a2 (kb0.tr b1) b2)⟩
      refine k1 x a2 (kb0.tr b1) b2 b3 (by rw [b5.1]; exact f73) ⟨?_, ?_, fun i hi => by omega⟩
      · rw [b5.2.1, f74, ec]
      · rw [b4, ea]
    · have e : hd f T n = ph f T 4 n := if_neg c7
      have ec : Cn f T n = (ph f T 4 n).2.2 := by unfold Cn; rw [e]
      have ea : Am f T n = am f T ((ph f T 4 n).2.1 + 1) := by unfold Am; rw [e]
      simp (disch := first | assumption | omega) only [l0, l1, l2, l3, l4, l5, l6, l7, l8, l9, l10, l20, l60, l61, l62, bb_t, bb_f, l100, l120, l512, l400, l401, l700, l9999, nm1, lm1, nlt, nle, neq, glt, gle, lgt, lge, geq, egq, mI_l, mI_e, e_mI, l_mI, le_mI, mI_le, bI_z, nC, vnI, nI_add, nI_sb, nI_mul, a1m, qs_eq, qs_nc, qs_ni, qs_nk, bq_l, bq_r, bq_l', bq_r', bq_t, bq_f, bq_t', bq_f', bq_n, bq_m, iT, iS, iN, true_and, and_true, eq_self, not_true_eq_false, not_false_eq_true, forall_const, bx_t, bx_f, reduceCtorEq, Option.some.injEq, forall_eq', ite_true, ite_false]
      refine ⟨6, sl_mterms (by omega) 4 n a1 (by decide) h1 f47 fm0 f74 (fun x a2 b1 b2 b3 b4 m => ?_) (fun x a2 b1 b2 m => ?_)⟩
      · have er : rl f T n = rz f T (ph f T 4 n).2.1 := by unfold rl; rw [e, if_pos x]
        rw [er] at k1 k0
        rw [← ec] at b4
        refine sp_mrest (by omega) (h1.km b1) b2 b3 (fun y a3 d1 d2 d3 d4 d5 => ?_) (fun y a3 d1 d2 => k0 y a3 (kb0.tr (b1.tr d1)) d2)
        obtain ⟨r1, r2, r3, r4⟩ := b4
        obtain ⟨s1, s2, s3, s4, s5⟩ := d5
        refine k1 y a3 (kb0.tr (b1.tr d1)) d2 d3 (by rw [s1, r2]; exact f73) ⟨?_, ?_, fun i hi => ?_⟩
        · rw [s2, r1]
          show nI (0 + Cn f T n) = _
          rw [Nat.zero_add]
        · rw [d4, ea]
        · rw [s3, s4, s5]
          exact r4 i hi
      · have er : rl f T n = ((ph f T 4 n).1, (ph f T 4 n).2.1) := by unfold rl; rw [e, if_neg x]
        rw [er] at k0
        have p2 := ph_2 f T 4 n
        exact sp_mbad (by omega) (by omega) p2 b2 (fun a3 d1 d2 => k0 x a3 (kb0.tr (b1.tr d1)) d2)
  unfold wp_X11_rule
  refine sp_is7 h.f hm (fun c7 => ?_) (fun c7 => ?_)
  · simp (disch := first | assumption | omega) only [l0, l1, l2, l3, l4, l5, l6, l7, l8, l9, l10, l20, l60, l61, l62, bb_t, bb_f, l100, l120, l512, l400, l401, l700, l9999, nm1, lm1, nlt, nle, neq, glt, gle, lgt, lge, geq, egq, mI_l, mI_e, e_mI, l_mI, le_mI, mI_le, bI_z, nC, vnI, nI_add, nI_sb, nI_mul, a1m, qs_eq, qs_nc, qs_ni, qs_nk, bq_l, bq_r, bq_l', bq_r', bq_t, bq_f, bq_t', bq_f', bq_n, bq_m, iT, iS, iN, true_and, and_true, eq_self, not_true_eq_false, not_false_eq_true, forall_const, bx_t, bx_f, reduceCtorEq, Option.some.injEq, forall_eq', ite_true, ite_false]
    exact go
  · simp (disch := first | assumption | omega) only [l0, l1, l2, l3, l4, l5, l6, l7, l8, l9, l10, l20, l60, l61, l62, bb_t, bb_f, l100, l120, l512, l400, l401, l700, l9999, nm1, lm1, nlt, nle, neq, glt, gle, lgt, lge, geq, egq, mI_l, mI_e, e_mI, l_mI, le_mI, mI_le, bI_z, nC, vnI, nI_add, nI_sb, nI_mul, a1m, qs_eq, qs_nc, qs_ni, qs_nk, bq_l, bq_r, bq_l', bq_r', bq_t, bq_f, bq_t', bq_f', bq_n, bq_m, iT, iS, iN, true_and, and_true, eq_self, not_true_eq_false, not_false_eq_true, forall_const, bx_t, bx_f, reduceCtorEq, Option.some.injEq, forall_eq', ite_true, ite_false]
    refine sp_word h hm ?_
    rcases wd_c (n := n) h.f with ⟨q1, q2, k, q3, q4⟩ | ⟨q1, q2, k, q3, q4⟩ | ⟨q, _⟩
    · rw [q2, q4]
      try simp (disch := first | assumption | omega) only [l0, l1, l2, l3, l4, l5, l6, l7, l8, l9, l10, l20, l60, l61, l62, bb_t, bb_f, l100, l120, l512, l400, l401, l700, l9999, nm1, lm1, nlt, nle, neq, glt, gle, lgt, lge, geq, egq, mI_l, mI_e, e_mI, l_mI, le_mI, mI_le, bI_z, nC, vnI, nI_add, nI_sb, nI_mul, a1m, qs_eq, qs_nc, qs_ni, qs_nk, bq_l, bq_r, bq_l', bq_r', bq_t, bq_f, bq_t', bq_f', bq_n, bq_m, iT, iS, iN, true_and, and_true, eq_self, not_true_eq_false, not_false_eq_true, forall_const, bx_t, bx_f, reduceCtorEq, Option.some.injEq, forall_eq', ite_true, ite_false]
      exact go
    · rw [q2, q4]
      try simp (disch := first | assumption | omega) only [l0, l1, l2, l3, l4, l5, l6, l7, l8, l9, l10, l20, l60, l61, l62, bb_t, bb_f, l100, l120, l512, l400, l401, l700, l9999, nm1, lm1, nlt, nle, neq, glt, gle, lgt, lge, geq, egq, mI_l, mI_e, e_mI, l_mI, le_mI, mI_le, bI_z, nC, vnI, nI_add, nI_sb, nI_mul, a1m, qs_eq, qs_nc, qs_ni, qs_nk, bq_l, bq_r, bq_l', bq_r', bq_t, bq_f, bq_t', bq_f', bq_n, bq_m, iT, iS, iN, true_and, and_true, eq_self, not_true_eq_false, not_false_eq_true, forall_const, bx_t, bx_f, reduceCtorEq, Option.some.injEq, forall_eq', ite_true, ite_false]
      exact go
    · omega
