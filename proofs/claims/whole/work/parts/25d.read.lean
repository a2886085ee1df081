/-- the grammar, over the tokens' numbers: where a term ends, what it is, where a rule ends -/
def tnx (f : Nat → Nat) (T n : Nat) : Nat := if TT f T n = 3 then n + 1 else n + 3
def tok (f : Nat → Nat) (T n : Nat) : Bool := decide (TT f T n = 3 ∨ (TT f T n = 4 ∧ TT f T (n + 1) = 6 ∧ TT f T (n + 2) = 2))
def tfp (f : Nat → Nat) (T n : Nat) : Nat := if TT f T n = 4 then (if TT f T (n + 1) = 6 then n + 2 else n + 1) else n
def ph (f : Nat → Nat) (T : Nat) : Nat → Nat → Nat × Nat × Nat
  | 0, q => (if TT f T q = 3 ∨ TT f T q = 4 then 2 else 1, q, 0)
  | d + 1, q => if tok f T q = true then (if TT f T (tnx f T q) = 5 then ((ph f T d (tnx f T q + 1)).1, (ph f T d (tnx f T q + 1)).2.1, (ph f T d (tnx f T q + 1)).2.2 + 1) else (0, tnx f T q, 1)) else (1, tfp f T q, 0)
def tj (f : Nat → Nat) (T : Nat) : Nat → Nat → Nat
  | 0, q => q
  | i + 1, q => tj f T i (tnx f T q + 1)
theorem ph_le (f : Nat → Nat) (T : Nat) : ∀ d q, (ph f T d q).2.2 ≤ d := by
  intro d
  induction d with
  | zero => intro q; exact Nat.le_refl _
  | succ d ih =>
    intro q
    unfold ph
    by_cases c : tok f T q = true
    · rw [if_pos c]
      by_cases e : TT f T (tnx f T q) = 5
      · rw [if_pos e]
        exact Nat.succ_le_succ (ih _)
      · rw [if_neg e]
        exact Nat.succ_le_succ (Nat.zero_le _)
    · rw [if_neg c]
      exact Nat.zero_le _
theorem ph_2 (f : Nat → Nat) (T : Nat) : ∀ d q, (ph f T d q).1 ≤ 2 := by
  intro d
  induction d with
  | zero =>
    intro q
    unfold ph
    show (if _ then 2 else 1) ≤ 2
    split <;> decide
  | succ d ih =>
    intro q
    unfold ph
    by_cases c : tok f T q = true
    · rw [if_pos c]
      by_cases e : TT f T (tnx f T q) = 5
      · rw [if_pos e]
        exact ih _
      · rw [if_neg e]
        exact Nat.zero_le _
    · rw [if_neg c]
      show 1 ≤ 2
      decide
def hd (f : Nat → Nat) (T n : Nat) : Nat × Nat × Nat := if TT f T n = 7 then (0, n, 0) else ph f T 4 n
def hz (f : Nat → Nat) (T q : Nat) : Nat := if TT f T q = 9 then q + 1 else q
def rz (f : Nat → Nat) (T q : Nat) : Nat × Nat := if TT f T q = 7 then (if TT f T (hz f T (q + 1)) = 2 then (if TT f T (hz f T (q + 1) + 1) = 8 then (0, hz f T (q + 1) + 2) else (1, hz f T (q + 1) + 1)) else (1, hz f T (q + 1))) else (1, q)
def rl (f : Nat → Nat) (T n : Nat) : Nat × Nat := if (hd f T n).1 = 0 then rz f T (hd f T n).2.1 else ((hd f T n).1, (hd f T n).2.1)
def am (f : Nat → Nat) (T q : Nat) : Int32 := if TT f T q = 9 then -(VV f T (q + 1)) else VV f T q
def Am (f : Nat → Nat) (T n : Nat) : Int32 := am f T ((hd f T n).2.1 + 1)
def Cn (f : Nat → Nat) (T n : Nat) : Nat := (hd f T n).2.2
theorem Cn_4 (f : Nat → Nat) (T n : Nat) : Cn f T n ≤ 4 := by
  unfold Cn hd
  by_cases c : TT f T n = 7
  · rw [if_pos c]; exact Nat.zero_le _
  · rw [if_neg c]; exact ph_le f T 4 n
def st (f : Nat → Nat) (T : Nat) : Nat → Nat
  | 0 => 0
  | r + 1 => (rl f T (st f T r)).2
def cu (f : Nat → Nat) (T : Nat) : Nat → Nat
  | 0 => 0
  | r + 1 => cu f T r + Cn f T (st f T r)
theorem cu_4 (f : Nat → Nat) (T : Nat) : ∀ r, cu f T r ≤ 4 * r := by
  intro r
  induction r with
  | zero => exact Nat.le_refl _
  | succ r ih =>
    have := Cn_4 f T (st f T r)
    show cu f T r + Cn f T (st f T r) ≤ _
    omega
def hp (f : Nat → Nat) (T n : Nat) : Prop := TT f T n = 7 ∨ TT f T n = 3 ∨ TT f T n = 4
def hpB (f : Nat → Nat) (T n : Nat) : Bool := decide (TT f T n = 7 ∨ TT f T n = 3 ∨ TT f T n = 4)
def al (f : Nat → Nat) (T : Nat) : Nat → Nat → Nat × Nat × Nat
  | 0, r => if TT f T (st f T r) = 0 then (0, st f T r, r) else if hpB f T (st f T r) = true then (2, st f T r, r) else (1, st f T r, r)
  | d + 1, r => if TT f T (st f T r) = 0 then (0, st f T r, r) else if hpB f T (st f T r) = true then (if (rl f T (st f T r)).1 = 0 then al f T d (r + 1) else ((rl f T (st f T r)).1, (rl f T (st f T r)).2, r)) else (1, st f T r, r)
/-- a term in the class's rows, and in the reference's -/
def tmC (f : Nat → Nat) (T q : Nat) (x y z : Int32) : Prop := (TT f T q = 3 ∧ x = nI 3 ∧ y = nI 61 ∧ z = VV f T q) ∨ (TT f T q = 4 ∧ x = VV f T q ∧ y = VV f T (q + 1) ∧ z = VV f T (q + 2))
def tmM (f : Nat → Nat) (T q : Nat) (x y z : Int32) : Prop := (TT f T q = 3 ∧ x = VV f T q) ∨ (TT f T q = 4 ∧ x = VV f T q + nI 4 ∧ y = VV f T (q + 1) ∧ z = VV f T (q + 2))
def EN (f : Nat → Nat) (T N : Nat) (a : qa) : Prop := 1 ≤ N ∧ N ≤ 401 ∧ a 8 0 4 = nI N ∧ TK f T N a ∧ TT f T (N - 1) = 0
def CS (f : Nat → Nat) (T N n : Nat) (a : qa) : Prop := n < N ∧ a 5 0 1 = nI n ∧ a 5 0 2 = nI (TT f T n) ∧ a 5 0 3 = VV f T n
def KB (b : Nat) (a a' : qa) : Prop := ∀ c i k, ¬ ((c = 5 ∧ k ≤ 3) ∨ ((c = 0 ∨ (12 ≤ c ∧ c ≤ 16)) ∧ i = b)) → a' c i k = a c i k
theorem KB.rf {b : Nat} (a : qa) : KB b a a := fun _ _ _ _ => rfl
theorem KB.tr {b : Nat} {a a1 a2 : qa} (h : KB b a a1) (h2 : KB b a1 a2) : KB b a a2 := fun c i k x => (h2 c i k x).trans (h c i k x)
theorem KB.q {b : Nat} {a a' : qa} (h : KB b a a') {c i k : Nat} {x : Int32} (hc : (c = 5 ∧ k ≤ 3) ∨ ((c = 0 ∨ (12 ≤ c ∧ c ≤ 16)) ∧ i = b)) : KB b a (qs a' c i k x) := by
  intro d j n hn
  rw [← h d j n hn]
  unfold qs
  rw [if_neg (fun e => hn (by obtain ⟨e1, e2, e3⟩ := e; rw [e1, e2, e3]; exact hc))]
theorem EN.kb {f : Nat → Nat} {T N b : Nat} {a a' : qa} (h : EN f T N a) (hk : KB b a a') : EN f T N a' := by
  obtain ⟨h1, h2, h3, h4, h5⟩ := h
  refine ⟨h1, h2, ?_, fun n hn => ?_, h5⟩
  · rw [hk 8 0 4 (by omega)]; exact h3
  · rw [hk 33 0 n (by omega), hk 34 0 n (by omega), hk 35 0 n (by omega)]
    exact h4 n hn
def mv (f : Nat → Nat) (T : Nat) (a : qa) (n : Nat) : qa := qs (qs (qs a 5 0 1 (nI n)) 5 0 2 (nI (TT f T n))) 5 0 3 (VV f T n)
def fl (f : Nat → Nat) (T : Nat) (a : qa) (k n : Nat) : qa := qs (qs a 5 0 4 (nI k)) 5 0 5 (nI (PP f T n))
theorem mv_c {f : Nat → Nat} {T n c i k : Nat} {a : qa} (h : c ≠ 5) : mv f T a n c i k = a c i k := by
  unfold mv
  rw [qs_nc h, qs_nc h, qs_nc h]
theorem mv_k {f : Nat → Nat} {T n b : Nat} {a a' : qa} (h : KB b a a') : KB b a (mv f T a' n) := ((h.q (Or.inl ⟨rfl, by decide⟩)).q (Or.inl ⟨rfl, by decide⟩)).q (Or.inl ⟨rfl, by decide⟩)
theorem mv_s {f : Nat → Nat} {T N n : Nat} {a : qa} (h : n < N) : CS f T N n (mv f T a n) := by
  unfold mv
  refine ⟨h, ?_, ?_, ?_⟩
  · rw [qs_nk (by decide), qs_nk (by decide), qs_eq]
  · rw [qs_nk (by decide), qs_eq]
  · rw [qs_eq]
theorem EN.lt {f : Nat → Nat} {T N n : Nat} {a : qa} (h : EN f T N a) (hn : n < N) (h0 : TT f T n ≠ 0) : n + 1 < N := by
  by_cases c : n + 1 < N
  · exact c
  · exfalso
    apply h0
    have e : n = N - 1 := by omega
    rw [e]
    exact h.2.2.2.2
theorem TT9 (f : Nat → Nat) (T n : Nat) : TT f T n ≤ 9 := tk_9 f T _
theorem sp_move {t p T N n : Nat} {f : Nat → Nat} {a : qa} {post : qa → Prop} (h : EN f T N a) (hn : n < N) (kk : post (mv f T a n)) : wp_X5_moveTo t p (nI n) a post := by
  obtain ⟨h1, h2, h3, h4, h5⟩ := h
  obtain ⟨g1, g2, g3⟩ := h4 n hn
  simp (disch := first | assumption | omega) only [wp_X5_moveTo, h3, g1, g3, l0, l1, l2, l3, l4, l5, l6, l7, l8, l9, l10, l20, l60, l61, l62, bb_t, bb_f, l100, l120, l512, l400, l401, l700, l9999, nm1, lm1, nlt, nle, neq, glt, gle, lgt, lge, geq, egq, mI_l, mI_e, e_mI, l_mI, le_mI, mI_le, bI_z, nC, vnI, nI_add, nI_sb, nI_mul, a1m, qs_eq, qs_nc, qs_ni, qs_nk, bq_l, bq_r, bq_l', bq_r', bq_t, bq_f, bq_t', bq_f', bq_n, bq_m, iT, iS, iN, true_and, and_true, eq_self, not_true_eq_false, not_false_eq_true, forall_const, bx_t, bx_f, reduceCtorEq, Option.some.injEq, forall_eq', ite_true, ite_false]
  exact kk
theorem sp_fail {t p T N n k : Nat} {f : Nat → Nat} {a : qa} {post : Int32 → qa → Prop} (h : EN f T N a) (hs : CS f T N n a) (kk : post (nI 0) (fl f T a k n)) : wp_X5_fail t p (nI k) a post := by
  obtain ⟨h1, h2, h3, h4, h5⟩ := h
  obtain ⟨hn, e1, e2, e3⟩ := hs
  obtain ⟨g1, g2, g3⟩ := h4 n hn
  simp (disch := first | assumption | omega) only [wp_X5_fail, e1, g2, l0, l1, l2, l3, l4, l5, l6, l7, l8, l9, l10, l20, l60, l61, l62, bb_t, bb_f, l100, l120, l512, l400, l401, l700, l9999, nm1, lm1, nlt, nle, neq, glt, gle, lgt, lge, geq, egq, mI_l, mI_e, e_mI, l_mI, le_mI, mI_le, bI_z, nC, vnI, nI_add, nI_sb, nI_mul, a1m, qs_eq, qs_nc, qs_ni, qs_nk, bq_l, bq_r, bq_l', bq_r', bq_t, bq_f, bq_t', bq_f', bq_n, bq_m, iT, iS, iN, true_and, and_true, eq_self, not_true_eq_false, not_false_eq_true, forall_const, bx_t, bx_f, reduceCtorEq, Option.some.injEq, forall_eq', ite_true, ite_false]
  exact kk
theorem sp_take {t p T N n w : Nat} {f : Nat → Nat} {a : qa} {post : Int32 → qa → Prop} (h : EN f T N a) (hs : CS f T N n a) (hw : 1 ≤ w) (hw9 : w ≤ 9) (k1 : TT f T n = w → n + 1 < N → post (nI 1) (mv f T a (n + 1))) (k0 : ¬ TT f T n = w → post (nI 0) (fl f T a 1 n)) : wp_X5_take t p (nI w) a post := by
  have h9 := TT9 f T n
  obtain ⟨hn, e1, e2, e3⟩ := id hs
  unfold wp_X5_take
  by_cases c : TT f T n = w
  · have hl := h.lt hn (by omega)
    simp (disch := first | assumption | omega) only [e1, e2, l0, l1, l2, l3, l4, l5, l6, l7, l8, l9, l10, l20, l60, l61, l62, bb_t, bb_f, l100, l120, l512, l400, l401, l700, l9999, nm1, lm1, nlt, nle, neq, glt, gle, lgt, lge, geq, egq, mI_l, mI_e, e_mI, l_mI, le_mI, mI_le, bI_z, nC, vnI, nI_add, nI_sb, nI_mul, a1m, qs_eq, qs_nc, qs_ni, qs_nk, bq_l, bq_r, bq_l', bq_r', bq_t, bq_f, bq_t', bq_f', bq_n, bq_m, iT, iS, iN, true_and, and_true, eq_self, not_true_eq_false, not_false_eq_true, forall_const, bx_t, bx_f, reduceCtorEq, Option.some.injEq, forall_eq', ite_true, ite_false]
    exact sp_move h hl (k1 c hl)
  · simp (disch := first | assumption | omega) only [e2, l0, l1, l2, l3, l4, l5, l6, l7, l8, l9, l10, l20, l60, l61, l62, bb_t, bb_f, l100, l120, l512, l400, l401, l700, l9999, nm1, lm1, nlt, nle, neq, glt, gle, lgt, lge, geq, egq, mI_l, mI_e, e_mI, l_mI, le_mI, mI_le, bI_z, nC, vnI, nI_add, nI_sb, nI_mul, a1m, qs_eq, qs_nc, qs_ni, qs_nk, bq_l, bq_r, bq_l', bq_r', bq_t, bq_f, bq_t', bq_f', bq_n, bq_m, iT, iS, iN, true_and, and_true, eq_self, not_true_eq_false, not_false_eq_true, forall_const, bx_t, bx_f, reduceCtorEq, Option.some.injEq, forall_eq', ite_true, ite_false]
    refine sp_fail (k := 1) h hs ⟨Or.inl rfl, k0 c⟩
theorem sp_ahead {t p T N n : Nat} {f : Nat → Nat} {a : qa} {post : Int32 → qa → Prop} (hs : CS f T N n a) (k1 : TT f T n = 3 ∨ TT f T n = 4 → post (nI 1) a) (k0 : ¬ (TT f T n = 3 ∨ TT f T n = 4) → post (nI 0) a) : wp_X5_isTermAhead t p a post := by
  have h9 := TT9 f T n
  obtain ⟨hn, e1, e2, e3⟩ := id hs
  unfold wp_X5_isTermAhead
  by_cases c : TT f T n = 3
  · simp (disch := first | assumption | omega) only [e2, l0, l1, l2, l3, l4, l5, l6, l7, l8, l9, l10, l20, l60, l61, l62, bb_t, bb_f, l100, l120, l512, l400, l401, l700, l9999, nm1, lm1, nlt, nle, neq, glt, gle, lgt, lge, geq, egq, mI_l, mI_e, e_mI, l_mI, le_mI, mI_le, bI_z, nC, vnI, nI_add, nI_sb, nI_mul, a1m, qs_eq, qs_nc, qs_ni, qs_nk, bq_l, bq_r, bq_l', bq_r', bq_t, bq_f, bq_t', bq_f', bq_n, bq_m, iT, iS, iN, true_and, and_true, eq_self, not_true_eq_false, not_false_eq_true, forall_const, bx_t, bx_f, reduceCtorEq, Option.some.injEq, forall_eq', ite_true, ite_false]
    exact k1 (Or.inl c)
  by_cases d : TT f T n = 4
  · simp (disch := first | assumption | omega) only [e2, l0, l1, l2, l3, l4, l5, l6, l7, l8, l9, l10, l20, l60, l61, l62, bb_t, bb_f, l100, l120, l512, l400, l401, l700, l9999, nm1, lm1, nlt, nle, neq, glt, gle, lgt, lge, geq, egq, mI_l, mI_e, e_mI, l_mI, le_mI, mI_le, bI_z, nC, vnI, nI_add, nI_sb, nI_mul, a1m, qs_eq, qs_nc, qs_ni, qs_nk, bq_l, bq_r, bq_l', bq_r', bq_t, bq_f, bq_t', bq_f', bq_n, bq_m, iT, iS, iN, true_and, and_true, eq_self, not_true_eq_false, not_false_eq_true, forall_const, bx_t, bx_f, reduceCtorEq, Option.some.injEq, forall_eq', ite_true, ite_false]
    exact k1 (Or.inr d)
  simp (disch := first | assumption | omega) only [e2, l0, l1, l2, l3, l4, l5, l6, l7, l8, l9, l10, l20, l60, l61, l62, bb_t, bb_f, l100, l120, l512, l400, l401, l700, l9999, nm1, lm1, nlt, nle, neq, glt, gle, lgt, lge, geq, egq, mI_l, mI_e, e_mI, l_mI, le_mI, mI_le, bI_z, nC, vnI, nI_add, nI_sb, nI_mul, a1m, qs_eq, qs_nc, qs_ni, qs_nk, bq_l, bq_r, bq_l', bq_r', bq_t, bq_f, bq_t', bq_f', bq_n, bq_m, iT, iS, iN, true_and, and_true, eq_self, not_true_eq_false, not_false_eq_true, forall_const, bx_t, bx_f, reduceCtorEq, Option.some.injEq, forall_eq', ite_true, ite_false]
  exact k0 (by omega)
def adM (a : qa) (b c : Nat) (x y z : Int32) : qa := qs (qs (qs (qs a 14 b c x) 15 b c y) 16 b c z) 0 b 6 (nI (c + 1))
theorem sp_addTerm {t p b c : Nat} {x y z : Int32} {a : qa} {post : qa → Prop} (h6 : a 0 b 6 = nI c) (hc : c < 80) (kk : post (adM a b c x y z)) : wp_X0_addTerm t p b x y z a post := by
  simp (disch := first | assumption | omega) only [wp_X0_addTerm, h6, l80, l0, l1, l2, l3, l4, l5, l6, l7, l8, l9, l10, l20, l60, l61, l62, bb_t, bb_f, l100, l120, l512, l400, l401, l700, l9999, nm1, lm1, nlt, nle, neq, glt, gle, lgt, lge, geq, egq, mI_l, mI_e, e_mI, l_mI, le_mI, mI_le, bI_z, nC, vnI, nI_add, nI_sb, nI_mul, a1m, qs_eq, qs_nc, qs_ni, qs_nk, bq_l, bq_r, bq_l', bq_r', bq_t, bq_f, bq_t', bq_f', bq_n, bq_m, iT, iS, iN, true_and, and_true, eq_self, not_true_eq_false, not_false_eq_true, forall_const, bx_t, bx_f, reduceCtorEq, Option.some.injEq, forall_eq', ite_true, ite_false]
  exact kk
theorem adM_k {a : qa} {b c : Nat} {x y z : Int32} : KB b a (adM a b c x y z) := ((((KB.rf a).q (Or.inr ⟨Or.inr ⟨by decide, by decide⟩, rfl⟩)).q (Or.inr ⟨Or.inr ⟨by decide, by decide⟩, rfl⟩)).q (Or.inr ⟨Or.inr ⟨by decide, by decide⟩, rfl⟩)).q (Or.inr ⟨Or.inl rfl, rfl⟩)
theorem adM_s {f : Nat → Nat} {T N n : Nat} {a : qa} {b c : Nat} {x y z : Int32} (h : CS f T N n a) : CS f T N n (adM a b c x y z) := by
  unfold CS adM
  simp only [qs_nc (show (5 : Nat) ≠ 0 by decide), qs_nc (show (5 : Nat) ≠ 16 by decide), qs_nc (show (5 : Nat) ≠ 15 by decide), qs_nc (show (5 : Nat) ≠ 14 by decide)]
  exact h
/-- m terms, from token q on, behind c terms -/
def RT (f : Nat → Nat) (T b c m q : Nat) (a a' : qa) : Prop := a' 0 b 6 = nI (c + m) ∧ a' 0 b 5 = a 0 b 5 ∧ a' 12 b = a 12 b ∧ a' 13 b = a 13 b ∧ (∀ k, k < c → a' 14 b k = a 14 b k ∧ a' 15 b k = a 15 b k ∧ a' 16 b k = a 16 b k) ∧ ∀ i, i < m → tmC f T (tj f T i q) (a' 14 b (c + i)) (a' 15 b (c + i)) (a' 16 b (c + i))
theorem RT_0 {f : Nat → Nat} {T b c q : Nat} {a : qa} (h : a 0 b 6 = nI c) : RT f T b c 0 q a a := ⟨h, rfl, rfl, rfl, fun _ _ => ⟨rfl, rfl, rfl⟩, fun i hi => by omega⟩
theorem RT_1 {f : Nat → Nat} {T b c q n : Nat} {x y z : Int32} {a a1 : qa} (h : ∀ e i k, e ≠ 5 → a1 e i k = a e i k) (hm : tmC f T q x y z) : RT f T b c 1 q a (mv f T (adM a1 b c x y z) n) := by
  unfold RT
  simp only [mv_c (show (0 : Nat) ≠ 5 by decide), mv_c (show (14 : Nat) ≠ 5 by decide), mv_c (show (15 : Nat) ≠ 5 by decide), mv_c (show (16 : Nat) ≠ 5 by decide)]
  unfold adM
  refine ⟨by rw [qs_eq], ?_, ?_, ?_, fun k hk => ⟨?_, ?_, ?_⟩, fun i hi => ?_⟩
  · rw [qs_nk (by decide), qs_nc (by decide), qs_nc (by decide), qs_nc (by decide), h _ _ _ (by decide)]
  · funext k
    rw [mv_c (by decide), qs_nc (by decide), qs_nc (by decide), qs_nc (by decide), qs_nc (by decide), h _ _ _ (by decide)]
  · funext k
    rw [mv_c (by decide), qs_nc (by decide), qs_nc (by decide), qs_nc (by decide), qs_nc (by decide), h _ _ _ (by decide)]
  · rw [qs_nc (by decide), qs_nc (by decide), qs_nc (by decide), qs_nk (by omega), h _ _ _ (by decide)]
  · rw [qs_nc (by decide), qs_nc (by decide), qs_nk (by omega), qs_nc (by decide), h _ _ _ (by decide)]
  · rw [qs_nc (by decide), qs_nk (by omega), qs_nc (by decide), qs_nc (by decide), h _ _ _ (by decide)]
  · obtain rfl : i = 0 := by omega
    rw [Nat.add_zero c, qs_nc (by decide), qs_nc (by decide), qs_nc (by decide), qs_eq, qs_nc (by decide), qs_nc (by decide), qs_eq, qs_nc (by decide), qs_eq]
    exact hm
theorem RT_tr {f : Nat → Nat} {T b c m q : Nat} {a a1 a2 : qa} (h1 : RT f T b c 1 q a a1) (h2 : RT f T b (c + 1) m (tnx f T q + 1) a1 a2) : RT f T b c (m + 1) q a a2 := by
  obtain ⟨p1, p2, p3, p4, p5, p6⟩ := h1
  obtain ⟨r1, r2, r3, r4, r5, r6⟩ := h2
  refine ⟨by rw [r1, show c + 1 + m = c + (m + 1) by omega], r2.trans p2, r3.trans p3, r4.trans p4, fun k hk => ?_, fun i hi => ?_⟩
  · obtain ⟨x1, x2, x3⟩ := r5 k (by omega)
    obtain ⟨y1, y2, y3⟩ := p5 k hk
    exact ⟨x1.trans y1, x2.trans y2, x3.trans y3⟩
  · cases i with
    | zero =>
      obtain ⟨x1, x2, x3⟩ := r5 c (by omega)
      have := p6 0 (by omega)
      rw [Nat.add_zero c] at this ⊢
      rw [x1, x2, x3]
      exact this
    | succ i =>
      have := r6 i (by omega)
      rw [show c + 1 + i = c + (i + 1) by omega] at this
      exact this
theorem RT_mv {f : Nat → Nat} {T b c m q n : Nat} {a a1 : qa} (h1 : RT f T b c m q a a1) : RT f T b c m q a (mv f T a1 n) := by
  have e : ∀ c, c ≠ 5 → mv f T a1 n c = a1 c := fun c h => by funext i k; exact mv_c h
  unfold RT
  rw [e 0 (by decide), e 12 (by decide), e 13 (by decide), e 14 (by decide), e 15 (by decide), e 16 (by decide)]
  exact h1
set_option maxHeartbeats 4000000 in
theorem sp_readTerm {t p T N q b c : Nat} {f : Nat → Nat} {a : qa} {post : Int32 → qa → Prop} (h : EN f T N a) (hs : CS f T N q a) (h6 : a 0 b 6 = nI c) (hc : c < 80) (k1 : tok f T q = true → ∀ a', KB b a a' → CS f T N (tnx f T q) a' → RT f T b c 1 q a a' → post (nI 1) a') (k0 : tok f T q = false → ∀ a', KB b a a' → post (nI 0) (fl f T a' 1 (tfp f T q))) : wp_X5_readTerm t p b a post := by
  have h9 := TT9 f T q
  have h91 := TT9 f T (q + 1)
  obtain ⟨hn, e1, e2, e3⟩ := id hs
  unfold wp_X5_readTerm
  by_cases c3 : TT f T q = 3
  · have hl := h.lt hn (by omega)
    have eT : tok f T q = true := decide_eq_true (Or.inl c3)
    have eN : tnx f T q = q + 1 := if_pos c3
    simp (disch := first | assumption | omega) only [e2, e3, l0, l1, l2, l3, l4, l5, l6, l7, l8, l9, l10, l20, l60, l61, l62, bb_t, bb_f, l100, l120, l512, l400, l401, l700, l9999, nm1, lm1, nlt, nle, neq, glt, gle, lgt, lge, geq, egq, mI_l, mI_e, e_mI, l_mI, le_mI, mI_le, bI_z, nC, vnI, nI_add, nI_sb, nI_mul, a1m, qs_eq, qs_nc, qs_ni, qs_nk, bq_l, bq_r, bq_l', bq_r', bq_t, bq_f, bq_t', bq_f', bq_n, bq_m, iT, iS, iN, true_and, and_true, eq_self, not_true_eq_false, not_false_eq_true, forall_const, bx_t, bx_f, reduceCtorEq, Option.some.injEq, forall_eq', ite_true, ite_false]
    refine sp_addTerm h6 hc ?_
    refine sp_take (w := 3) (h.kb adM_k) (adM_s hs) (by decide) (by decide) (fun _ hl => ?_) (fun x => absurd c3 x)
    refine ⟨Or.inr rfl, k1 eT _ (mv_k adM_k) (by rw [eN]; exact mv_s hl) (RT_1 (fun _ _ _ _ => rfl) (Or.inl ⟨c3, rfl, rfl, rfl⟩))⟩
  · simp (disch := first | assumption | omega) only [e2, l0, l1, l2, l3, l4, l5, l6, l7, l8, l9, l10, l20, l60, l61, l62, bb_t, bb_f, l100, l120, l512, l400, l401, l700, l9999, nm1, lm1, nlt, nle, neq, glt, gle, lgt, lge, geq, egq, mI_l, mI_e, e_mI, l_mI, le_mI, mI_le, bI_z, nC, vnI, nI_add, nI_sb, nI_mul, a1m, qs_eq, qs_nc, qs_ni, qs_nk, bq_l, bq_r, bq_l', bq_r', bq_t, bq_f, bq_t', bq_f', bq_n, bq_m, iT, iS, iN, true_and, and_true, eq_self, not_true_eq_false, not_false_eq_true, forall_const, bx_t, bx_f, reduceCtorEq, Option.some.injEq, forall_eq', ite_true, ite_false]
    refine sp_take (w := 4) h hs (by decide) (by decide) (fun c4 hl => ?_) (fun c4 => ?_)
    rotate_left 1
    · have eT : tok f T q = false := decide_eq_false (by omega)
      have eF : tfp f T q = q := if_neg c4
      have r := k0 eT _ (KB.rf a)
      rw [eF] at r
      simp (disch := first | assumption | omega) only [l0, l1, l2, l3, l4, l5, l6, l7, l8, l9, l10, l20, l60, l61, l62, bb_t, bb_f, l100, l120, l512, l400, l401, l700, l9999, nm1, lm1, nlt, nle, neq, glt, gle, lgt, lge, geq, egq, mI_l, mI_e, e_mI, l_mI, le_mI, mI_le, bI_z, nC, vnI, nI_add, nI_sb, nI_mul, a1m, qs_eq, qs_nc, qs_ni, qs_nk, bq_l, bq_r, bq_l', bq_r', bq_t, bq_f, bq_t', bq_f', bq_n, bq_m, iT, iS, iN, true_and, and_true, eq_self, not_true_eq_false, not_false_eq_true, forall_const, bx_t, bx_f, reduceCtorEq, Option.some.injEq, forall_eq', ite_true, ite_false]
      exact r
    have s1 : CS f T N (q + 1) (mv f T a (q + 1)) := mv_s hl
    have h1 := h.kb (b := b) (mv_k (f := f) (T := T) (n := q + 1) (KB.rf a))
    have v1 : mv f T a (q + 1) 5 0 3 = VV f T (q + 1) := s1.2.2.2
    simp (disch := first | assumption | omega) only [e3, v1, l0, l1, l2, l3, l4, l5, l6, l7, l8, l9, l10, l20, l60, l61, l62, bb_t, bb_f, l100, l120, l512, l400, l401, l700, l9999, nm1, lm1, nlt, nle, neq, glt, gle, lgt, lge, geq, egq, mI_l, mI_e, e_mI, l_mI, le_mI, mI_le, bI_z, nC, vnI, nI_add, nI_sb, nI_mul, a1m, qs_eq, qs_nc, qs_ni, qs_nk, bq_l, bq_r, bq_l', bq_r', bq_t, bq_f, bq_t', bq_f', bq_n, bq_m, iT, iS, iN, true_and, and_true, eq_self, not_true_eq_false, not_false_eq_true, forall_const, bx_t, bx_f, reduceCtorEq, Option.some.injEq, forall_eq', ite_true, ite_false]
    refine sp_take (w := 6) h1 s1 (by decide) (by decide) (fun c6 hl2 => ?_) (fun c6 => ?_)
    rotate_left 1
    · have eT : tok f T q = false := decide_eq_false (by omega)
      have eF : tfp f T q = q + 1 := by unfold tfp; rw [if_pos c4, if_neg c6]
      have r := k0 eT _ (mv_k (f := f) (T := T) (n := q + 1) (KB.rf a))
      rw [eF] at r
      simp (disch := first | assumption | omega) only [l0, l1, l2, l3, l4, l5, l6, l7, l8, l9, l10, l20, l60, l61, l62, bb_t, bb_f, l100, l120, l512, l400, l401, l700, l9999, nm1, lm1, nlt, nle, neq, glt, gle, lgt, lge, geq, egq, mI_l, mI_e, e_mI, l_mI, le_mI, mI_le, bI_z, nC, vnI, nI_add, nI_sb, nI_mul, a1m, qs_eq, qs_nc, qs_ni, qs_nk, bq_l, bq_r, bq_l', bq_r', bq_t, bq_f, bq_t', bq_f', bq_n, bq_m, iT, iS, iN, true_and, and_true, eq_self, not_true_eq_false, not_false_eq_true, forall_const, bx_t, bx_f, reduceCtorEq, Option.some.injEq, forall_eq', ite_true, ite_false]
      exact r
    have s2 : CS f T N (q + 2) (mv f T (mv f T a (q + 1)) (q + 2)) := mv_s hl2
    have v2 : mv f T (mv f T a (q + 1)) (q + 2) 5 0 3 = VV f T (q + 2) := s2.2.2.2
    have kb2 : KB b a (mv f T (mv f T a (q + 1)) (q + 2)) := mv_k (mv_k (KB.rf a))
    have e6 : mv f T (mv f T a (q + 1)) (q + 2) 0 b 6 = nI c := by rw [mv_c (by decide), mv_c (by decide)]; exact h6
    have e5 : ∀ e i k, e ≠ 5 → mv f T (mv f T a (q + 1)) (q + 2) e i k = a e i k := fun e i k x => by rw [mv_c x, mv_c x]
    have eqq : q + 1 + 1 = q + 2 := rfl
    simp only [eqq]
    simp (disch := first | assumption | omega) only [v2, l0, l1, l2, l3, l4, l5, l6, l7, l8, l9, l10, l20, l60, l61, l62, bb_t, bb_f, l100, l120, l512, l400, l401, l700, l9999, nm1, lm1, nlt, nle, neq, glt, gle, lgt, lge, geq, egq, mI_l, mI_e, e_mI, l_mI, le_mI, mI_le, bI_z, nC, vnI, nI_add, nI_sb, nI_mul, a1m, qs_eq, qs_nc, qs_ni, qs_nk, bq_l, bq_r, bq_l', bq_r', bq_t, bq_f, bq_t', bq_f', bq_n, bq_m, iT, iS, iN, true_and, and_true, eq_self, not_true_eq_false, not_false_eq_true, forall_const, bx_t, bx_f, reduceCtorEq, Option.some.injEq, forall_eq', ite_true, ite_false]
    refine sp_addTerm e6 hc ?_
    refine sp_take (w := 2) ((h.kb kb2).kb adM_k) (adM_s s2) (by decide) (by decide) (fun c2 hl3 => ?_) (fun c2 => ?_)
    · have eT : tok f T q = true := decide_eq_true (Or.inr ⟨c4, c6, c2⟩)
      have eN : tnx f T q = q + 3 := if_neg c3
      refine ⟨Or.inr rfl, k1 eT _ (mv_k (kb2.tr adM_k)) (by rw [eN]; exact mv_s hl3) (RT_1 e5 (Or.inr ⟨c4, rfl, rfl, rfl⟩))⟩
    · have eT : tok f T q = false := decide_eq_false (by omega)
      have eF : tfp f T q = q + 2 := by unfold tfp; rw [if_pos c4, if_pos c6]
      have r := k0 eT _ (kb2.tr (adM_k (c := c) (x := VV f T q) (y := VV f T (q + 1)) (z := VV f T (q + 2))))
      rw [eF] at r
      exact ⟨Or.inl rfl, r⟩
set_option maxHeartbeats 4000000 in
theorem sl_terms {t p T N b : Nat} {f : Nat → Nat} : ∀ (d : Nat) (q c : Nat) (a : qa) (post : Int32 → qa → Prop), d ≤ 4 → c + d ≤ 80 → EN f T N a → CS f T N q a → a 0 b 6 = nI c → ((ph f T d q).1 = 0 → ∀ a', KB b a a' → CS f T N (ph f T d q).2.1 a' → RT f T b c (ph f T d q).2.2 q a a' → post (nI 1) a') → (¬ (ph f T d q).1 = 0 → ∀ a', KB b a a' → post (nI 0) (fl f T a' (ph f T d q).1 (ph f T d q).2.1)) → wl_X5_readTerms_2 t p post (d + 1) b (nI (4 - d)) a := by
  intro d
  induction d with
  | zero =>
    intro q c a post hd hc h hs h6 k1 k0
    unfold wl_X5_readTerms_2
    have n4 : nI (4 - 0) = nI 4 := rfl
    rw [n4]
    simp (disch := first | assumption | omega) only [l0, l1, l2, l3, l4, l5, l6, l7, l8, l9, l10, l20, l60, l61, l62, bb_t, bb_f, l100, l120, l512, l400, l401, l700, l9999, nm1, lm1, nlt, nle, neq, glt, gle, lgt, lge, geq, egq, mI_l, mI_e, e_mI, l_mI, le_mI, mI_le, bI_z, nC, vnI, nI_add, nI_sb, nI_mul, a1m, qs_eq, qs_nc, qs_ni, qs_nk, bq_l, bq_r, bq_l', bq_r', bq_t, bq_f, bq_t', bq_f', bq_n, bq_m, iT, iS, iN, true_and, and_true, eq_self, not_true_eq_false, not_false_eq_true, forall_const, bx_t, bx_f, reduceCtorEq, Option.some.injEq, forall_eq', ite_true, ite_false]
    refine sp_ahead hs (fun x => ?_) (fun x => ?_)
    · have e : ph f T 0 q = (2, q, 0) := by unfold ph; rw [if_pos x]
      have r := k0 (by rw [e]; exact Nat.succ_ne_zero _) a (KB.rf a)
      rw [e] at r
      simp (disch := first | assumption | omega) only [l0, l1, l2, l3, l4, l5, l6, l7, l8, l9, l10, l20, l60, l61, l62, bb_t, bb_f, l100, l120, l512, l400, l401, l700, l9999, nm1, lm1, nlt, nle, neq, glt, gle, lgt, lge, geq, egq, mI_l, mI_e, e_mI, l_mI, le_mI, mI_le, bI_z, nC, vnI, nI_add, nI_sb, nI_mul, a1m, qs_eq, qs_nc, qs_ni, qs_nk, bq_l, bq_r, bq_l', bq_r', bq_t, bq_f, bq_t', bq_f', bq_n, bq_m, iT, iS, iN, true_and, and_true, eq_self, not_true_eq_false, not_false_eq_true, forall_const, bx_t, bx_f, reduceCtorEq, Option.some.injEq, forall_eq', ite_true, ite_false]
      exact sp_fail (k := 2) h hs ⟨Or.inl rfl, r⟩
    · have e : ph f T 0 q = (1, q, 0) := by unfold ph; rw [if_neg x]
      have r := k0 (by rw [e]; exact Nat.succ_ne_zero _) a (KB.rf a)
      rw [e] at r
      simp (disch := first | assumption | omega) only [l0, l1, l2, l3, l4, l5, l6, l7, l8, l9, l10, l20, l60, l61, l62, bb_t, bb_f, l100, l120, l512, l400, l401, l700, l9999, nm1, lm1, nlt, nle, neq, glt, gle, lgt, lge, geq, egq, mI_l, mI_e, e_mI, l_mI, le_mI, mI_le, bI_z, nC, vnI, nI_add, nI_sb, nI_mul, a1m, qs_eq, qs_nc, qs_ni, qs_nk, bq_l, bq_r, bq_l', bq_r', bq_t, bq_f, bq_t', bq_f', bq_n, bq_m, iT, iS, iN, true_and, and_true, eq_self, not_true_eq_false, not_false_eq_true, forall_const, bx_t, bx_f, reduceCtorEq, Option.some.injEq, forall_eq', ite_true, ite_false]
      exact sp_fail (k := 1) h hs ⟨Or.inl rfl, r⟩
  | succ d ih =>
    intro q c a post hd hc h hs h6 k1 k0
    unfold wl_X5_readTerms_2
    have nl : ¬ nI 4 ≤ nI (4 - (d + 1)) := by rw [nle (by omega) (by omega)]; omega
    simp (disch := first | assumption | omega) only [nl, l0, l1, l2, l3, l4, l5, l6, l7, l8, l9, l10, l20, l60, l61, l62, bb_t, bb_f, l100, l120, l512, l400, l401, l700, l9999, nm1, lm1, nlt, nle, neq, glt, gle, lgt, lge, geq, egq, mI_l, mI_e, e_mI, l_mI, le_mI, mI_le, bI_z, nC, vnI, nI_add, nI_sb, nI_mul, a1m, qs_eq, qs_nc, qs_ni, qs_nk, bq_l, bq_r, bq_l', bq_r', bq_t, bq_f, bq_t', bq_f', bq_n, bq_m, iT, iS, iN, true_and, and_true, eq_self, not_true_eq_false, not_false_eq_true, forall_const, bx_t, bx_f, reduceCtorEq, Option.some.injEq, forall_eq', ite_true, ite_false]
    refine sp_readTerm h hs h6 (by omega) (fun eT a1 b1 b2 b3 => ?_) (fun eT a1 b1 => ?_)
    rotate_left 1
    · have e : ph f T (d + 1) q = (1, tfp f T q, 0) := by unfold ph; rw [if_neg (by rw [eT]; decide)]
      have r := k0 (by rw [e]; exact Nat.succ_ne_zero _) a1 b1
      rw [e] at r
      simp (disch := first | assumption | omega) only [l0, l1, l2, l3, l4, l5, l6, l7, l8, l9, l10, l20, l60, l61, l62, bb_t, bb_f, l100, l120, l512, l400, l401, l700, l9999, nm1, lm1, nlt, nle, neq, glt, gle, lgt, lge, geq, egq, mI_l, mI_e, e_mI, l_mI, le_mI, mI_le, bI_z, nC, vnI, nI_add, nI_sb, nI_mul, a1m, qs_eq, qs_nc, qs_ni, qs_nk, bq_l, bq_r, bq_l', bq_r', bq_t, bq_f, bq_t', bq_f', bq_n, bq_m, iT, iS, iN, true_and, and_true, eq_self, not_true_eq_false, not_false_eq_true, forall_const, bx_t, bx_f, reduceCtorEq, Option.some.injEq, forall_eq', ite_true, ite_false]
      exact r
    have h1 := h.kb b1
    have t9 := TT9 f T (tnx f T q)
    have e2 := b2.2.2.1
    have e1 := b2.2.1
    by_cases c5 : TT f T (tnx f T q) = 5
    · have e : ph f T (d + 1) q = ((ph f T d (tnx f T q + 1)).1, (ph f T d (tnx f T q + 1)).2.1, (ph f T d (tnx f T q + 1)).2.2 + 1) := by rw [ph, if_pos eT, if_pos c5]
      rw [e] at k1 k0
      have hl := h1.lt b2.1 (by omega)
      simp (disch := first | assumption | omega) only [e1, e2, l0, l1, l2, l3, l4, l5, l6, l7, l8, l9, l10, l20, l60, l61, l62, bb_t, bb_f, l100, l120, l512, l400, l401, l700, l9999, nm1, lm1, nlt, nle, neq, glt, gle, lgt, lge, geq, egq, mI_l, mI_e, e_mI, l_mI, le_mI, mI_le, bI_z, nC, vnI, nI_add, nI_sb, nI_mul, a1m, qs_eq, qs_nc, qs_ni, qs_nk, bq_l, bq_r, bq_l', bq_r', bq_t, bq_f, bq_t', bq_f', bq_n, bq_m, iT, iS, iN, true_and, and_true, eq_self, not_true_eq_false, not_false_eq_true, forall_const, bx_t, bx_f, reduceCtorEq, Option.some.injEq, forall_eq', ite_true, ite_false]
      refine sp_move h1 hl ?_
      have e4 : nI (4 - (d + 1)) + nI 1 = nI (4 - d) := by rw [nI_add, show 4 - (d + 1) + 1 = 4 - d by omega]
      try rw [e4]
      try rw [show 4 - (d + 1) + 1 = 4 - d by omega]
      refine ih (tnx f T q + 1) (c + 1) _ post (by omega) (by omega) (h1.kb (b := b) (mv_k (KB.rf a1))) (mv_s hl) (by rw [mv_c (by decide)]; exact b3.1) (fun x a2 g1 g2 g3 => ?_) (fun x a2 g1 => ?_)
      · exact k1 x a2 ((mv_k b1).tr g1) g2 (RT_tr (RT_mv b3) g3)
      · exact k0 x a2 ((mv_k b1).tr g1)
    · have e : ph f T (d + 1) q = (0, tnx f T q, 1) := by rw [ph, if_pos eT, if_neg c5]
      rw [e] at k1
      have r := k1 rfl a1 b1 b2 b3
      simp (disch := first | assumption | omega) only [e2, l0, l1, l2, l3, l4, l5, l6, l7, l8, l9, l10, l20, l60, l61, l62, bb_t, bb_f, l100, l120, l512, l400, l401, l700, l9999, nm1, lm1, nlt, nle, neq, glt, gle, lgt, lge, geq, egq, mI_l, mI_e, e_mI, l_mI, le_mI, mI_le, bI_z, nC, vnI, nI_add, nI_sb, nI_mul, a1m, qs_eq, qs_nc, qs_ni, qs_nk, bq_l, bq_r, bq_l', bq_r', bq_t, bq_f, bq_t', bq_f', bq_n, bq_m, iT, iS, iN, true_and, and_true, eq_self, not_true_eq_false, not_false_eq_true, forall_const, bx_t, bx_f, reduceCtorEq, Option.some.injEq, forall_eq', ite_true, ite_false]
      exact r
