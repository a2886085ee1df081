theorem allN_eq {f g : Nat → Bool} : ∀ n, (∀ i, i < n → f i = g i) → allN f n = allN g n := by
  intro n
  induction n with
  | zero => intro _; rfl
  | succ n ih =>
    intro h
    unfold allN
    rw [ih (fun i hi => h i (by omega)), h n (by omega)]
theorem lstN_eq {f g : Nat → Bool} : ∀ n, (∀ i, i < n → f i = g i) → lstN f n = lstN g n := by
  intro n
  induction n with
  | zero => intro _; rfl
  | succ n ih =>
    intro h
    unfold lstN
    rw [ih (fun i hi => h i (by omega)), h n (by omega)]
/-- the worth of a pack hangs on the rows of the bargains alone -/
theorem wth_lo {a a' : qa} {Hh B q : Nat} (hH : iH Hh B a) (e55 : a' 55 0 q = a 55 0 q) (e56 : a' 56 0 q = a 56 0 q) (e62 : a' 62 0 q = a 62 0 q) (e63 : a' 63 0 q = a 63 0 q) (e64 : a' 64 0 q = a 64 0 q) (h2 : ∀ k, k < B → a' 72 0 k = a 72 0 k ∧ a' 73 0 k = a 73 0 k) (h4 : ∀ k, k < 20 * B → a' 74 0 k = a 74 0 k ∧ a' 75 0 k = a 75 0 k) (h6 : ∀ k, k < 80 * B → a' 76 0 k = a 76 0 k ∧ a' 77 0 k = a 77 0 k ∧ a' 78 0 k = a 78 0 k) : wth a' B q = wth a B q := by
  obtain ⟨b1, b2, b3, b4⟩ := hH
  have k1 : ∀ k, k < 80 * B → tmH a' q k = tmH a q k := by
    intro k hk
    obtain ⟨x1, x2, x3⟩ := h6 k hk
    unfold tmH tmV
    rw [e55, e56, e62, e63, e64, x1, x2, x3]
  have hb : bgO a' (a' 62 0 q) B = bgO a (a 62 0 q) B := by
    unfold bgO
    rw [e62]
    exact lstN_eq B (fun i hi => by rw [(h2 i hi).1])
  unfold wth
  rw [hb]
  unfold bgO
  rcases lstN_r (fun n => decide (a 72 0 n ≤ a 62 0 q)) B with e | ⟨b, hb, e, _⟩
  · have em : mI = -1 := lm1.symm
    rw [e, if_pos em, if_pos em]
  · rw [e, nC (by omega)]
    have hne : ¬ nI b = -1 := by
      rw [lm1, e_mI (by omega)]
      exact id
    rw [if_neg hne, if_neg hne, (h2 b hb).2]
    obtain ⟨_, _, R, c, r1, r2, r3, r4, r5, r6⟩ := b4 b hb
    rw [r3, nC (by omega)]
    unfold rlS
    refine sumN_eq R (fun r hr => ?_)
    obtain ⟨_, _, _, n, n1, n2, n3, n4⟩ := r6 r hr
    rw [(h4 (20 * b + r) (by omega)).1, (h4 (20 * b + r) (by omega)).2, n3, nC (by omega)]
    have : tmA a' q (20 * b + r) n = tmA a q (20 * b + r) n := by
      unfold tmA
      exact allN_eq n (fun i hi => k1 _ (by omega))
    rw [this]
theorem wth_up {a : qa} {Hh B q c : Nat} (h72 : a 72 0 B = nI Hh) (h62 : a 62 0 q = nI c) (hc : c < Hh) (hH : Hh ≤ 9999) : wth a (B + 1) q = wth a B q := by
  have e : bgO a (a 62 0 q) (B + 1) = bgO a (a 62 0 q) B := by
    unfold bgO
    show (if decide (a 72 0 B ≤ a 62 0 q) = true then nI B else _) = _
    rw [if_neg]
    rw [h72, h62, decide_eq_true_iff, nle (by omega) (by omega)]
    omega
  unfold wth
  rw [e]
theorem iF.cw {I Hh t p B C : Nat} {a a' : qa} (h : iF I Hh t p B a) (e1 : a' 10 0 9 = a 10 0 9) (e2 : a' 11 0 20 = a 11 0 20) (e4 : a' 4 = a 4) (e47 : a' 47 = a 47) (e55 : a' 55 = a 55) (e56 : a' 56 = a 56) (e57 : a' 57 = a 57) (e58 : a' 58 = a 58) (e59 : a' 59 = a 59) (e60 : a' 60 = a 60) (e61 : a' 61 = a 61) (e62 : a' 62 = a 62) (e64 : a' 64 = a 64) (hw : ∀ q c, a 62 0 q = nI c → c < Hh → wth a' C q = wth a B q) : iF I Hh t p C a' := by
  simp only [iF, e1, e2, e4, e47, e55, e56, e57, e58, e59, e60, e61, e62, e64] at h ⊢
  refine ⟨h.1, h.2.1, fun q hq => ?_⟩
  obtain ⟨g1, g2, g3, g4, g5, g6, g7, g8, g9, g10, g11⟩ := h.2.2 q hq
  refine ⟨g1, g2, g3, g4, g5, g6, g7, g8, g9, g10, ?_⟩
  rcases g11 with x | x | ⟨x1, x2, x3, x4, x5⟩
  · exact Or.inl x
  · exact Or.inr (Or.inl x)
  · refine Or.inr (Or.inr ⟨x1, x2, x3, x4, ?_⟩)
    obtain ⟨c, hc, ec⟩ := g10
    have hne : c ≠ Hh := fun e => x4 (by rw [ec, e])
    rw [x5, hw q c ec (by omega)]
theorem tmR_i {f : Nat → Nat} {T q b x y : Nat} {a : qa} (hf : ∀ j, j < T → f j < 256) (h1 : tmC f T q (a 14 b x) (a 15 b x) (a 16 b x)) (h2 : tmM f T q (a 76 0 y) (a 77 0 y) (a 78 0 y)) : tmR a b x y := by
  unfold tmC at h1
  unfold tmM at h2
  unfold tmR
  rcases wd_c (n := q) hf with ⟨q1, _, k, q3, q4⟩ | ⟨q1, _, k, q3, q4⟩ | ⟨q1, _⟩
  · left
    rcases h1 with ⟨_, x1, x2, x3⟩ | ⟨z, _⟩
    · rcases h2 with ⟨_, y1⟩ | ⟨z, _⟩
      · exact ⟨x1, x2, by rw [x3, y1], k, q3, by rw [y1, q4]⟩
      · omega
    · omega
  · right
    rcases h1 with ⟨z, _⟩ | ⟨_, x1, x2, x3⟩
    · omega
    · rcases h2 with ⟨z, _⟩ | ⟨_, y1, y2, y3⟩
      · omega
      · exact ⟨k, q3, by rw [x1, q4], by rw [y1, q4, nI_add], by rw [x2, y2], by rw [x3, y3]⟩
  · rcases h1 with ⟨z, _⟩ | ⟨z, _⟩ <;> omega
/-- the rows of the bargains below B are as they were -/
theorem iH.lo {Hh B b : Nat} {a a' : qa} (h : iH Hh B a) (hb : b < B) (e0 : a' 0 b = a 0 b) (e12 : a' 12 b = a 12 b) (e13 : a' 13 b = a 13 b) (e14 : a' 14 b = a 14 b) (e15 : a' 15 b = a 15 b) (e16 : a' 16 b = a 16 b) (h2 : ∀ k, k < B → a' 72 0 k = a 72 0 k ∧ a' 73 0 k = a 73 0 k) (h4 : ∀ k, k < 20 * B → a' 74 0 k = a 74 0 k ∧ a' 75 0 k = a 75 0 k) (h6 : ∀ k, k < 80 * B → a' 76 0 k = a 76 0 k ∧ a' 77 0 k = a 77 0 k ∧ a' 78 0 k = a 78 0 k) : a' 0 b 7 = a' 72 0 b ∧ (∃ h, h ≤ Hh ∧ a' 72 0 b = nI h) ∧ ∃ (R : Nat) (c : Nat → Nat), R ≤ 20 ∧ a' 0 b 5 = nI R ∧ a' 73 0 b = nI R ∧ c 0 = 0 ∧ c R ≤ 80 ∧ ∀ r, r < R → a' 13 b r = a' 75 0 (20 * b + r) ∧ a' 12 b r = nI (c (r + 1)) ∧ c (r + 1) ≤ 80 ∧ ∃ n, n ≤ 4 ∧ c (r + 1) = c r + n ∧ a' 74 0 (20 * b + r) = nI n ∧ ∀ i, i < n → tmR a' b (c r + i) (4 * (20 * b + r) + i) := by
  obtain ⟨b1, b2, b3, b4⟩ := h
  obtain ⟨x1, x2, R, c, r1, r2, r3, r4, r5, r6⟩ := b4 b hb
  refine ⟨by rw [e0, (h2 b hb).1]; exact x1, by rw [(h2 b hb).1]; exact x2, R, c, r1, by rw [e0]; exact r2, by rw [(h2 b hb).2]; exact r3, r4, r5, fun r hr => ?_⟩
  obtain ⟨y1, y2, y3, n, n1, n2, n3, n4⟩ := r6 r hr
  refine ⟨by rw [e13, (h4 _ (by omega)).2]; exact y1, by rw [e12]; exact y2, y3, n, n1, n2, by rw [(h4 _ (by omega)).1]; exact n3, fun i hi => ?_⟩
  have z := n4 i hi
  obtain ⟨w1, w2, w3⟩ := h6 (4 * (20 * b + r) + i) (by omega)
  unfold tmR at z ⊢
  rw [e14, e15, e16, w1, w2, w3]
  exact z
set_option maxHeartbeats 8000000 in
theorem pr_bargain : ob_bargain Inv := by
  intro t p k a hk ht hp hI
  obtain ⟨I, S, Hh, B, T, M, hA, hB, hC, hD, hE, hF, hG, hH, hT, hJ⟩ := id hI
  obtain ⟨b1, b2, b3, b4⟩ := id hH
  obtain ⟨t1, t2, t3, t4⟩ := id hT
  unfold wp_X10_bargain
  by_cases c10 : B = 10
  · have no : Inv t p (k + 1) (qs a 11 0 0 0) := hI.th 0
    simp (disch := first | assumption | omega) only [b2, wp_X11_bargain, b3, l0, l1, l2, l3, l4, l5, l6, l7, l8, l9, l10, l20, l60, l61, l62, bb_t, bb_f, l100, l120, l512, l400, l401, l700, l9999, nm1, lm1, nlt, nle, neq, glt, gle, lgt, lge, geq, egq, mI_l, mI_e, e_mI, l_mI, le_mI, mI_le, bI_z, nC, vnI, nI_add, nI_sb, nI_mul, a1m, qs_eq, qs_nc, qs_ni, qs_nk, bq_l, bq_r, bq_l', bq_r', bq_t, bq_f, bq_t', bq_f', bq_n, bq_m, iT, iS, iN, true_and, and_true, eq_self, not_true_eq_false, not_false_eq_true, forall_const, bx_t, bx_f, reduceCtorEq, Option.some.injEq, forall_eq', ite_true, ite_false]
    exact no
  have hB9 : B ≤ 9 := by omega
  obtain ⟨f, ef⟩ : ∃ f : Nat → Nat, f = fun j => (a 32 0 j).toNatClampNeg := ⟨_, rfl⟩
  have hf : ∀ j, j < T → f j < 256 ∧ a 32 0 j = nI (f j) := by
    intro j hj
    obtain ⟨_, b, hb, e⟩ := t4 j hj
    have e2 : f j = b := by rw [ef]; show (a 32 0 j).toNatClampNeg = b; rw [e, nC (by omega)]
    rw [e2]
    exact ⟨hb, e⟩
  have hTP : TP f T a := ⟨t1, t2, hf⟩
  have hMP : ∀ a1 : qa, a1 11 0 42 = nI T → a1 71 = a 71 → MP f T a1 := by
    intro a1 x1 x2
    refine ⟨t1, x1, fun j hj => ⟨(hf j hj).1, ?_⟩⟩
    rw [x2, (t4 j hj).1, (hf j hj).2]
    rfl
  have hal := al_b f T 20 0 (by decide)
  -- what stays of the class's side, whatever the answer
  have keep : ∀ (a1 a2 : qa) (C : Nat), CF B a a1 → (∀ c i n, ¬ (c = 7 ∨ (c = 10 ∧ (n = 10 ∨ n = 11)) ∨ (c = 0 ∧ i = B)) → a2 c i n = a1 c i n) → a2 7 0 1 = nI 0 → ∀ a3, MF B a2 a3 → a3 11 0 42 = nI 0 → a2 10 0 11 = a3 11 0 49 → iH Hh C a3 → (∀ q c, a 62 0 q = nI c → c < Hh → wth a3 C q = wth a B q) → Inv t p (k + 1) a3 := by
    intro a1 a2 C h1 h2 h7 a3 h3 h42 h49 hHC hw
    obtain ⟨m1, m2, m3, m4, m5⟩ := h3
    have w : ∀ c, c ≠ 0 → c ≠ 5 → c ≠ 7 → c ≠ 8 → c ≠ 10 → c ≠ 11 → (c < 12 ∨ 16 < c) → (c < 33 ∨ 35 < c) → (c < 72 ∨ 78 < c) → a3 c = a c := by
      intro c x0 x1 x2 x3 x4 x5 x6 x7 x8
      rw [m1 c x5 x8]
      funext i n
      rw [h2 c i n (by omega), h1 c i n (by omega)]
    have w10 : ∀ n, n ≠ 10 → n ≠ 11 → a3 10 0 n = a 10 0 n := by
      intro n x1 x2
      rw [m1 10 (by decide) (by decide), h2 10 0 n (by omega), h1 10 0 n (by omega)]
    have w11 : ∀ n, n ≠ 0 → n < 42 → a3 11 0 n = a 11 0 n := by
      intro n x1 x2
      rw [m2 n x1 x2, h2 11 0 n (by omega), h1 11 0 n (by omega)]
    refine ⟨I, S, Hh, C, 0, M, hA.cg ?_ ?_ ?_ ?_ ?_ ?_ ?_ ?_, hB.cg ?_ ?_ ?_ ?_ ?_ ?_ ?_ ?_ ?_ ?_, ⟨hC.1, ?_, ?_⟩, hD.cg ?_ ?_ ?_ ?_ ?_ ?_ ?_ ?_ ?_, hE.cg ?_ ?_ ?_ ?_ ?_ ?_ ?_ ?_ ?_, hF.cw ?_ ?_ ?_ ?_ ?_ ?_ ?_ ?_ ?_ ?_ ?_ ?_ ?_ hw, (hG.k).cg ?_ ?_ ?_ ?_ ?_ ?_ ?_ ?_ ?_, hHC, ⟨by decide, ?_, h42, fun j hj => by omega⟩, ?_⟩
    all_goals first
      | exact w _ (by decide) (by decide) (by decide) (by decide) (by decide) (by decide) (by decide) (by decide) (by decide)
      | exact w10 _ (by decide) (by decide)
      | exact w11 _ (by decide) (by decide)
      | exact congrFun (congrFun (w _ (by decide) (by decide) (by decide) (by decide) (by decide) (by decide) (by decide) (by decide) (by decide)) _) _
      | skip
    · exact (w10 12 (by decide) (by decide)).trans hC.2.1
    · exact (w11 1 (by decide) (by decide)).trans hC.2.2
    · rw [m1 7 (by decide) (by decide)]; exact h7
    · rw [m1 10 (by decide) (by decide)]; exact h49
  have low : ∀ (a1 a2 : qa), CF B a a1 → (∀ c i n, ¬ (c = 7 ∨ (c = 10 ∧ (n = 10 ∨ n = 11)) ∨ (c = 0 ∧ i = B)) → a2 c i n = a1 c i n) → ∀ a3, MF B a2 a3 → (∀ k, k < B → a3 72 0 k = a 72 0 k ∧ a3 73 0 k = a 73 0 k) ∧ (∀ k, k < 20 * B → a3 74 0 k = a 74 0 k ∧ a3 75 0 k = a 75 0 k) ∧ (∀ k, k < 80 * B → a3 76 0 k = a 76 0 k ∧ a3 77 0 k = a 77 0 k ∧ a3 78 0 k = a 78 0 k) ∧ (∀ b, b < B → ∀ c, c = 0 ∨ (12 ≤ c ∧ c ≤ 16) → a3 c b = a c b) ∧ ∀ q, wth a3 B q = wth a B q := by
    intro a1 a2 h1 h2 a3 h3
    obtain ⟨m1, m2, m3, m4, m5⟩ := h3
    have e : ∀ c n, 72 ≤ c → c ≤ 78 → a2 c 0 n = a c 0 n := fun c n x1 x2 => by rw [h2 c 0 n (by omega), h1 c 0 n (by omega)]
    have g2 : ∀ k, k < B → a3 72 0 k = a 72 0 k ∧ a3 73 0 k = a 73 0 k := fun k hk => by rw [(m3 k hk).1, (m3 k hk).2, e 72 k (by decide) (by decide), e 73 k (by decide) (by decide)]; exact ⟨rfl, rfl⟩
    have g4 : ∀ k, k < 20 * B → a3 74 0 k = a 74 0 k ∧ a3 75 0 k = a 75 0 k := fun k hk => by rw [(m4 k hk).1, (m4 k hk).2, e 74 k (by decide) (by decide), e 75 k (by decide) (by decide)]; exact ⟨rfl, rfl⟩
    have g6 : ∀ k, k < 80 * B → a3 76 0 k = a 76 0 k ∧ a3 77 0 k = a 77 0 k ∧ a3 78 0 k = a 78 0 k := fun k hk => by rw [(m5 k hk).1, (m5 k hk).2.1, (m5 k hk).2.2, e 76 k (by decide) (by decide), e 77 k (by decide) (by decide), e 78 k (by decide) (by decide)]; exact ⟨rfl, rfl, rfl⟩
    have w : ∀ c, 40 ≤ c → c < 72 → a3 c = a c := by
      intro c x1 x2
      rw [m1 c (by omega) (by omega)]
      funext i n
      rw [h2 c i n (by omega), h1 c i n (by omega)]
    refine ⟨g2, g4, g6, fun b hb c hc => ?_, fun q => wth_lo hH (by rw [w 55 (by decide) (by decide)]) (by rw [w 56 (by decide) (by decide)]) (by rw [w 62 (by decide) (by decide)]) (by rw [w 63 (by decide) (by decide)]) (by rw [w 64 (by decide) (by decide)]) g2 g4 g6⟩
    rw [m1 c (by omega) (by omega)]
    funext n
    rw [h2 c b n (by omega), h1 c b n (by omega)]
  simp (disch := first | assumption | omega) only [b2, l0, l1, l2, l3, l4, l5, l6, l7, l8, l9, l10, l20, l60, l61, l62, bb_t, bb_f, l100, l120, l512, l400, l401, l700, l9999, nm1, lm1, nlt, nle, neq, glt, gle, lgt, lge, geq, egq, mI_l, mI_e, e_mI, l_mI, le_mI, mI_le, bI_z, nC, vnI, nI_add, nI_sb, nI_mul, a1m, qs_eq, qs_nc, qs_ni, qs_nk, bq_l, bq_r, bq_l', bq_r', bq_t, bq_f, bq_t', bq_f', bq_n, bq_m, iT, iS, iN, true_and, and_true, eq_self, not_true_eq_false, not_false_eq_true, forall_const, bx_t, bx_f, reduceCtorEq, Option.some.injEq, forall_eq', ite_true, ite_false]
  refine sp_readInto hTP (fun x a1 g1 g2 g3 => ?_) (fun x a1 g1 g2 => ?_)
  · have c10' : a1 10 0 10 = nI B := by rw [g1 10 0 10 (by omega)]; exact b2
    have c12 : a1 10 0 12 = nI Hh := by rw [g1 10 0 12 (by omega)]; exact hC.2.1
    simp (disch := first | assumption | omega) only [c10', c12, g3, l0, l1, l2, l3, l4, l5, l6, l7, l8, l9, l10, l20, l60, l61, l62, bb_t, bb_f, l100, l120, l512, l400, l401, l700, l9999, nm1, lm1, nlt, nle, neq, glt, gle, lgt, lge, geq, egq, mI_l, mI_e, e_mI, l_mI, le_mI, mI_le, bI_z, nC, vnI, nI_add, nI_sb, nI_mul, a1m, qs_eq, qs_nc, qs_ni, qs_nk, bq_l, bq_r, bq_l', bq_r', bq_t, bq_f, bq_t', bq_f', bq_n, bq_m, iT, iS, iN, true_and, and_true, eq_self, not_true_eq_false, not_false_eq_true, forall_const, bx_t, bx_f, reduceCtorEq, Option.some.injEq, forall_eq', ite_true, ite_false]
    obtain ⟨A, eA⟩ : ∃ A, A = (qs (qs (qs (qs a1 7 0 1 (nI 0)) 10 0 11 mI) 0 B 7 (nI Hh)) 10 0 10 (nI (B + 1))) := ⟨_, rfl⟩
    rw [← eA]
    have fA : ∀ c i n, ¬ (c = 7 ∨ (c = 10 ∧ (n = 10 ∨ n = 11)) ∨ (c = 0 ∧ i = B)) → A c i n = a1 c i n := by
      intro c i n hn
      rw [eA]
      unfold qs
      rw [if_neg (by omega), if_neg (by omega), if_neg (by omega), if_neg (by omega)]
    have A7 : A 7 0 1 = nI 0 := by rw [eA, qs_nc (by decide), qs_nc (by decide), qs_nc (by decide), qs_eq]
    have A1011 : A 10 0 11 = mI := by rw [eA, qs_nk (by decide), qs_nc (by decide), qs_eq]
    have A1010 : A 10 0 10 = nI (B + 1) := by rw [eA, qs_eq]
    have A07 : A 0 B 7 = nI Hh := by rw [eA, qs_nc (by decide), qs_eq]
    have A0 : ∀ n, n ≠ 7 → A 0 B n = a1 0 B n := fun n hn => by rw [eA, qs_nc (by decide), qs_nk hn, qs_nc (by decide), qs_nc (by decide)]
    have A11 : ∀ n, A 11 0 n = a 11 0 n := fun n => by rw [fA 11 0 n (by omega), g1 11 0 n (by omega)]
    refine sp_mbargain (T := T) (f := f) hB9 (hMP A (by rw [A11]; exact t3) (by funext i n; rw [fA 71 i n (by omega), g1 71 i n (by omega)])) (by rw [A11]; exact b3) (by rw [A11]; exact hC.2.2) (fun _ a2 d1 d2 d3 d4 d5 d6 => ?_) (fun y => absurd x y)
    refine ⟨rfl, ?_⟩
    obtain ⟨l2, l4', l6', lc, lw⟩ := low a1 A g1 fA a2 d1
    obtain ⟨R, eR⟩ : ∃ R, R = (al f T 20 0).2.2 := ⟨_, rfl⟩
    rw [← eR] at g2 d6 hal
    refine keep a1 A (B + 1) g1 fA A7 a2 d1 d4 (by rw [A1011, d2]) ⟨by omega, ?_, d3, fun b hb => ?_⟩ (fun q c ec hc => ?_)
    · rw [d1.1 10 (by decide) (by decide)]; exact A1010
    · by_cases cb : b = B
      · subst cb
        obtain ⟨w1, w2, w3⟩ := g2
        obtain ⟨z1, z2⟩ := d6
        have q0 : ∀ n, a2 0 b n = A 0 b n := fun n => by rw [d1.1 0 (by decide) (by decide)]
        have qc : ∀ c n, 12 ≤ c → c ≤ 16 → a2 c b n = a1 c b n := fun c n y1 y2 => by rw [d1.1 c (by omega) (by omega), fA c b n (by omega)]
        have u4 := cu_4 f T R
        refine ⟨by rw [q0, A07, d5], ⟨Hh, Nat.le_refl _, d5⟩, R, cu f T, hal.2, ?_, z1, rfl, by omega, fun r hr => ?_⟩
        · rw [q0, A0 5 (by decide)]; exact w1
        · obtain ⟨v1, v2, v3⟩ := w3 r hr
          obtain ⟨s1, s2, s3⟩ := z2 r hr
          have u5 := cu_4 f T (r + 1)
          refine ⟨?_, ?_, by omega, Cn f T (st f T r), Cn_4 f T _, rfl, s1, fun i hi => ?_⟩
          · rw [qc 13 r (by decide) (by decide), v1, s2]
          · rw [qc 12 r (by decide) (by decide)]; exact v2
          · refine tmR_i (f := f) (T := T) (q := tj f T i (st f T r)) (fun j hj => (hf j hj).1) ?_ (s3 i hi)
            rw [qc 14 _ (by decide) (by decide), qc 15 _ (by decide) (by decide), qc 16 _ (by decide) (by decide)]
            exact v3 i hi
      · exact hH.lo (by omega) (lc b (by omega) 0 (Or.inl rfl)) (lc b (by omega) 12 (Or.inr ⟨by decide, by decide⟩)) (lc b (by omega) 13 (Or.inr ⟨by decide, by decide⟩)) (lc b (by omega) 14 (Or.inr ⟨by decide, by decide⟩)) (lc b (by omega) 15 (Or.inr ⟨by decide, by decide⟩)) (lc b (by omega) 16 (Or.inr ⟨by decide, by decide⟩)) l2 l4' l6'
    · rw [wth_up d5 (c := c) (by rw [d1.1 62 (by decide) (by decide), fA 62 0 q (by omega), g1 62 0 q (by omega)]; exact ec) hc hC.1]
      exact lw q
  · have c10' : a1 10 0 10 = nI B := by rw [g1 10 0 10 (by omega)]; exact b2
    have n0 : ¬ nI (al f T 20 0).1 = nI 0 := nne x (by omega) (by omega)
    simp (disch := first | assumption | omega) only [n0, g2, l0, l1, l2, l3, l4, l5, l6, l7, l8, l9, l10, l20, l60, l61, l62, bb_t, bb_f, l100, l120, l512, l400, l401, l700, l9999, nm1, lm1, nlt, nle, neq, glt, gle, lgt, lge, geq, egq, mI_l, mI_e, e_mI, l_mI, le_mI, mI_le, bI_z, nC, vnI, nI_add, nI_sb, nI_mul, a1m, qs_eq, qs_nc, qs_ni, qs_nk, bq_l, bq_r, bq_l', bq_r', bq_t, bq_f, bq_t', bq_f', bq_n, bq_m, iT, iS, iN, true_and, and_true, eq_self, not_true_eq_false, not_false_eq_true, forall_const, bx_t, bx_f, reduceCtorEq, Option.some.injEq, forall_eq', ite_true, ite_false]
    obtain ⟨A, eA⟩ : ∃ A, A = (qs (qs a1 7 0 1 (nI 0)) 10 0 11 (nI (PP f T (al f T 20 0).2.1))) := ⟨_, rfl⟩
    rw [← eA]
    have fA : ∀ c i n, ¬ (c = 7 ∨ (c = 10 ∧ (n = 10 ∨ n = 11)) ∨ (c = 0 ∧ i = B)) → A c i n = a1 c i n := by
      intro c i n hn
      rw [eA]
      unfold qs
      rw [if_neg (by omega), if_neg (by omega)]
    have A7 : A 7 0 1 = nI 0 := by rw [eA, qs_nc (by decide), qs_eq]
    have A1011 : A 10 0 11 = nI (PP f T (al f T 20 0).2.1) := by rw [eA, qs_eq]
    have A1010 : A 10 0 10 = nI B := by rw [eA, qs_nk (by decide), qs_nc (by decide)]; exact c10'
    have A11 : ∀ n, A 11 0 n = a 11 0 n := fun n => by rw [fA 11 0 n (by omega), g1 11 0 n (by omega)]
    refine sp_mbargain (T := T) (f := f) hB9 (hMP A (by rw [A11]; exact t3) (by funext i n; rw [fA 71 i n (by omega), g1 71 i n (by omega)])) (by rw [A11]; exact b3) (by rw [A11]; exact hC.2.2) (fun y => absurd y x) (fun _ a2 d1 d2 d3 d4 => ?_)
    refine ⟨rfl, ?_⟩
    obtain ⟨l2, l4', l6', lc, lw⟩ := low a1 A g1 fA a2 d1
    refine keep a1 A B g1 fA A7 a2 d1 d4 (by rw [A1011, d2]) ⟨b1, ?_, d3, fun b hb => ?_⟩ (fun q c _ _ => lw q)
    · rw [d1.1 10 (by decide) (by decide)]; exact A1010
    · exact hH.lo hb (lc b hb 0 (Or.inl rfl)) (lc b hb 12 (Or.inr ⟨by decide, by decide⟩)) (lc b hb 13 (Or.inr ⟨by decide, by decide⟩)) (lc b hb 14 (Or.inr ⟨by decide, by decide⟩)) (lc b hb 15 (Or.inr ⟨by decide, by decide⟩)) (lc b hb 16 (Or.inr ⟨by decide, by decide⟩)) l2 l4' l6'
