theorem sq_cg {a a' : qa} {x : Int32} (e55 : a' 55 = a 55) (e58 : a' 58 = a 58) (e59 : a' 59 = a 59) : ∀ j, sq a' x j = sq a x j := by
  intro j
  induction j with
  | zero => rfl
  | succ j ih =>
    unfold sq
    rw [ih, e55, e58, e59]
def fbC (a Y : qa) : Prop := ∀ c, c ≠ 1 → c ≠ 17 → c ≠ 18 → c ≠ 19 → c ≠ 20 → c ≠ 21 → Y c = a c
def fbR (a Y : qa) : Prop := (∀ k, k ≠ 36 → k ≠ 39 → k ≠ 40 → Y 11 0 k = a 11 0 k) ∧ ∀ c, c ≠ 11 → c ≠ 68 → c ≠ 69 → c ≠ 70 → Y c = a c
set_option maxHeartbeats 4000000 in
theorem sp_findBest {I Hh B t p i j n s r0 : Nat} {a : qa} {w pk : Nat → Nat} {post : Int32 → qa → Prop} (ht : t ≤ 4) (hp : p ≤ 100) (hi : i < t) (hj : j < 3) (h8 : a 10 0 8 = nI t) (hF : iF I Hh t p B a) (h1 : a 9 i 1 = nI r0) (hr0 : r0 < 6) (h3 : a 3 (3 * i + j) 0 = nI s) (hs : s ≤ 120) (hn : n ≤ 10) (hsq : sq a (nI r0) p = (n, pk)) (hw : ∀ i, i < n → w i ≤ 60 ∧ a 56 0 (pk i) = nI (w i)) (kk : ∀ Y, Y 1 0 5 = nI n → Y 1 0 7 = nI ((rf w s n 0 0 0 0 (fun _ => nI 0) (1, 0, fun _ => nI 2)).1 - 1) → (∀ i, i < n → Y 17 0 i = nI (pk i)) → (∀ i, i < n → Y 21 0 i = (rf w s n 0 0 0 0 (fun _ => nI 0) (1, 0, fun _ => nI 2)).2.2 i) → fbC a Y → post (nI 1) Y) : wp_X10_findBest t p (nI i) (nI j) a post := by
  unfold wp_X10_findBest
  refine sp_trainAt ht hi h8 ?_
  simp (disch := first | assumption | omega) only [h1, l0, l1, l2, l3, l4, l5, l6, l7, l8, l9, l10, l20, l60, l61, l62, bb_t, bb_f, l100, l120, l512, l400, l401, l700, l9999, nm1, lm1, nlt, nle, neq, glt, gle, lgt, lge, geq, egq, mI_l, mI_e, e_mI, l_mI, le_mI, mI_le, bI_z, nC, vnI, nI_add, nI_sb, nI_mul, a1m, qs_eq, qs_nc, qs_ni, qs_nk, bq_l, bq_r, bq_l', bq_r', bq_t, bq_f, bq_t', bq_f', bq_n, bq_m, iT, iS, iN, true_and, and_true, eq_self, not_true_eq_false, not_false_eq_true, forall_const, bx_t, bx_f, reduceCtorEq, Option.some.injEq, forall_eq', ite_true, ite_false]
  refine sp_muleAt hj ?_
  simp (disch := first | assumption | omega) only [wp_X1_clear, l0, l1, l2, l3, l4, l5, l6, l7, l8, l9, l10, l20, l60, l61, l62, bb_t, bb_f, l100, l120, l512, l400, l401, l700, l9999, nm1, lm1, nlt, nle, neq, glt, gle, lgt, lge, geq, egq, mI_l, mI_e, e_mI, l_mI, le_mI, mI_le, bI_z, nC, vnI, nI_add, nI_sb, nI_mul, a1m, qs_eq, qs_nc, qs_ni, qs_nk, bq_l, bq_r, bq_l', bq_r', bq_t, bq_f, bq_t', bq_f', bq_n, bq_m, iT, iS, iN, true_and, and_true, eq_self, not_true_eq_false, not_false_eq_true, forall_const, bx_t, bx_f, reduceCtorEq, Option.some.injEq, forall_eq', ite_true, ite_false]
  refine ⟨p + 1, ?_⟩
  refine sl_collect (x := nI r0) (m := 3 * i + j) hp hF h1 (fun X hX => ?_) p 0 _ (by omega) ?_
  · obtain ⟨q1, q2, q3⟩ := hX
    rw [hsq] at q1 q2
    have x3 : X 3 (3 * i + j) 0 = nI s := by
      rw [q3 3 (by decide) (by decide) (by decide)]
      exact h3
    rw [x3]
    refine sp_findFor (w := w) hn hs q1 (fun i' hi' => ⟨(hw i' hi').1, (q2 i' hi').2.trans (hw i' hi').2⟩) (fun Y y1 y2 y3 y4 => ?_)
    refine kk Y y1 y2 (fun i' hi' => ?_) y3 (fun c c1 c2 c3 c4 c5 c6 => ?_)
    · rw [y4 17 (by decide) (by decide) (by decide) (by decide)]
      exact (q2 i' hi').1
    · rw [y4 c c1 c4 c5 c6, q3 c c1 c2 c3]
  · refine ⟨rfl, fun i' hi' => absurd hi' (Nat.not_lt_zero _), fun c c1 c2 c3 => ?_⟩
    funext m k
    exact qs_nc c1
set_option maxHeartbeats 4000000 in
theorem sp_finds {t p i j n s r0 : Nat} {a : qa} {w pk : Nat → Nat} {post : Int32 → qa → Prop} (ht : t ≤ 4) (hp : p ≤ 100) (hi : i < t) (hj : j < 3) (h11 : a 11 0 11 = nI t) (h20 : a 11 0 20 = nI p) (h1 : a 47 0 i = nI r0) (hr0 : r0 < 6) (h3 : a 51 0 (3 * i + j) = nI s) (hs : s ≤ 120) (hn : n ≤ 10) (hsq : sq a (nI r0) p = (n, pk)) (hw : ∀ i, i < n → w i ≤ 60 ∧ pk i < 100 ∧ a 56 0 (pk i) = nI (w i)) (kk : ∀ Y, Y 11 0 36 = nI n → Y 11 0 39 = ldv (rf w s n 0 0 0 0 (fun _ => nI 0) (0, 0, a 70 0)).1 → (∀ i, i < n → Y 68 0 i = nI (pk i)) → (∀ i, i < n → Y 70 0 i = (rf w s n 0 0 0 0 (fun _ => nI 0) (0, 0, a 70 0)).2.2 i) → fbR a Y → post (nI 1) Y) : wp_X11_finds t p (nI i) (nI j) a post := by
  unfold wp_X11_finds
  refine sp_isString ht hi h11 ?_
  simp (disch := first | assumption | omega) only [wp_X11_within, h1, l0, l1, l2, l3, l4, l5, l6, l7, l8, l9, l10, l20, l60, l61, l62, bb_t, bb_f, l100, l120, l512, l400, l401, l700, l9999, nm1, lm1, nlt, nle, neq, glt, gle, lgt, lge, geq, egq, mI_l, mI_e, e_mI, l_mI, le_mI, mI_le, bI_z, nC, vnI, nI_add, nI_sb, nI_mul, a1m, qs_eq, qs_nc, qs_ni, qs_nk, bq_l, bq_r, bq_l', bq_r', bq_t, bq_f, bq_t', bq_f', bq_n, bq_m, iT, iS, iN, true_and, and_true, eq_self, not_true_eq_false, not_false_eq_true, forall_const, bx_t, bx_f, reduceCtorEq, Option.some.injEq, forall_eq', ite_true, ite_false]
  refine ⟨p + 1, ?_⟩
  refine sl_collectR (x := nI r0) ht hi hp h20 h1 (fun X hX => ?_) p 0 _ (by omega) ?_
  · obtain ⟨q1, q2, q3, q4⟩ := hX
    rw [hsq] at q1 q2
    have x51 : X 51 0 (3 * i + j) = nI s := by
      rw [q4 51 (by decide) (by decide)]
      exact h3
    unfold wl_X11_finds_116
    simp (disch := first | assumption | omega) only [x51, l0, l1, l2, l3, l4, l5, l6, l7, l8, l9, l10, l20, l60, l61, l62, bb_t, bb_f, l100, l120, l512, l400, l401, l700, l9999, nm1, lm1, nlt, nle, neq, glt, gle, lgt, lge, geq, egq, mI_l, mI_e, e_mI, l_mI, le_mI, mI_le, bI_z, nC, vnI, nI_add, nI_sb, nI_mul, a1m, qs_eq, qs_nc, qs_ni, qs_nk, bq_l, bq_r, bq_l', bq_r', bq_t, bq_f, bq_t', bq_f', bq_n, bq_m, iT, iS, iN, true_and, and_true, eq_self, not_true_eq_false, not_false_eq_true, forall_const, bx_t, bx_f, reduceCtorEq, Option.some.injEq, forall_eq', ite_true, ite_false]
    refine ⟨n + 1, by omega, ?_⟩
    refine sp_tries (base := qs (qs X 11 0 39 mI) 11 0 40 (nI 0)) (w := w) (pk := pk) hn hs (fun i' hi' => (hw i' hi').1) q1 (fun i' hi' => ⟨q2 i' hi', (hw i' hi').2.1, ?_⟩) n 0 0 0 0 (fun _ => nI 0) _ (0, 0, a 70 0) _ (n + 1) (by omega) (by omega) (by omega) (by omega) ⟨rfl, Nat.zero_le _, rfl, Nat.zero_le _, fun i' hi' => ?_, fun _ _ _ => rfl, fun _ _ _ _ => rfl⟩ (fun i' hi' => by omega) (fun Y hY _ => ?_)
    · show X 56 0 (pk i') = nI (w i')
      rw [q4 56 (by decide) (by decide)]
      exact (hw i' hi').2.2
    · show X 70 0 i' = a 70 0 i'
      rw [q4 70 (by decide) (by decide)]
    · obtain ⟨y1, y2, y3, y4, y5, y6, y7⟩ := hY
      refine kk Y ?_ y1 (fun i' hi' => ?_) y5 ⟨fun m k1 k2 k3 => ?_, fun c c1 c2 c3 c4 => ?_⟩
      · rw [y6 36 (by decide) (by decide)]
        exact q1
      · rw [y7 68 (by decide) (by decide) (by decide)]
        exact q2 i' hi'
      · rw [y6 m k2 k3, qs_nk k3, qs_nk k2]
        exact q3 m k1
      · rw [y7 c c1 c3 c4]
        funext m k
        rw [qs_nc c1, qs_nc c1, q4 c c1 c2]
  · refine ⟨rfl, fun i' hi' => absurd hi' (Nat.not_lt_zero _), fun m hm => ?_, fun c c1 c2 => ?_⟩
    · exact qs_nk hm
    · funext m k
      exact qs_nc c1
set_option maxHeartbeats 4000000 in
theorem best_gen {t p k : Nat} {a : qa} {x1 x2 : Int32} (ht : t ≤ 4) (hp : p ≤ 100) (hI : Inv t p k a) : ((∀ post : Int32 → qa → Prop, post (nI 0) a → wp_X10_findBest t p x1 x2 a post) ∧ (∀ post : Int32 → qa → Prop, post (nI 0) (qs a 11 0 0 (nI 0)) → wp_X11_finds t p x1 x2 (qs a 11 0 0 (nI 0)) post)) ∨ ∃ (n : Nat) (pk : Nat → Nat) (vr : Int32) (v v' : Nat → Int32), n ≤ 10 ∧ (∀ i, i < n → v' i = v i) ∧ (∀ post : Int32 → qa → Prop, (∀ Y, Y 1 0 5 = nI n → Y 1 0 7 = vr → (∀ i, i < n → Y 17 0 i = nI (pk i)) → (∀ i, i < n → Y 21 0 i = v i) → fbC a Y → post (nI 1) Y) → wp_X10_findBest t p x1 x2 a post) ∧ (∀ Y, fbC a Y → ∀ post : Int32 → qa → Prop, (∀ Z, Z 11 0 36 = nI n → Z 11 0 39 = vr → (∀ i, i < n → Z 68 0 i = nI (pk i)) → (∀ i, i < n → Z 70 0 i = v' i) → fbR (qs Y 11 0 0 (nI 0)) Z → post (nI 1) Z) → wp_X11_finds t p x1 x2 (qs Y 11 0 0 (nI 0)) post) := by
  obtain ⟨I, S, Hh, B, T, M, hA, hB, hC, hD, hE, hF, hG, hH, hT, hJ⟩ := hI
  have hI6 := hA.1
  have h11' : (qs a 11 0 0 (nI 0)) 11 0 11 = nI t := hD.2.1
  rcases inN x1 t with ⟨i, hi, rfl⟩ | hx
  rotate_left 1
  · refine Or.inl ⟨fun post kk => ?_, fun post kk => ?_⟩
    · unfold wp_X10_findBest
      refine sp_trainAt0 ht hx hD.1 ?_
      simp (disch := first | assumption | omega) only [l0, l1, l2, l3, l4, l5, l6, l7, l8, l9, l10, l20, l60, l61, l62, bb_t, bb_f, l100, l120, l512, l400, l401, l700, l9999, nm1, lm1, nlt, nle, neq, glt, gle, lgt, lge, geq, egq, mI_l, mI_e, e_mI, l_mI, le_mI, mI_le, bI_z, nC, vnI, nI_add, nI_sb, nI_mul, a1m, qs_eq, qs_nc, qs_ni, qs_nk, bq_l, bq_r, bq_l', bq_r', bq_t, bq_f, bq_t', bq_f', bq_n, bq_m, iT, iS, iN, true_and, and_true, eq_self, not_true_eq_false, not_false_eq_true, forall_const, bx_t, bx_f, reduceCtorEq, Option.some.injEq, forall_eq', ite_true, ite_false]
      exact kk
    · unfold wp_X11_finds
      refine sp_isString0 ht hx h11' ?_
      simp (disch := first | assumption | omega) only [l0, l1, l2, l3, l4, l5, l6, l7, l8, l9, l10, l20, l60, l61, l62, bb_t, bb_f, l100, l120, l512, l400, l401, l700, l9999, nm1, lm1, nlt, nle, neq, glt, gle, lgt, lge, geq, egq, mI_l, mI_e, e_mI, l_mI, le_mI, mI_le, bI_z, nC, vnI, nI_add, nI_sb, nI_mul, a1m, qs_eq, qs_nc, qs_ni, qs_nk, bq_l, bq_r, bq_l', bq_r', bq_t, bq_f, bq_t', bq_f', bq_n, bq_m, iT, iS, iN, true_and, and_true, eq_self, not_true_eq_false, not_false_eq_true, forall_const, bx_t, bx_f, reduceCtorEq, Option.some.injEq, forall_eq', ite_true, ite_false]
      exact kk
  obtain ⟨t1, t2, t3, t4⟩ := hD.2.2 i hi
  rcases t4 with ⟨r0, hr0, q1, _⟩ | ⟨q1, _⟩
  rotate_left 1
  · refine Or.inl ⟨fun post kk => ?_, fun post kk => ?_⟩
    · unfold wp_X10_findBest
      refine sp_trainAt ht hi hD.1 ?_
      simp (disch := first | assumption | omega) only [t1, q1, l0, l1, l2, l3, l4, l5, l6, l7, l8, l9, l10, l20, l60, l61, l62, bb_t, bb_f, l100, l120, l512, l400, l401, l700, l9999, nm1, lm1, nlt, nle, neq, glt, gle, lgt, lge, geq, egq, mI_l, mI_e, e_mI, l_mI, le_mI, mI_le, bI_z, nC, vnI, nI_add, nI_sb, nI_mul, a1m, qs_eq, qs_nc, qs_ni, qs_nk, bq_l, bq_r, bq_l', bq_r', bq_t, bq_f, bq_t', bq_f', bq_n, bq_m, iT, iS, iN, true_and, and_true, eq_self, not_true_eq_false, not_false_eq_true, forall_const, bx_t, bx_f, reduceCtorEq, Option.some.injEq, forall_eq', ite_true, ite_false]
      exact kk
    · unfold wp_X11_finds
      refine sp_isString ht hi h11' ?_
      rcases inN x2 3 with ⟨j, hj, rfl⟩ | hx2
      · simp (disch := first | assumption | omega) only [wp_X11_within, q1, l0, l1, l2, l3, l4, l5, l6, l7, l8, l9, l10, l20, l60, l61, l62, bb_t, bb_f, l100, l120, l512, l400, l401, l700, l9999, nm1, lm1, nlt, nle, neq, glt, gle, lgt, lge, geq, egq, mI_l, mI_e, e_mI, l_mI, le_mI, mI_le, bI_z, nC, vnI, nI_add, nI_sb, nI_mul, a1m, qs_eq, qs_nc, qs_ni, qs_nk, bq_l, bq_r, bq_l', bq_r', bq_t, bq_f, bq_t', bq_f', bq_n, bq_m, iT, iS, iN, true_and, and_true, eq_self, not_true_eq_false, not_false_eq_true, forall_const, bx_t, bx_f, reduceCtorEq, Option.some.injEq, forall_eq', ite_true, ite_false]
        exact kk
      · simp (disch := first | assumption | omega) only [l0, l1, l2, l3, l4, l5, l6, l7, l8, l9, l10, l20, l60, l61, l62, bb_t, bb_f, l100, l120, l512, l400, l401, l700, l9999, nm1, lm1, nlt, nle, neq, glt, gle, lgt, lge, geq, egq, mI_l, mI_e, e_mI, l_mI, le_mI, mI_le, bI_z, nC, vnI, nI_add, nI_sb, nI_mul, a1m, qs_eq, qs_nc, qs_ni, qs_nk, bq_l, bq_r, bq_l', bq_r', bq_t, bq_f, bq_t', bq_f', bq_n, bq_m, iT, iS, iN, true_and, and_true, eq_self, not_true_eq_false, not_false_eq_true, forall_const, bx_t, bx_f, reduceCtorEq, Option.some.injEq, forall_eq', ite_true, ite_false]
        refine sp_w02 (fun j hj e => absurd e (hx2 j hj)) (fun _ => ?_)
        simp (disch := first | assumption | omega) only [l0, l1, l2, l3, l4, l5, l6, l7, l8, l9, l10, l20, l60, l61, l62, bb_t, bb_f, l100, l120, l512, l400, l401, l700, l9999, nm1, lm1, nlt, nle, neq, glt, gle, lgt, lge, geq, egq, mI_l, mI_e, e_mI, l_mI, le_mI, mI_le, bI_z, nC, vnI, nI_add, nI_sb, nI_mul, a1m, qs_eq, qs_nc, qs_ni, qs_nk, bq_l, bq_r, bq_l', bq_r', bq_t, bq_f, bq_t', bq_f', bq_n, bq_m, iT, iS, iN, true_and, and_true, eq_self, not_true_eq_false, not_false_eq_true, forall_const, bx_t, bx_f, reduceCtorEq, Option.some.injEq, forall_eq', ite_true, ite_false]
        exact kk
  rcases inN x2 3 with ⟨j, hj, rfl⟩ | hx2
  rotate_left 1
  · refine Or.inl ⟨fun post kk => ?_, fun post kk => ?_⟩
    · unfold wp_X10_findBest
      refine sp_trainAt ht hi hD.1 ?_
      simp (disch := first | assumption | omega) only [t1, q1, l0, l1, l2, l3, l4, l5, l6, l7, l8, l9, l10, l20, l60, l61, l62, bb_t, bb_f, l100, l120, l512, l400, l401, l700, l9999, nm1, lm1, nlt, nle, neq, glt, gle, lgt, lge, geq, egq, mI_l, mI_e, e_mI, l_mI, le_mI, mI_le, bI_z, nC, vnI, nI_add, nI_sb, nI_mul, a1m, qs_eq, qs_nc, qs_ni, qs_nk, bq_l, bq_r, bq_l', bq_r', bq_t, bq_f, bq_t', bq_f', bq_n, bq_m, iT, iS, iN, true_and, and_true, eq_self, not_true_eq_false, not_false_eq_true, forall_const, bx_t, bx_f, reduceCtorEq, Option.some.injEq, forall_eq', ite_true, ite_false]
      refine sp_muleAt0 hx2 ?_
      simp (disch := first | assumption | omega) only [l0, l1, l2, l3, l4, l5, l6, l7, l8, l9, l10, l20, l60, l61, l62, bb_t, bb_f, l100, l120, l512, l400, l401, l700, l9999, nm1, lm1, nlt, nle, neq, glt, gle, lgt, lge, geq, egq, mI_l, mI_e, e_mI, l_mI, le_mI, mI_le, bI_z, nC, vnI, nI_add, nI_sb, nI_mul, a1m, qs_eq, qs_nc, qs_ni, qs_nk, bq_l, bq_r, bq_l', bq_r', bq_t, bq_f, bq_t', bq_f', bq_n, bq_m, iT, iS, iN, true_and, and_true, eq_self, not_true_eq_false, not_false_eq_true, forall_const, bx_t, bx_f, reduceCtorEq, Option.some.injEq, forall_eq', ite_true, ite_false]
      exact kk
    · unfold wp_X11_finds
      refine sp_isString ht hi h11' ?_
      simp (disch := first | assumption | omega) only [l0, l1, l2, l3, l4, l5, l6, l7, l8, l9, l10, l20, l60, l61, l62, bb_t, bb_f, l100, l120, l512, l400, l401, l700, l9999, nm1, lm1, nlt, nle, neq, glt, gle, lgt, lge, geq, egq, mI_l, mI_e, e_mI, l_mI, le_mI, mI_le, bI_z, nC, vnI, nI_add, nI_sb, nI_mul, a1m, qs_eq, qs_nc, qs_ni, qs_nk, bq_l, bq_r, bq_l', bq_r', bq_t, bq_f, bq_t', bq_f', bq_n, bq_m, iT, iS, iN, true_and, and_true, eq_self, not_true_eq_false, not_false_eq_true, forall_const, bx_t, bx_f, reduceCtorEq, Option.some.injEq, forall_eq', ite_true, ite_false]
      refine sp_w02 (fun j hj e => absurd e (hx2 j hj)) (fun _ => ?_)
      simp (disch := first | assumption | omega) only [l0, l1, l2, l3, l4, l5, l6, l7, l8, l9, l10, l20, l60, l61, l62, bb_t, bb_f, l100, l120, l512, l400, l401, l700, l9999, nm1, lm1, nlt, nle, neq, glt, gle, lgt, lge, geq, egq, mI_l, mI_e, e_mI, l_mI, le_mI, mI_le, bI_z, nC, vnI, nI_add, nI_sb, nI_mul, a1m, qs_eq, qs_nc, qs_ni, qs_nk, bq_l, bq_r, bq_l', bq_r', bq_t, bq_f, bq_t', bq_f', bq_n, bq_m, iT, iS, iN, true_and, and_true, eq_self, not_true_eq_false, not_false_eq_true, forall_const, bx_t, bx_f, reduceCtorEq, Option.some.injEq, forall_eq', ite_true, ite_false]
      exact kk
  obtain ⟨f0, f1, f2, f3, f4, f5, ⟨s, hs1, hs2, f6⟩, _⟩ := hE (3 * i + j) (by omega)
  obtain ⟨sb1, sb2⟩ := sq_b (a := a) (x := nI r0) p
  obtain ⟨n, pk, hsq⟩ : ∃ n pk, sq a (nI r0) p = (n, pk) := ⟨_, _, rfl⟩
  rw [hsq] at sb1 sb2
  have hwt : ∀ i', i' < n → ∃ wt, 1 ≤ wt ∧ wt ≤ 60 ∧ a 56 0 (pk i') = nI wt := fun i' hi' => (hF.2.2 (pk i') (sb2 i' hi')).2.2.2.2.2.2.2.1
  have hw : ∀ i', i' < n → 1 ≤ (a 56 0 (pk i')).toNatClampNeg ∧ (a 56 0 (pk i')).toNatClampNeg ≤ 60 ∧ a 56 0 (pk i') = nI (a 56 0 (pk i')).toNatClampNeg := by
    intro i' hi'
    obtain ⟨wt, w1, w2, w3⟩ := hwt i' hi'
    rw [w3, nC (by omega)]
    exact ⟨w1, w2, rfl⟩
  generalize hW : (fun i' => (a 56 0 (pk i')).toNatClampNeg) = w at *
  have hw' : ∀ i', i' < n → 1 ≤ w i' ∧ w i' ≤ 60 ∧ a 56 0 (pk i') = nI (w i') := by
    intro i' hi'
    rw [← hW]
    exact hw i' hi'
  obtain ⟨r1, r2, r3⟩ := rf_eq (w := w) (s := s) (n := n) (fun i' hi' => (hw' i' hi').1) (fun _ => nI 0) (a 70 0) 0
  refine Or.inr ⟨n, pk, nI ((rf w s n 0 0 0 0 (fun _ => nI 0) (1, 0, fun _ => nI 2)).1 - 1), (rf w s n 0 0 0 0 (fun _ => nI 0) (1, 0, fun _ => nI 2)).2.2, (rf w s n 0 0 0 0 (fun _ => nI 0) (0, 0, a 70 0)).2.2, sb1, r3, fun post kk => ?_, fun Y hY post kk => ?_⟩
  · exact sp_findBest (w := w) (pk := pk) (n := n) (s := s) (r0 := r0) ht hp hi hj hD.1 hF (t1.trans q1) (by omega) (f0.trans f6) (by omega) sb1 hsq (fun i' hi' => ⟨(hw' i' hi').2.1, (hw' i' hi').2.2⟩) kk
  · have y : ∀ c, c ≠ 1 → c ≠ 17 → c ≠ 18 → c ≠ 19 → c ≠ 20 → c ≠ 21 → Y c = a c := hY
    have e11 : Y 11 = a 11 := y 11 (by decide) (by decide) (by decide) (by decide) (by decide) (by decide)
    have e47 : (qs Y 11 0 0 (nI 0)) 47 = a 47 := y 47 (by decide) (by decide) (by decide) (by decide) (by decide) (by decide)
    have e51 : (qs Y 11 0 0 (nI 0)) 51 = a 51 := y 51 (by decide) (by decide) (by decide) (by decide) (by decide) (by decide)
    have e56 : (qs Y 11 0 0 (nI 0)) 56 = a 56 := y 56 (by decide) (by decide) (by decide) (by decide) (by decide) (by decide)
    have e70 : (qs Y 11 0 0 (nI 0)) 70 = a 70 := y 70 (by decide) (by decide) (by decide) (by decide) (by decide) (by decide)
    have esq : sq (qs Y 11 0 0 (nI 0)) (nI r0) p = (n, pk) := by
      rw [← hsq]
      exact sq_cg (a := a) (a' := qs Y 11 0 0 (nI 0)) (y 55 (by decide) (by decide) (by decide) (by decide) (by decide) (by decide)) (y 58 (by decide) (by decide) (by decide) (by decide) (by decide) (by decide)) (y 59 (by decide) (by decide) (by decide) (by decide) (by decide) (by decide)) p
    refine sp_finds (w := w) (pk := pk) (n := n) (s := s) (r0 := r0) ht hp hi hj ?_ ?_ ?_ (by omega) ?_ (by omega) sb1 esq (fun i' hi' => ⟨(hw' i' hi').2.1, by have : pk i' < p := sb2 i' hi'; omega, ?_⟩) (fun Z z1 z2 z3 z4 z5 => ?_)
    · show Y 11 0 11 = nI t
      rw [e11]
      exact hD.2.1
    · show Y 11 0 20 = nI p
      rw [e11]
      exact hF.2.1
    · rw [e47]
      exact q1
    · rw [e51]
      exact f6
    · rw [e56]
      exact (hw' i' hi').2.2
    · rw [e70] at z2 z4
      refine kk Z z1 ?_ z3 z4 z5
      rw [z2]
      unfold ldv
      rw [if_neg (by omega), r2]
theorem best_inv {t p k : Nat} {a Y Z : qa} (hI : Inv t p k a) (hY : fbC a Y) (hZ : fbR (qs Y 11 0 0 (nI 0)) Z) : Inv t p (k + 1) Z := by
  obtain ⟨I, S, Hh, B, T, M, hA, hB, hC, hD, hE, hF, hG, hH, hT, hJ⟩ := hI
  have w : ∀ c, c ≠ 1 → c ≠ 17 → c ≠ 18 → c ≠ 19 → c ≠ 20 → c ≠ 21 → c ≠ 11 → c ≠ 68 → c ≠ 69 → c ≠ 70 → Z c = a c := by
    intro c c1 c2 c3 c4 c5 c6 c7 c8 c9 c10
    rw [hZ.2 c c7 c8 c9 c10, ← hY c c1 c2 c3 c4 c5 c6]
    funext i n
    exact qs_nc c7
  have w11 : ∀ n, n ≠ 0 → n ≠ 36 → n ≠ 39 → n ≠ 40 → Z 11 0 n = a 11 0 n := by
    intro n n0 n1 n2 n3
    rw [hZ.1 n n1 n2 n3, qs_nk n0, hY 11 (by decide) (by decide) (by decide) (by decide) (by decide) (by decide)]
  have x10 : ∀ n, Z 10 0 n = a 10 0 n := fun n => congrFun (congrFun (w 10 (by decide) (by decide) (by decide) (by decide) (by decide) (by decide) (by decide) (by decide) (by decide) (by decide)) 0) n
  refine ⟨I, S, Hh, B, T, M, hA.cg ?_ ?_ ?_ ?_ ?_ ?_ ?_ ?_, hB.cg ?_ ?_ ?_ ?_ ?_ ?_ ?_ ?_ ?_ ?_, ⟨hC.1, (x10 12).trans hC.2.1, (w11 1 (by decide) (by decide) (by decide) (by decide)).trans hC.2.2⟩, hD.cg ?_ ?_ ?_ ?_ ?_ ?_ ?_ ?_ ?_, hE.cg ?_ ?_ ?_ ?_ ?_ ?_ ?_ ?_ ?_, hF.cg ?_ ?_ ?_ ?_ ?_ ?_ ?_ ?_ ?_ ?_ ?_ ?_ ?_ ?_ ?_ ?_ ?_ ?_ ?_ ?_ ?_, (hG.k).cg ?_ ?_ ?_ ?_ ?_ ?_ ?_ ?_ ?_, hH.cg ?_ ?_ ?_ ?_ ?_ ?_ ?_ ?_ ?_ ?_ ?_ ?_ ?_ ?_ ?_, hT.cg ?_ ?_ ?_ ?_, ?_⟩
  all_goals first
    | exact w _ (by decide) (by decide) (by decide) (by decide) (by decide) (by decide) (by decide) (by decide) (by decide) (by decide)
    | exact x10 _
    | exact w11 _ (by decide) (by decide) (by decide) (by decide)
    | exact congrFun (congrFun (w _ (by decide) (by decide) (by decide) (by decide) (by decide) (by decide) (by decide) (by decide) (by decide) (by decide)) _) _
    | skip
  rw [x10, w11 49 (by decide) (by decide) (by decide) (by decide)]
  exact hJ
set_option maxHeartbeats 4000000 in
theorem pr_best : ob_best Inv := by
  intro t p k a x1 x2 hk ht hp hI
  have no : Inv t p (k + 1) (qs a 11 0 0 0) := hI.th 0
  unfold wp_X10_best
  rcases best_gen (x1 := x1) (x2 := x2) ht hp hI with ⟨h1, h2⟩ | ⟨n, pk, vr, v, v', hn, he, h1, h2⟩
  · refine h1 _ ?_
    simp (disch := first | assumption | omega) only [wp_X11_best, l0, l1, l2, l3, l4, l5, l6, l7, l8, l9, l10, l20, l60, l61, l62, bb_t, bb_f, l100, l120, l512, l400, l401, l700, l9999, nm1, lm1, nlt, nle, neq, glt, gle, lgt, lge, geq, egq, mI_l, mI_e, e_mI, l_mI, le_mI, mI_le, bI_z, nC, vnI, nI_add, nI_sb, nI_mul, a1m, qs_eq, qs_nc, qs_ni, qs_nk, bq_l, bq_r, bq_l', bq_r', bq_t, bq_f, bq_t', bq_f', bq_n, bq_m, iT, iS, iN, true_and, and_true, eq_self, not_true_eq_false, not_false_eq_true, forall_const, bx_t, bx_f, reduceCtorEq, Option.some.injEq, forall_eq', ite_true, ite_false]
    refine h2 _ ?_
    simp (disch := first | assumption | omega) only [l0, l1, l2, l3, l4, l5, l6, l7, l8, l9, l10, l20, l60, l61, l62, bb_t, bb_f, l100, l120, l512, l400, l401, l700, l9999, nm1, lm1, nlt, nle, neq, glt, gle, lgt, lge, geq, egq, mI_l, mI_e, e_mI, l_mI, le_mI, mI_le, bI_z, nC, vnI, nI_add, nI_sb, nI_mul, a1m, qs_eq, qs_nc, qs_ni, qs_nk, bq_l, bq_r, bq_l', bq_r', bq_t, bq_f, bq_t', bq_f', bq_n, bq_m, iT, iS, iN, true_and, and_true, eq_self, not_true_eq_false, not_false_eq_true, forall_const, bx_t, bx_f, reduceCtorEq, Option.some.injEq, forall_eq', ite_true, ite_false]
    exact no
  · refine h1 _ (fun Y y1 y2 y3 y4 y5 => ?_)
    simp (disch := first | assumption | omega) only [y2, wp_X11_best, l0, l1, l2, l3, l4, l5, l6, l7, l8, l9, l10, l20, l60, l61, l62, bb_t, bb_f, l100, l120, l512, l400, l401, l700, l9999, nm1, lm1, nlt, nle, neq, glt, gle, lgt, lge, geq, egq, mI_l, mI_e, e_mI, l_mI, le_mI, mI_le, bI_z, nC, vnI, nI_add, nI_sb, nI_mul, a1m, qs_eq, qs_nc, qs_ni, qs_nk, bq_l, bq_r, bq_l', bq_r', bq_t, bq_f, bq_t', bq_f', bq_n, bq_m, iT, iS, iN, true_and, and_true, eq_self, not_true_eq_false, not_false_eq_true, forall_const, bx_t, bx_f, reduceCtorEq, Option.some.injEq, forall_eq', ite_true, ite_false]
    refine h2 Y y5 _ (fun Z z1 z2 z3 z4 z5 => ?_)
    simp (disch := first | assumption | omega) only [z2, l0, l1, l2, l3, l4, l5, l6, l7, l8, l9, l10, l20, l60, l61, l62, bb_t, bb_f, l100, l120, l512, l400, l401, l700, l9999, nm1, lm1, nlt, nle, neq, glt, gle, lgt, lge, geq, egq, mI_l, mI_e, e_mI, l_mI, le_mI, mI_le, bI_z, nC, vnI, nI_add, nI_sb, nI_mul, a1m, qs_eq, qs_nc, qs_ni, qs_nk, bq_l, bq_r, bq_l', bq_r', bq_t, bq_f, bq_t', bq_f', bq_n, bq_m, iT, iS, iN, true_and, and_true, eq_self, not_true_eq_false, not_false_eq_true, forall_const, bx_t, bx_f, reduceCtorEq, Option.some.injEq, forall_eq', ite_true, ite_false]
    exact best_inv hI y5 z5
set_option maxHeartbeats 4000000 in
theorem pr_bestOf : ob_bestOf Inv := by
  intro t p k a x1 x2 x3 hk ht hp hI
  have no : Inv t p (k + 1) (qs a 11 0 0 0) := hI.th 0
  unfold wp_X10_bestOf
  rcases best_gen (x1 := x1) (x2 := x2) ht hp hI with ⟨h1, h2⟩ | ⟨n, pk, vr, v, v', hn, he, h1, h2⟩
  · refine h1 _ ?_
    simp (disch := first | assumption | omega) only [wp_X11_bestOf, l0, l1, l2, l3, l4, l5, l6, l7, l8, l9, l10, l20, l60, l61, l62, bb_t, bb_f, l100, l120, l512, l400, l401, l700, l9999, nm1, lm1, nlt, nle, neq, glt, gle, lgt, lge, geq, egq, mI_l, mI_e, e_mI, l_mI, le_mI, mI_le, bI_z, nC, vnI, nI_add, nI_sb, nI_mul, a1m, qs_eq, qs_nc, qs_ni, qs_nk, bq_l, bq_r, bq_l', bq_r', bq_t, bq_f, bq_t', bq_f', bq_n, bq_m, iT, iS, iN, true_and, and_true, eq_self, not_true_eq_false, not_false_eq_true, forall_const, bx_t, bx_f, reduceCtorEq, Option.some.injEq, forall_eq', ite_true, ite_false]
    refine h2 _ ?_
    simp (disch := first | assumption | omega) only [l0, l1, l2, l3, l4, l5, l6, l7, l8, l9, l10, l20, l60, l61, l62, bb_t, bb_f, l100, l120, l512, l400, l401, l700, l9999, nm1, lm1, nlt, nle, neq, glt, gle, lgt, lge, geq, egq, mI_l, mI_e, e_mI, l_mI, le_mI, mI_le, bI_z, nC, vnI, nI_add, nI_sb, nI_mul, a1m, qs_eq, qs_nc, qs_ni, qs_nk, bq_l, bq_r, bq_l', bq_r', bq_t, bq_f, bq_t', bq_f', bq_n, bq_m, iT, iS, iN, true_and, and_true, eq_self, not_true_eq_false, not_false_eq_true, forall_const, bx_t, bx_f, reduceCtorEq, Option.some.injEq, forall_eq', ite_true, ite_false]
    exact no
  · refine h1 _ (fun Y y1 y2 y3 y4 y5 => ?_)
    simp (disch := first | assumption | omega) only [wp_X1_sideOf, l0, l1, l2, l3, l4, l5, l6, l7, l8, l9, l10, l20, l60, l61, l62, bb_t, bb_f, l100, l120, l512, l400, l401, l700, l9999, nm1, lm1, nlt, nle, neq, glt, gle, lgt, lge, geq, egq, mI_l, mI_e, e_mI, l_mI, le_mI, mI_le, bI_z, nC, vnI, nI_add, nI_sb, nI_mul, a1m, qs_eq, qs_nc, qs_ni, qs_nk, bq_l, bq_r, bq_l', bq_r', bq_t, bq_f, bq_t', bq_f', bq_n, bq_m, iT, iS, iN, true_and, and_true, eq_self, not_true_eq_false, not_false_eq_true, forall_const, bx_t, bx_f, reduceCtorEq, Option.some.injEq, forall_eq', ite_true, ite_false]
    refine ⟨n + 1, sl_sideOf hn y1 y3 y4 n 0 (by omega) ?_⟩
    simp (disch := first | assumption | omega) only [wp_X11_bestOf, l0, l1, l2, l3, l4, l5, l6, l7, l8, l9, l10, l20, l60, l61, l62, bb_t, bb_f, l100, l120, l512, l400, l401, l700, l9999, nm1, lm1, nlt, nle, neq, glt, gle, lgt, lge, geq, egq, mI_l, mI_e, e_mI, l_mI, le_mI, mI_le, bI_z, nC, vnI, nI_add, nI_sb, nI_mul, a1m, qs_eq, qs_nc, qs_ni, qs_nk, bq_l, bq_r, bq_l', bq_r', bq_t, bq_f, bq_t', bq_f', bq_n, bq_m, iT, iS, iN, true_and, and_true, eq_self, not_true_eq_false, not_false_eq_true, forall_const, bx_t, bx_f, reduceCtorEq, Option.some.injEq, forall_eq', ite_true, ite_false]
    refine h2 Y y5 _ (fun Z z1 z2 z3 z4 z5 => ?_)
    simp (disch := first | assumption | omega) only [l0, l1, l2, l3, l4, l5, l6, l7, l8, l9, l10, l20, l60, l61, l62, bb_t, bb_f, l100, l120, l512, l400, l401, l700, l9999, nm1, lm1, nlt, nle, neq, glt, gle, lgt, lge, geq, egq, mI_l, mI_e, e_mI, l_mI, le_mI, mI_le, bI_z, nC, vnI, nI_add, nI_sb, nI_mul, a1m, qs_eq, qs_nc, qs_ni, qs_nk, bq_l, bq_r, bq_l', bq_r', bq_t, bq_f, bq_t', bq_f', bq_n, bq_m, iT, iS, iN, true_and, and_true, eq_self, not_true_eq_false, not_false_eq_true, forall_const, bx_t, bx_f, reduceCtorEq, Option.some.injEq, forall_eq', ite_true, ite_false]
    refine ⟨n + 1, sl_bestOfR hn z1 z3 z4 n 0 (by omega) ?_⟩
    exact ⟨(fndO_e he n 0 (by omega)).symm, best_inv hI y5 z5⟩
