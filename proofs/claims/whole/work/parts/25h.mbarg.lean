theorem rl_2 (f : Nat → Nat) (T n : Nat) : (rl f T n).1 ≤ 2 := by
  unfold rl
  by_cases c : (hd f T n).1 = 0
  · rw [if_pos c]
    unfold rz
    split
    · split
      · split
        · exact Nat.zero_le _
        · show 1 ≤ 2
          decide
      · show 1 ≤ 2
        decide
    · show 1 ≤ 2
      decide
  · rw [if_neg c]
    show (hd f T n).1 ≤ 2
    unfold hd
    split
    · exact Nat.zero_le _
    · exact ph_2 f T 4 n
theorem al_b (f : Nat → Nat) (T : Nat) : ∀ d r, r + d = 20 → (al f T d r).1 ≤ 2 ∧ (al f T d r).2.2 ≤ 20 := by
  intro d
  induction d with
  | zero =>
    intro r hr
    unfold al
    split
    · exact ⟨Nat.zero_le _, by show r ≤ 20; omega⟩
    · split
      · exact ⟨Nat.le_refl _, by show r ≤ 20; omega⟩
      · exact ⟨by show 1 ≤ 2; decide, by show r ≤ 20; omega⟩
  | succ d ih =>
    intro r hr
    unfold al
    split
    · exact ⟨Nat.zero_le _, by show r ≤ 20; omega⟩
    · split
      · split
        · exact ih (r + 1) (by omega)
        · exact ⟨rl_2 f T _, by show r ≤ 20; omega⟩
      · exact ⟨by show 1 ≤ 2; decide, by show r ≤ 20; omega⟩
theorem sp_mrule20 {t p T n : Nat} {f : Nat → Nat} {a : qa} {post : qa → Prop} (h : MP f T a) (h47 : a 11 0 47 = nI 0) (hm : MS f T n a) (h73 : a 73 0 10 = nI 20) (hh : hpB f T n = true) (kk : post (fm f T a 2 n)) : wp_X11_rule t p a post := by
  have hc := of_decide_eq_true hh
  have go : wl_X11_rule_23 t p post a := by
    unfold wl_X11_rule_23
    simp (disch := first | assumption | omega) only [h73, l0, l1, l2, l3, l4, l5, l6, l7, l8, l9, l10, l20, l60, l61, l62, bb_t, bb_f, l100, l120, l512, l400, l401, l700, l9999, nm1, lm1, nlt, nle, neq, glt, gle, lgt, lge, geq, egq, mI_l, mI_e, e_mI, l_mI, le_mI, mI_le, bI_z, nC, vnI, nI_add, nI_sb, nI_mul, a1m, qs_eq, qs_nc, qs_ni, qs_nk, bq_l, bq_r, bq_l', bq_r', bq_t, bq_f, bq_t', bq_f', bq_n, bq_m, iT, iS, iN, true_and, and_true, eq_self, not_true_eq_false, not_false_eq_true, forall_const, bx_t, bx_f, reduceCtorEq, Option.some.injEq, forall_eq', ite_true, ite_false]
    exact sp_fails (k := 2) h47 hm kk
  unfold wp_X11_rule
  refine sp_is7 h.f hm (fun c7 => ?_) (fun c7 => ?_)
  · simp (disch := first | assumption | omega) only [l0, l1, l2, l3, l4, l5, l6, l7, l8, l9, l10, l20, l60, l61, l62, bb_t, bb_f, l100, l120, l512, l400, l401, l700, l9999, nm1, lm1, nlt, nle, neq, glt, gle, lgt, lge, geq, egq, mI_l, mI_e, e_mI, l_mI, le_mI, mI_le, bI_z, nC, vnI, nI_add, nI_sb, nI_mul, a1m, qs_eq, qs_nc, qs_ni, qs_nk, bq_l, bq_r, bq_l', bq_r', bq_t, bq_f, bq_t', bq_f', bq_n, bq_m, iT, iS, iN, true_and, and_true, eq_self, not_true_eq_false, not_false_eq_true, forall_const, bx_t, bx_f, reduceCtorEq, Option.some.injEq, forall_eq', ite_true, ite_false]
    exact go
  · simp (disch := first | assumption | omega) only [l0, l1, l2, l3, l4, l5, l6, l7, l8, l9, l10, l20, l60, l61, l62, bb_t, bb_f, l100, l120, l512, l400, l401, l700, l9999, nm1, lm1, nlt, nle, neq, glt, gle, lgt, lge, geq, egq, mI_l, mI_e, e_mI, l_mI, le_mI, mI_le, bI_z, nC, vnI, nI_add, nI_sb, nI_mul, a1m, qs_eq, qs_nc, qs_ni, qs_nk, bq_l, bq_r, bq_l', bq_r', bq_t, bq_f, bq_t', bq_f', bq_n, bq_m, iT, iS, iN, true_and, and_true, eq_self, not_true_eq_false, not_false_eq_true, forall_const, bx_t, bx_f, reduceCtorEq, Option.some.injEq, forall_eq', ite_true, ite_false]
    refine sp_word h hm ?_
    rcases wd_c (n := n) h.f with ⟨q1, q2, k, q3, q4⟩ | ⟨q1, q2, k, q3, q4⟩ | ⟨q, _⟩
    · rw [q2, q4]
      simp (disch := first | assumption | omega) only [l0, l1, l2, l3, l4, l5, l6, l7, l8, l9, l10, l20, l60, l61, l62, bb_t, bb_f, l100, l120, l512, l400, l401, l700, l9999, nm1, lm1, nlt, nle, neq, glt, gle, lgt, lge, geq, egq, mI_l, mI_e, e_mI, l_mI, le_mI, mI_le, bI_z, nC, vnI, nI_add, nI_sb, nI_mul, a1m, qs_eq, qs_nc, qs_ni, qs_nk, bq_l, bq_r, bq_l', bq_r', bq_t, bq_f, bq_t', bq_f', bq_n, bq_m, iT, iS, iN, true_and, and_true, eq_self, not_true_eq_false, not_false_eq_true, forall_const, bx_t, bx_f, reduceCtorEq, Option.some.injEq, forall_eq', ite_true, ite_false]
      exact go
    · rw [q2, q4]
      simp (disch := first | assumption | omega) only [l0, l1, l2, l3, l4, l5, l6, l7, l8, l9, l10, l20, l60, l61, l62, bb_t, bb_f, l100, l120, l512, l400, l401, l700, l9999, nm1, lm1, nlt, nle, neq, glt, gle, lgt, lge, geq, egq, mI_l, mI_e, e_mI, l_mI, le_mI, mI_le, bI_z, nC, vnI, nI_add, nI_sb, nI_mul, a1m, qs_eq, qs_nc, qs_ni, qs_nk, bq_l, bq_r, bq_l', bq_r', bq_t, bq_f, bq_t', bq_f', bq_n, bq_m, iT, iS, iN, true_and, and_true, eq_self, not_true_eq_false, not_false_eq_true, forall_const, bx_t, bx_f, reduceCtorEq, Option.some.injEq, forall_eq', ite_true, ite_false]
      exact go
    · omega
theorem sp_mruleN {t p T n : Nat} {f : Nat → Nat} {a : qa} {post : qa → Prop} (h : MP f T a) (h47 : a 11 0 47 = nI 0) (hm : MS f T n a) (hh : hpB f T n = false) (kk : post (fm f T a 1 n)) : wp_X11_rule t p a post := by
  have hc := of_decide_eq_false hh
  unfold wp_X11_rule
  refine sp_is7 h.f hm (fun c7 => by omega) (fun c7 => ?_)
  simp (disch := first | assumption | omega) only [l0, l1, l2, l3, l4, l5, l6, l7, l8, l9, l10, l20, l60, l61, l62, bb_t, bb_f, l100, l120, l512, l400, l401, l700, l9999, nm1, lm1, nlt, nle, neq, glt, gle, lgt, lge, geq, egq, mI_l, mI_e, e_mI, l_mI, le_mI, mI_le, bI_z, nC, vnI, nI_add, nI_sb, nI_mul, a1m, qs_eq, qs_nc, qs_ni, qs_nk, bq_l, bq_r, bq_l', bq_r', bq_t, bq_f, bq_t', bq_f', bq_n, bq_m, iT, iS, iN, true_and, and_true, eq_self, not_true_eq_false, not_false_eq_true, forall_const, bx_t, bx_f, reduceCtorEq, Option.some.injEq, forall_eq', ite_true, ite_false]
  refine sp_word h hm ?_
  rcases wd_c (n := n) h.f with ⟨q1, q2, k, q3, q4⟩ | ⟨q1, q2, k, q3, q4⟩ | ⟨q, q2⟩
  · omega
  · omega
  · rw [q2]
    simp (disch := first | assumption | omega) only [l0, l1, l2, l3, l4, l5, l6, l7, l8, l9, l10, l20, l60, l61, l62, bb_t, bb_f, l100, l120, l512, l400, l401, l700, l9999, nm1, lm1, nlt, nle, neq, glt, gle, lgt, lge, geq, egq, mI_l, mI_e, e_mI, l_mI, le_mI, mI_le, bI_z, nC, vnI, nI_add, nI_sb, nI_mul, a1m, qs_eq, qs_nc, qs_ni, qs_nk, bq_l, bq_r, bq_l', bq_r', bq_t, bq_f, bq_t', bq_f', bq_n, bq_m, iT, iS, iN, true_and, and_true, eq_self, not_true_eq_false, not_false_eq_true, forall_const, bx_t, bx_f, reduceCtorEq, Option.some.injEq, forall_eq', ite_true, ite_false]
    exact sp_fails (k := 1) h47 hm kk
theorem MU_k {f : Nat → Nat} {T r s n : Nat} {a a' : qa} (hs : s < r) (h : MU f T s n a) (hk : KM (200 + r) a a') : MU f T s n a' := by
  obtain ⟨h1, h2, h3⟩ := h
  have c4 := Cn_4 f T n
  refine ⟨?_, ?_, fun i hi => ?_⟩
  · rw [hk 74 0 _ (by omega)]; exact h1
  · rw [hk 75 0 _ (by omega)]; exact h2
  · rw [hk 76 0 _ (by omega), hk 77 0 _ (by omega), hk 78 0 _ (by omega)]
    exact h3 i hi
theorem sl_mstop {t p T k i m : Nat} {f : Nat → Nat} {a : qa} {post : Int32 → qa → Prop} (hq : FQ f T k i a) (hk : 1 ≤ k) (hk2 : k ≤ 2) (kk : wl_X11_bargain_59 t p post a) : wl_X11_bargain_38 t p post (m + 1) a := by
  unfold wl_X11_bargain_38
  refine sp_ill hq.1 hk hk2 ?_
  simp (disch := first | assumption | omega) only [l0, l1, l2, l3, l4, l5, l6, l7, l8, l9, l10, l20, l60, l61, l62, bb_t, bb_f, l100, l120, l512, l400, l401, l700, l9999, nm1, lm1, nlt, nle, neq, glt, gle, lgt, lge, geq, egq, mI_l, mI_e, e_mI, l_mI, le_mI, mI_le, bI_z, nC, vnI, nI_add, nI_sb, nI_mul, a1m, qs_eq, qs_nc, qs_ni, qs_nk, bq_l, bq_r, bq_l', bq_r', bq_t, bq_f, bq_t', bq_f', bq_n, bq_m, iT, iS, iN, true_and, and_true, eq_self, not_true_eq_false, not_false_eq_true, forall_const, bx_t, bx_f, reduceCtorEq, Option.some.injEq, forall_eq', ite_true, ite_false]
  exact kk
set_option maxHeartbeats 4000000 in
theorem sl_mb {t p T : Nat} {f : Nat → Nat} {a0 : qa} {post : Int32 → qa → Prop} : ∀ (d r : Nat) (a : qa), r + d = 20 → MP f T a → KM 200 a0 a → a 11 0 47 = nI 0 → MS f T (st f T r) a → a 73 0 10 = nI r → (∀ s, s < r → MU f T s (st f T s) a) → ((al f T d r).1 = 0 → ∀ a', KM 200 a0 a' → a' 11 0 47 = nI 0 → a' 73 0 10 = nI (al f T d r).2.2 → (∀ s, s < (al f T d r).2.2 → MU f T s (st f T s) a') → wl_X11_bargain_59 t p post a') → (¬ (al f T d r).1 = 0 → ∀ a', KM 200 a0 a' → FQ f T (al f T d r).1 (al f T d r).2.1 a' → wl_X11_bargain_59 t p post a') → wl_X11_bargain_38 t p post (d + 2) a := by
  intro d
  induction d with
  | zero =>
    intro r a hr h hk h47 hm h73 hu k1 k0
    obtain rfl : r = 20 := by omega
    have s4 := SR4 h.f (st f T 20)
    have e45 := hm.2.2.1
    unfold wl_X11_bargain_38
    unfold al at k1 k0
    refine sp_well h47 ?_
    by_cases c0 : TT f T (st f T 20) = 0
    · rw [if_pos c0] at k1
      have g := k1 rfl a hk h47 h73 hu
      have z := (TT0 h.f).mpr c0
      have n0 : nI (SR f T (st f T 20)) = nI 0 := by rw [z]
      simp (disch := first | assumption | omega) only [e45, n0, l0, l1, l2, l3, l4, l5, l6, l7, l8, l9, l10, l20, l60, l61, l62, bb_t, bb_f, l100, l120, l512, l400, l401, l700, l9999, nm1, lm1, nlt, nle, neq, glt, gle, lgt, lge, geq, egq, mI_l, mI_e, e_mI, l_mI, le_mI, mI_le, bI_z, nC, vnI, nI_add, nI_sb, nI_mul, a1m, qs_eq, qs_nc, qs_ni, qs_nk, bq_l, bq_r, bq_l', bq_r', bq_t, bq_f, bq_t', bq_f', bq_n, bq_m, iT, iS, iN, true_and, and_true, eq_self, not_true_eq_false, not_false_eq_true, forall_const, bx_t, bx_f, reduceCtorEq, Option.some.injEq, forall_eq', ite_true, ite_false]
      exact g
    have z : ¬ SR f T (st f T 20) = 0 := fun x => c0 ((TT0 h.f).mp x)
    rw [if_neg c0] at k1 k0
    by_cases c1 : hpB f T (st f T 20) = true
    · rw [if_pos c1] at k0
      have g := k0 (Nat.succ_ne_zero _) _ (fm_k hk) fm_q
      simp (disch := first | assumption | omega) only [e45, l0, l1, l2, l3, l4, l5, l6, l7, l8, l9, l10, l20, l60, l61, l62, bb_t, bb_f, l100, l120, l512, l400, l401, l700, l9999, nm1, lm1, nlt, nle, neq, glt, gle, lgt, lge, geq, egq, mI_l, mI_e, e_mI, l_mI, le_mI, mI_le, bI_z, nC, vnI, nI_add, nI_sb, nI_mul, a1m, qs_eq, qs_nc, qs_ni, qs_nk, bq_l, bq_r, bq_l', bq_r', bq_t, bq_f, bq_t', bq_f', bq_n, bq_m, iT, iS, iN, true_and, and_true, eq_self, not_true_eq_false, not_false_eq_true, forall_const, bx_t, bx_f, reduceCtorEq, Option.some.injEq, forall_eq', ite_true, ite_false]
      exact sp_mrule20 h h47 hm h73 c1 (sl_mstop fm_q (by decide) (by decide) g)
    · rw [if_neg c1] at k0
      have g := k0 (Nat.succ_ne_zero _) _ (fm_k hk) fm_q
      have c2 : hpB f T (st f T 20) = false := by simpa using c1
      simp (disch := first | assumption | omega) only [e45, l0, l1, l2, l3, l4, l5, l6, l7, l8, l9, l10, l20, l60, l61, l62, bb_t, bb_f, l100, l120, l512, l400, l401, l700, l9999, nm1, lm1, nlt, nle, neq, glt, gle, lgt, lge, geq, egq, mI_l, mI_e, e_mI, l_mI, le_mI, mI_le, bI_z, nC, vnI, nI_add, nI_sb, nI_mul, a1m, qs_eq, qs_nc, qs_ni, qs_nk, bq_l, bq_r, bq_l', bq_r', bq_t, bq_f, bq_t', bq_f', bq_n, bq_m, iT, iS, iN, true_and, and_true, eq_self, not_true_eq_false, not_false_eq_true, forall_const, bx_t, bx_f, reduceCtorEq, Option.some.injEq, forall_eq', ite_true, ite_false]
      exact sp_mruleN h h47 hm c2 (sl_mstop fm_q (by decide) (by decide) g)
  | succ d ih =>
    intro r a hr h hk h47 hm h73 hu k1 k0
    have s4 := SR4 h.f (st f T r)
    have e45 := hm.2.2.1
    unfold wl_X11_bargain_38
    unfold al at k1 k0
    refine sp_well h47 ?_
    by_cases c0 : TT f T (st f T r) = 0
    · rw [if_pos c0] at k1
      have g := k1 rfl a hk h47 h73 hu
      have z := (TT0 h.f).mpr c0
      have n0 : nI (SR f T (st f T r)) = nI 0 := by rw [z]
      simp (disch := first | assumption | omega) only [e45, n0, l0, l1, l2, l3, l4, l5, l6, l7, l8, l9, l10, l20, l60, l61, l62, bb_t, bb_f, l100, l120, l512, l400, l401, l700, l9999, nm1, lm1, nlt, nle, neq, glt, gle, lgt, lge, geq, egq, mI_l, mI_e, e_mI, l_mI, le_mI, mI_le, bI_z, nC, vnI, nI_add, nI_sb, nI_mul, a1m, qs_eq, qs_nc, qs_ni, qs_nk, bq_l, bq_r, bq_l', bq_r', bq_t, bq_f, bq_t', bq_f', bq_n, bq_m, iT, iS, iN, true_and, and_true, eq_self, not_true_eq_false, not_false_eq_true, forall_const, bx_t, bx_f, reduceCtorEq, Option.some.injEq, forall_eq', ite_true, ite_false]
      exact g
    have z : ¬ SR f T (st f T r) = 0 := fun x => c0 ((TT0 h.f).mp x)
    rw [if_neg c0] at k1 k0
    by_cases c1 : hpB f T (st f T r) = true
    · rw [if_pos c1] at k1 k0
      simp (disch := first | assumption | omega) only [e45, l0, l1, l2, l3, l4, l5, l6, l7, l8, l9, l10, l20, l60, l61, l62, bb_t, bb_f, l100, l120, l512, l400, l401, l700, l9999, nm1, lm1, nlt, nle, neq, glt, gle, lgt, lge, geq, egq, mI_l, mI_e, e_mI, l_mI, le_mI, mI_le, bI_z, nC, vnI, nI_add, nI_sb, nI_mul, a1m, qs_eq, qs_nc, qs_ni, qs_nk, bq_l, bq_r, bq_l', bq_r', bq_t, bq_f, bq_t', bq_f', bq_n, bq_m, iT, iS, iN, true_and, and_true, eq_self, not_true_eq_false, not_false_eq_true, forall_const, bx_t, bx_f, reduceCtorEq, Option.some.injEq, forall_eq', ite_true, ite_false]
      refine sp_mrule (by omega) h h47 hm h73 c1 (fun x a' g1 g2 g3 g4 g5 => ?_) (fun x a' g1 g2 => ?_)
      · rw [if_pos x] at k1 k0
        refine ih (r + 1) a' (by omega) (h.km g1) (hk.tr (g1.le (by omega))) g2 g3 g4 (fun s hs => ?_) k1 k0
        by_cases c : s = r
        · rw [c]; exact g5
        · exact MU_k (by omega) (hu s (by omega)) g1
      · rw [if_neg x] at k0
        have r2 := rl_2 f T (st f T r)
        exact sl_mstop g2 (by omega) r2 (k0 x a' (hk.tr (g1.le (by omega))) g2)
    · rw [if_neg c1] at k0
      have g := k0 (Nat.succ_ne_zero _) _ (fm_k hk) fm_q
      have c2 : hpB f T (st f T r) = false := by simpa using c1
      simp (disch := first | assumption | omega) only [e45, l0, l1, l2, l3, l4, l5, l6, l7, l8, l9, l10, l20, l60, l61, l62, bb_t, bb_f, l100, l120, l512, l400, l401, l700, l9999, nm1, lm1, nlt, nle, neq, glt, gle, lgt, lge, geq, egq, mI_l, mI_e, e_mI, l_mI, le_mI, mI_le, bI_z, nC, vnI, nI_add, nI_sb, nI_mul, a1m, qs_eq, qs_nc, qs_ni, qs_nk, bq_l, bq_r, bq_l', bq_r', bq_t, bq_f, bq_t', bq_f', bq_n, bq_m, iT, iS, iN, true_and, and_true, eq_self, not_true_eq_false, not_false_eq_true, forall_const, bx_t, bx_f, reduceCtorEq, Option.some.injEq, forall_eq', ite_true, ite_false]
      exact sp_mruleN h h47 hm c2 (sl_mstop fm_q (by decide) (by decide) g)
def CP1 (B n : Nat) (a0 a : qa) : Prop := (∀ c, c ≠ 74 → c ≠ 75 → a c = a0 c) ∧ ∀ k, (a 74 0 k = if 20 * B ≤ k ∧ k < 20 * B + n then a0 74 0 (200 + (k - 20 * B)) else a0 74 0 k) ∧ (a 75 0 k = if 20 * B ≤ k ∧ k < 20 * B + n then a0 75 0 (200 + (k - 20 * B)) else a0 75 0 k)
def CP2 (B n : Nat) (a0 a : qa) : Prop := (∀ c, c ≠ 76 → c ≠ 77 → c ≠ 78 → a c = a0 c) ∧ ∀ k, (a 76 0 k = if 80 * B ≤ k ∧ k < 80 * B + n then a0 76 0 (800 + (k - 80 * B)) else a0 76 0 k) ∧ (a 77 0 k = if 80 * B ≤ k ∧ k < 80 * B + n then a0 77 0 (800 + (k - 80 * B)) else a0 77 0 k) ∧ (a 78 0 k = if 80 * B ≤ k ∧ k < 80 * B + n then a0 78 0 (800 + (k - 80 * B)) else a0 78 0 k)
theorem cp_s {B N Z n : Nat} {g0 g : Nat → Int32} (hN : N * B + N ≤ Z) (hn : n < N) (h : ∀ k, g k = if N * B ≤ k ∧ k < N * B + n then g0 (Z + (k - N * B)) else g0 k) (k : Nat) : (if k = N * B + n then g (Z + n) else g k) = if N * B ≤ k ∧ k < N * B + (n + 1) then g0 (Z + (k - N * B)) else g0 k := by
  by_cases c : k = N * B + n
  · rw [if_pos c, if_pos (by omega), h, if_neg (by omega)]
    congr 1
    omega
  · rw [if_neg c, h]
    by_cases d : N * B ≤ k ∧ k < N * B + n
    · rw [if_pos d, if_pos (by omega)]
    · rw [if_neg d, if_neg (by omega)]
theorem qs_if (a : qa) (c k j : Nat) (x : Int32) : qs a c 0 k x c 0 j = if j = k then x else a c 0 j := by
  by_cases h : j = k
  · rw [if_pos h, h, qs_eq]
  · rw [if_neg h, qs_nk h]
theorem CP1_s {B n : Nat} {a0 a : qa} (hB : B ≤ 9) (hn : n < 20) (h : CP1 B n a0 a) : CP1 B (n + 1) a0 (qs (qs a 74 0 (20 * B + n) (a 74 0 (200 + n))) 75 0 (20 * B + n) (a 75 0 (200 + n))) := by
  refine ⟨fun c c1 c2 => ?_, fun k => ⟨?_, ?_⟩⟩
  · rw [← h.1 c c1 c2]
    funext i k
    rw [qs_nc c2, qs_nc c1]
  · rw [qs_nc (by decide), qs_if]
    exact cp_s (g := fun k => a 74 0 k) (g0 := fun k => a0 74 0 k) (by omega) hn (fun k => (h.2 k).1) k
  · rw [qs_if, qs_nc (by decide)]
    exact cp_s (g := fun k => a 75 0 k) (g0 := fun k => a0 75 0 k) (by omega) hn (fun k => (h.2 k).2) k
theorem CP2_s {B n : Nat} {a0 a : qa} (hB : B ≤ 9) (hn : n < 80) (h : CP2 B n a0 a) : CP2 B (n + 1) a0 (qs (qs (qs a 76 0 (80 * B + n) (a 76 0 (800 + n))) 77 0 (80 * B + n) (a 77 0 (800 + n))) 78 0 (80 * B + n) (a 78 0 (800 + n))) := by
  refine ⟨fun c c1 c2 c3 => ?_, fun k => ⟨?_, ?_, ?_⟩⟩
  · rw [← h.1 c c1 c2 c3]
    funext i k
    rw [qs_nc c3, qs_nc c2, qs_nc c1]
  · rw [qs_nc (by decide), qs_nc (by decide), qs_if]
    exact cp_s (g := fun k => a 76 0 k) (g0 := fun k => a0 76 0 k) (by omega) hn (fun k => (h.2 k).1) k
  · rw [qs_nc (by decide), qs_if, qs_nc (by decide)]
    exact cp_s (g := fun k => a 77 0 k) (g0 := fun k => a0 77 0 k) (by omega) hn (fun k => (h.2 k).2.1) k
  · rw [qs_if, qs_nc (by decide), qs_nc (by decide)]
    exact cp_s (g := fun k => a 78 0 k) (g0 := fun k => a0 78 0 k) (by omega) hn (fun k => (h.2 k).2.2) k
theorem sl_198 {t p B : Nat} {a0 : qa} {post : Int32 → qa → Prop} (hB : B ≤ 9) (kk : ∀ a', CP2 B 80 a0 a' → post (nI B) a') : ∀ (m n : Nat) (a : qa), n + m = 80 → CP2 B n a0 a → wl_X11_bargain_198 t p post (m + 1) (nI B) (nI n) a := by
  intro m
  induction m with
  | zero =>
    intro n a hn h
    obtain rfl : n = 80 := by omega
    simp (disch := first | assumption | omega) only [wl_X11_bargain_198, l80, l0, l1, l2, l3, l4, l5, l6, l7, l8, l9, l10, l20, l60, l61, l62, bb_t, bb_f, l100, l120, l512, l400, l401, l700, l9999, nm1, lm1, nlt, nle, neq, glt, gle, lgt, lge, geq, egq, mI_l, mI_e, e_mI, l_mI, le_mI, mI_le, bI_z, nC, vnI, nI_add, nI_sb, nI_mul, a1m, qs_eq, qs_nc, qs_ni, qs_nk, bq_l, bq_r, bq_l', bq_r', bq_t, bq_f, bq_t', bq_f', bq_n, bq_m, iT, iS, iN, true_and, and_true, eq_self, not_true_eq_false, not_false_eq_true, forall_const, bx_t, bx_f, reduceCtorEq, Option.some.injEq, forall_eq', ite_true, ite_false]
    exact kk a h
  | succ m ih =>
    intro n a hn h
    unfold wl_X11_bargain_198
    have r := ih (n + 1) _ (by omega) (CP2_s hB (by omega) h)
    simp (disch := first | assumption | omega) only [l80, l800, l0, l1, l2, l3, l4, l5, l6, l7, l8, l9, l10, l20, l60, l61, l62, bb_t, bb_f, l100, l120, l512, l400, l401, l700, l9999, nm1, lm1, nlt, nle, neq, glt, gle, lgt, lge, geq, egq, mI_l, mI_e, e_mI, l_mI, le_mI, mI_le, bI_z, nC, vnI, nI_add, nI_sb, nI_mul, a1m, qs_eq, qs_nc, qs_ni, qs_nk, bq_l, bq_r, bq_l', bq_r', bq_t, bq_f, bq_t', bq_f', bq_n, bq_m, iT, iS, iN, true_and, and_true, eq_self, not_true_eq_false, not_false_eq_true, forall_const, bx_t, bx_f, reduceCtorEq, Option.some.injEq, forall_eq', ite_true, ite_false]
    exact r
theorem sl_138 {t p B R : Nat} {a0 : qa} {post : Int32 → qa → Prop} (hB : B ≤ 9) (hR : R ≤ 20) (h73 : a0 73 0 B = nI R) (kk : ∀ a', CP1 B R a0 a' → ∃ n, wl_X11_bargain_198 t p post n (nI B) (nI 0) a') : ∀ (m n : Nat) (a : qa), n + m = R → CP1 B n a0 a → wl_X11_bargain_138 t p post (m + 1) (nI B) (nI n) a := by
  intro m
  induction m with
  | zero =>
    intro n a hn h
    obtain rfl : n = R := by omega
    have e : a 73 0 B = nI n := by rw [h.1 73 (by decide) (by decide)]; exact h73
    simp (disch := first | assumption | omega) only [wl_X11_bargain_138, e, l0, l1, l2, l3, l4, l5, l6, l7, l8, l9, l10, l20, l60, l61, l62, bb_t, bb_f, l100, l120, l512, l400, l401, l700, l9999, nm1, lm1, nlt, nle, neq, glt, gle, lgt, lge, geq, egq, mI_l, mI_e, e_mI, l_mI, le_mI, mI_le, bI_z, nC, vnI, nI_add, nI_sb, nI_mul, a1m, qs_eq, qs_nc, qs_ni, qs_nk, bq_l, bq_r, bq_l', bq_r', bq_t, bq_f, bq_t', bq_f', bq_n, bq_m, iT, iS, iN, true_and, and_true, eq_self, not_true_eq_false, not_false_eq_true, forall_const, bx_t, bx_f, reduceCtorEq, Option.some.injEq, forall_eq', ite_true, ite_false]
    exact kk a h
  | succ m ih =>
    intro n a hn h
    have e : a 73 0 B = nI R := by rw [h.1 73 (by decide) (by decide)]; exact h73
    unfold wl_X11_bargain_138
    have r := ih (n + 1) _ (by omega) (CP1_s hB (by omega) h)
    simp (disch := first | assumption | omega) only [e, l200, l0, l1, l2, l3, l4, l5, l6, l7, l8, l9, l10, l20, l60, l61, l62, bb_t, bb_f, l100, l120, l512, l400, l401, l700, l9999, nm1, lm1, nlt, nle, neq, glt, gle, lgt, lge, geq, egq, mI_l, mI_e, e_mI, l_mI, le_mI, mI_le, bI_z, nC, vnI, nI_add, nI_sb, nI_mul, a1m, qs_eq, qs_nc, qs_ni, qs_nk, bq_l, bq_r, bq_l', bq_r', bq_t, bq_f, bq_t', bq_f', bq_n, bq_m, iT, iS, iN, true_and, and_true, eq_self, not_true_eq_false, not_false_eq_true, forall_const, bx_t, bx_f, reduceCtorEq, Option.some.injEq, forall_eq', ite_true, ite_false]
    exact r
theorem MP.q11 {f : Nat → Nat} {T : Nat} {a : qa} (h : MP f T a) {k : Nat} {x : Int32} (h42 : 42 ≠ k) : MP f T (qs a 11 0 k x) := by
  unfold MP at h ⊢
  simp only [qs_nk h42, qs_nc (show (71 : Nat) ≠ 11 by decide)]
  exact h
def MF (B : Nat) (a a' : qa) : Prop := (∀ c, c ≠ 11 → (c < 72 ∨ 78 < c) → a' c = a c) ∧ (∀ k, k ≠ 0 → k < 42 → a' 11 0 k = a 11 0 k) ∧ (∀ k, k < B → a' 72 0 k = a 72 0 k ∧ a' 73 0 k = a 73 0 k) ∧ (∀ k, k < 20 * B → a' 74 0 k = a 74 0 k ∧ a' 75 0 k = a 75 0 k) ∧ ∀ k, k < 80 * B → a' 76 0 k = a 76 0 k ∧ a' 77 0 k = a 77 0 k ∧ a' 78 0 k = a 78 0 k
def MR (f : Nat → Nat) (T B R : Nat) (a : qa) : Prop := a 73 0 B = nI R ∧ ∀ s, s < R → a 74 0 (20 * B + s) = nI (Cn f T (st f T s)) ∧ a 75 0 (20 * B + s) = Am f T (st f T s) ∧ ∀ i, i < Cn f T (st f T s) → tmM f T (tj f T i (st f T s)) (a 76 0 (4 * (20 * B + s) + i)) (a 77 0 (4 * (20 * B + s) + i)) (a 78 0 (4 * (20 * B + s) + i))
set_option maxHeartbeats 8000000 in
theorem sp_mbargain {t p T B Hh : Nat} {f : Nat → Nat} {a : qa} {post : Int32 → qa → Prop} (hB : B ≤ 9) (h : MP f T a) (h50 : a 11 0 50 = nI B) (h1 : a 11 0 1 = nI Hh) (k1 : (al f T 20 0).1 = 0 → ∀ a', MF B a a' → a' 11 0 49 = mI → a' 11 0 50 = nI (B + 1) → a' 11 0 42 = nI 0 → a' 72 0 B = nI Hh → MR f T B (al f T 20 0).2.2 a' → post (nI B) a') (k0 : ¬ (al f T 20 0).1 = 0 → ∀ a', MF B a a' → a' 11 0 49 = nI (PP f T (al f T 20 0).2.1) → a' 11 0 50 = nI B → a' 11 0 42 = nI 0 → post (-2 - nI (al f T 20 0).1) a') : wp_X11_bargain t p a post := by
  have ab := al_b f T 20 0 (by decide)
  unfold wp_X11_bargain
  simp (disch := first | assumption | omega) only [h50, l0, l1, l2, l3, l4, l5, l6, l7, l8, l9, l10, l20, l60, l61, l62, bb_t, bb_f, l100, l120, l512, l400, l401, l700, l9999, nm1, lm1, nlt, nle, neq, glt, gle, lgt, lge, geq, egq, mI_l, mI_e, e_mI, l_mI, le_mI, mI_le, bI_z, nC, vnI, nI_add, nI_sb, nI_mul, a1m, qs_eq, qs_nc, qs_ni, qs_nk, bq_l, bq_r, bq_l', bq_r', bq_t, bq_f, bq_t', bq_f', bq_n, bq_m, iT, iS, iN, true_and, and_true, eq_self, not_true_eq_false, not_false_eq_true, forall_const, bx_t, bx_f, reduceCtorEq, Option.some.injEq, forall_eq', ite_true, ite_false]
  obtain ⟨A, eA⟩ : ∃ A, A = (qs (qs (qs (qs a 11 0 0 (nI 0)) 11 0 47 (nI 0)) 11 0 43 (nI 0)) 73 0 10 (nI 0)) := ⟨_, rfl⟩
  rw [← eA]
  have hM : MP f T A := by
    rw [eA]
    have := ((h.q11 (k := 0) (x := nI 0) (by decide)).q11 (k := 47) (x := nI 0) (by decide)).q11 (k := 43) (x := nI 0) (by decide)
    exact this.km ((KM.rf (R := 200) _).q (Or.inr (Or.inl ⟨rfl, rfl⟩)))
  have o43 : A 11 0 43 = nI 0 := by rw [eA, qs_nc (by decide), qs_eq]
  have o47 : A 11 0 47 = nI 0 := by rw [eA, qs_nc (by decide), qs_nk (by decide), qs_eq]
  have o73 : A 73 0 10 = nI 0 := by rw [eA, qs_eq]
  have oc : ∀ c, c ≠ 11 → c ≠ 73 → A c = a c := by
    intro c c1 c2
    funext i k
    rw [eA, qs_nc c2, qs_nc c1, qs_nc c1, qs_nc c1]
  have o11 : ∀ k, k ≠ 0 → k ≠ 47 → k ≠ 43 → A 11 0 k = a 11 0 k := by
    intro k q1 q2 q3
    rw [eA, qs_nc (by decide), qs_nk q3, qs_nk q2, qs_nk q1]
  have o73' : ∀ k, k ≠ 10 → A 73 0 k = a 73 0 k := by
    intro k q
    rw [eA, qs_nk q, qs_nc (by decide), qs_nc (by decide), qs_nc (by decide)]
  refine sp_rnext (i := 0) hM (Nat.zero_le _) o43 (fun a1 b1 b2 => ⟨22, ?_⟩)
  have kb : KM 200 A a1 := (KM.rf A).nx b1
  refine sl_mb (a0 := A) 20 0 a1 (by decide) (hM.nx b1) kb (by rw [b1 11 0 47 (by omega)]; exact o47) b2 (by rw [b1 73 0 10 (by omega)]; exact o73) (fun s hs => by omega) (fun x a2 g1 g2 g3 g4 => ?_) (fun x a2 g1 g2 => ?_)
  · obtain ⟨R, eR⟩ : ∃ R, R = (al f T 20 0).2.2 := ⟨_, rfl⟩
    rw [← eR] at g3 g4 k1 ab
    have q50 : a2 11 0 50 = nI B := by rw [g1 11 0 50 (by omega), o11 50 (by decide) (by decide) (by decide)]; exact h50
    have q1 : a2 11 0 1 = nI Hh := by rw [g1 11 0 1 (by omega), o11 1 (by decide) (by decide) (by decide)]; exact h1
    unfold wl_X11_bargain_59
    refine sp_well (by rw [qs_nk (by decide)]; exact g2) ?_
    simp (disch := first | assumption | omega) only [wl_X11_bargain_80, l0, l1, l2, l3, l4, l5, l6, l7, l8, l9, l10, l20, l60, l61, l62, bb_t, bb_f, l100, l120, l512, l400, l401, l700, l9999, nm1, lm1, nlt, nle, neq, glt, gle, lgt, lge, geq, egq, mI_l, mI_e, e_mI, l_mI, le_mI, mI_le, bI_z, nC, vnI, nI_add, nI_sb, nI_mul, a1m, qs_eq, qs_nc, qs_ni, qs_nk, bq_l, bq_r, bq_l', bq_r', bq_t, bq_f, bq_t', bq_f', bq_n, bq_m, iT, iS, iN, true_and, and_true, eq_self, not_true_eq_false, not_false_eq_true, forall_const, bx_t, bx_f, reduceCtorEq, Option.some.injEq, forall_eq', ite_true, ite_false]
    refine sp_well (by rw [qs_nk (by decide), qs_nk (by decide)]; exact g2) ?_
    have r50 : (qs (qs a2 11 0 42 (nI 0)) 11 0 49 mI) 11 0 50 = nI B := by rw [qs_nk (by decide), qs_nk (by decide)]; exact q50
    have r1 : (qs (qs a2 11 0 42 (nI 0)) 11 0 49 mI) 11 0 1 = nI Hh := by rw [qs_nk (by decide), qs_nk (by decide)]; exact q1
    have r73 : (qs (qs a2 11 0 42 (nI 0)) 11 0 49 mI) 73 0 10 = nI R := by rw [qs_nc (by decide), qs_nc (by decide)]; exact g3
    have r49 : (qs (qs a2 11 0 42 (nI 0)) 11 0 49 mI) 11 0 49 = mI := by rw [qs_eq]
    have r42 : (qs (qs a2 11 0 42 (nI 0)) 11 0 49 mI) 11 0 42 = nI 0 := by rw [qs_nk (by decide), qs_eq]
    have rk : ∀ k, k < 42 → (qs (qs a2 11 0 42 (nI 0)) 11 0 49 mI) 11 0 k = a2 11 0 k := fun k hk => by rw [qs_nk (by omega), qs_nk (by omega)]
    have rc : ∀ c, c ≠ 11 → (qs (qs a2 11 0 42 (nI 0)) 11 0 49 mI) c = a2 c := fun c hc => by
      funext i k
      rw [qs_nc hc, qs_nc hc]
    generalize (qs (qs a2 11 0 42 (nI 0)) 11 0 49 mI) = a3 at *
    simp (disch := first | assumption | omega) only [r50, r1, r73, l0, l1, l2, l3, l4, l5, l6, l7, l8, l9, l10, l20, l60, l61, l62, bb_t, bb_f, l100, l120, l512, l400, l401, l700, l9999, nm1, lm1, nlt, nle, neq, glt, gle, lgt, lge, geq, egq, mI_l, mI_e, e_mI, l_mI, le_mI, mI_le, bI_z, nC, vnI, nI_add, nI_sb, nI_mul, a1m, qs_eq, qs_nc, qs_ni, qs_nk, bq_l, bq_r, bq_l', bq_r', bq_t, bq_f, bq_t', bq_f', bq_n, bq_m, iT, iS, iN, true_and, and_true, eq_self, not_true_eq_false, not_false_eq_true, forall_const, bx_t, bx_f, reduceCtorEq, Option.some.injEq, forall_eq', ite_true, ite_false]
    obtain ⟨D, eD⟩ : ∃ D, D = (qs (qs (qs a3 11 0 50 (nI (B + 1))) 72 0 B (nI Hh)) 73 0 B (nI R)) := ⟨_, rfl⟩
    rw [← eD]
    have d73 : D 73 0 B = nI R := by rw [eD, qs_eq]
    refine ⟨_, sl_138 (a0 := D) hB ab.2 d73 (fun a4 m1 => ⟨_, sl_198 (a0 := a4) hB (fun a5 m2 => ?_) 80 0 a4 (by decide) ⟨fun c _ _ _ => rfl, fun k => ⟨(if_neg (by omega)).symm, (if_neg (by omega)).symm, (if_neg (by omega)).symm⟩⟩⟩) R 0 D (by omega) ⟨fun c _ _ => rfl, fun k => ⟨(if_neg (by omega)).symm, (if_neg (by omega)).symm⟩⟩⟩
    have c5 : ∀ c, c ≠ 74 → c ≠ 75 → c ≠ 76 → c ≠ 77 → c ≠ 78 → a5 c = D c := fun c x1 x2 x3 x4 x5 => (m2.1 c x3 x4 x5).trans (m1.1 c x1 x2)
    have D11 : ∀ k, k ≠ 50 → D 11 0 k = a3 11 0 k := fun k hk => by rw [eD, qs_nc (by decide), qs_nc (by decide), qs_nk hk]
    have D50 : D 11 0 50 = nI (B + 1) := by rw [eD, qs_nc (by decide), qs_nc (by decide), qs_eq]
    have D72 : D 72 0 B = nI Hh := by rw [eD, qs_nc (by decide), qs_eq]
    have Dc : ∀ c, c ≠ 11 → c ≠ 72 → c ≠ 73 → D c = a2 c := fun c x1 x2 x3 => by
      rw [← rc c x1]
      funext i k
      rw [eD, qs_nc x3, qs_nc x2, qs_nc x1]
    have e11 : a5 11 = D 11 := c5 11 (by decide) (by decide) (by decide) (by decide) (by decide)
    have e72 : a5 72 = D 72 := c5 72 (by decide) (by decide) (by decide) (by decide) (by decide)
    have e73 : a5 73 = D 73 := c5 73 (by decide) (by decide) (by decide) (by decide) (by decide)
    have e74 : ∀ k, a5 74 0 k = if 20 * B ≤ k ∧ k < 20 * B + R then a2 74 0 (200 + (k - 20 * B)) else a2 74 0 k := fun k => by
      rw [m2.1 74 (by decide) (by decide) (by decide), (m1.2 k).1, Dc 74 (by decide) (by decide) (by decide)]
    have e75 : ∀ k, a5 75 0 k = if 20 * B ≤ k ∧ k < 20 * B + R then a2 75 0 (200 + (k - 20 * B)) else a2 75 0 k := fun k => by
      rw [m2.1 75 (by decide) (by decide) (by decide), (m1.2 k).2, Dc 75 (by decide) (by decide) (by decide)]
    have e76 : ∀ k, a5 76 0 k = if 80 * B ≤ k ∧ k < 80 * B + 80 then a2 76 0 (800 + (k - 80 * B)) else a2 76 0 k := fun k => by
      rw [(m2.2 k).1, m1.1 76 (by decide) (by decide), Dc 76 (by decide) (by decide) (by decide)]
    have e77 : ∀ k, a5 77 0 k = if 80 * B ≤ k ∧ k < 80 * B + 80 then a2 77 0 (800 + (k - 80 * B)) else a2 77 0 k := fun k => by
      rw [(m2.2 k).2.1, m1.1 77 (by decide) (by decide), Dc 77 (by decide) (by decide) (by decide)]
    have e78 : ∀ k, a5 78 0 k = if 80 * B ≤ k ∧ k < 80 * B + 80 then a2 78 0 (800 + (k - 80 * B)) else a2 78 0 k := fun k => by
      rw [(m2.2 k).2.2, m1.1 78 (by decide) (by decide), Dc 78 (by decide) (by decide) (by decide)]
    refine k1 x a5 ⟨fun c x1 x2 => ?_, fun k x1 x2 => ?_, fun k hk => ⟨?_, ?_⟩, fun k hk => ⟨?_, ?_⟩, fun k hk => ⟨?_, ?_, ?_⟩⟩ ?_ ?_ ?_ ?_ ⟨?_, fun s hs => ?_⟩
    · rw [c5 c (by omega) (by omega) (by omega) (by omega) (by omega), Dc c x1 (by omega) (by omega), ← oc c x1 (by omega)]
      funext i k
      exact g1 c i k (by omega)
    · rw [e11, D11 k (by omega), rk k x2, g1 11 0 k (by omega), o11 k x1 (by omega) (by omega)]
    · rw [e72, eD, qs_nc (by decide), qs_nk (by omega), qs_nc (by decide), rc 72 (by decide), g1 72 0 k (by omega), oc 72 (by decide) (by decide)]
    · rw [e73, eD, qs_nk (by omega), qs_nc (by decide), qs_nc (by decide), rc 73 (by decide), g1 73 0 k (by omega), o73' k (by omega)]
    · rw [e74, if_neg (by omega), g1 74 0 k (by omega), oc 74 (by decide) (by decide)]
    · rw [e75, if_neg (by omega), g1 75 0 k (by omega), oc 75 (by decide) (by decide)]
    · rw [e76, if_neg (by omega), g1 76 0 k (by omega), oc 76 (by decide) (by decide)]
    · rw [e77, if_neg (by omega), g1 77 0 k (by omega), oc 77 (by decide) (by decide)]
    · rw [e78, if_neg (by omega), g1 78 0 k (by omega), oc 78 (by decide) (by decide)]
    · rw [e11, D11 49 (by decide)]; exact r49
    · rw [e11]; exact D50
    · rw [e11, D11 42 (by decide)]; exact r42
    · rw [e72]; exact D72
    · rw [e73]; exact d73
    · obtain ⟨u1, u2, u3⟩ := g4 s hs
      have c4 := Cn_4 f T (st f T s)
      refine ⟨?_, ?_, fun i hi => ?_⟩
      · rw [e74, if_pos (by omega), show 200 + (20 * B + s - 20 * B) = 200 + s by omega]; exact u1
      · rw [e75, if_pos (by omega), show 200 + (20 * B + s - 20 * B) = 200 + s by omega]; exact u2
      · rw [e76, e77, e78, if_pos (by omega), if_pos (by omega), if_pos (by omega), show 800 + (4 * (20 * B + s) + i - 80 * B) = 4 * (200 + s) + i by omega]
        exact u3 i hi
  · unfold wl_X11_bargain_59
    have q47 := g2.1
    refine sp_ill (k := (al f T 20 0).1) (by rw [qs_nk (by decide)]; exact q47) (by omega) ab.1 ?_
    have r48 : (qs a2 11 0 42 (nI 0)) 11 0 48 = nI (PP f T (al f T 20 0).2.1) := by rw [qs_nk (by decide)]; exact g2.2
    have r48' : (qs a2 11 0 42 0) 11 0 48 = nI (PP f T (al f T 20 0).2.1) := r48
    simp (disch := first | assumption | omega) only [wl_X11_bargain_80, r48, l0, l1, l2, l3, l4, l5, l6, l7, l8, l9, l10, l20, l60, l61, l62, bb_t, bb_f, l100, l120, l512, l400, l401, l700, l9999, nm1, lm1, nlt, nle, neq, glt, gle, lgt, lge, geq, egq, mI_l, mI_e, e_mI, l_mI, le_mI, mI_le, bI_z, nC, vnI, nI_add, nI_sb, nI_mul, a1m, qs_eq, qs_nc, qs_ni, qs_nk, bq_l, bq_r, bq_l', bq_r', bq_t, bq_f, bq_t', bq_f', bq_n, bq_m, iT, iS, iN, true_and, and_true, eq_self, not_true_eq_false, not_false_eq_true, forall_const, bx_t, bx_f, reduceCtorEq, Option.some.injEq, forall_eq', ite_true, ite_false]
    refine sp_ill (k := (al f T 20 0).1) (by rw [qs_nk (by decide), qs_nk (by decide)]; exact q47) (by omega) ab.1 ?_
    have r47 : (qs (qs a2 11 0 42 (nI 0)) 11 0 49 (nI (PP f T (al f T 20 0).2.1))) 11 0 47 = nI (al f T 20 0).1 := by rw [qs_nk (by decide), qs_nk (by decide)]; exact q47
    have fin := k0 x (qs (qs a2 11 0 42 (nI 0)) 11 0 49 (nI (PP f T (al f T 20 0).2.1))) ⟨fun c x1 x2 => ?_, fun k x1 x2 => ?_, fun k hk => ⟨?_, ?_⟩, fun k hk => ⟨?_, ?_⟩, fun k hk => ⟨?_, ?_, ?_⟩⟩ (by rw [qs_eq]) (by rw [qs_nk (by decide), qs_nk (by decide), g1 11 0 50 (by omega), o11 50 (by decide) (by decide) (by decide)]; exact h50) (by rw [qs_nk (by decide), qs_eq])
    · rw [bq_t' (rfl : nI 0 = nI 0), r47]
      exact fin
    · rw [← oc c x1 (by omega)]
      funext i k
      rw [qs_nc x1, qs_nc x1]
      exact g1 c i k (by omega)
    · rw [qs_nk (by omega), qs_nk (by omega), g1 11 0 k (by omega), o11 k x1 (by omega) (by omega)]
    · rw [qs_nc (by decide), qs_nc (by decide), g1 72 0 k (by omega), oc 72 (by decide) (by decide)]
    · rw [qs_nc (by decide), qs_nc (by decide), g1 73 0 k (by omega), o73' k (by omega)]
    · rw [qs_nc (by decide), qs_nc (by decide), g1 74 0 k (by omega), oc 74 (by decide) (by decide)]
    · rw [qs_nc (by decide), qs_nc (by decide), g1 75 0 k (by omega), oc 75 (by decide) (by decide)]
    · rw [qs_nc (by decide), qs_nc (by decide), g1 76 0 k (by omega), oc 76 (by decide) (by decide)]
    · rw [qs_nc (by decide), qs_nc (by decide), g1 77 0 k (by omega), oc 77 (by decide) (by decide)]
    · rw [qs_nc (by decide), qs_nc (by decide), g1 78 0 k (by omega), oc 78 (by decide) (by decide)]
