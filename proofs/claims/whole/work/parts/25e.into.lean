def adR (a : qa) (b r : Nat) (y x : Int32) : qa := qs (qs (qs a 12 b r y) 13 b r x) 0 b 5 (nI (r + 1))
theorem sp_addRule {t p b c r : Nat} {x : Int32} {a : qa} {post : qa → Prop} (h5 : a 0 b 5 = nI r) (hr : r < 20) (h6 : a 0 b 6 = nI c) (kk : post (adR a b r (nI c) x)) : wp_X0_addRule t p b x a post := by
  simp (disch := first | assumption | omega) only [wp_X0_addRule, h5, h6, l0, l1, l2, l3, l4, l5, l6, l7, l8, l9, l10, l20, l60, l61, l62, bb_t, bb_f, l100, l120, l512, l400, l401, l700, l9999, nm1, lm1, nlt, nle, neq, glt, gle, lgt, lge, geq, egq, mI_l, mI_e, e_mI, l_mI, le_mI, mI_le, bI_z, nC, vnI, nI_add, nI_sb, nI_mul, a1m, qs_eq, qs_nc, qs_ni, qs_nk, bq_l, bq_r, bq_l', bq_r', bq_t, bq_f, bq_t', bq_f', bq_n, bq_m, iT, iS, iN, true_and, and_true, eq_self, not_true_eq_false, not_false_eq_true, forall_const, bx_t, bx_f, reduceCtorEq, Option.some.injEq, forall_eq', ite_true, ite_false]
  exact kk
theorem adR_k {a : qa} {b r : Nat} {x y : Int32} : KB b a (adR a b r y x) := (((KB.rf a).q (Or.inr ⟨Or.inr ⟨by decide, by decide⟩, rfl⟩)).q (Or.inr ⟨Or.inr ⟨by decide, by decide⟩, rfl⟩)).q (Or.inr ⟨Or.inl rfl, rfl⟩)
theorem adR_s {f : Nat → Nat} {T N n : Nat} {a : qa} {b r : Nat} {x y : Int32} (h : CS f T N n a) : CS f T N n (adR a b r y x) := by
  unfold CS adR
  simp only [qs_nc (show (5 : Nat) ≠ 0 by decide), qs_nc (show (5 : Nat) ≠ 13 by decide), qs_nc (show (5 : Nat) ≠ 12 by decide)]
  exact h
def AR (b r c : Nat) (y : Int32) (a a' : qa) : Prop := a' 0 b 5 = nI (r + 1) ∧ a' 0 b 6 = nI c ∧ a' 12 b r = nI c ∧ a' 13 b r = y ∧ (∀ k, k ≠ r → a' 12 b k = a 12 b k ∧ a' 13 b k = a 13 b k) ∧ a' 14 b = a 14 b ∧ a' 15 b = a 15 b ∧ a' 16 b = a 16 b
theorem AR_i {b r c : Nat} {y : Int32} {a a1 : qa} (h : ∀ e, e ≠ 5 → a1 e b = a e b) (h6 : a 0 b 6 = nI c) : ∀ a2, (∀ e, e ≠ 5 → a2 e = adR a1 b r (nI c) y e) → AR b r c y a a2 := by
  intro a2 g
  unfold AR
  rw [g 0 (by decide), g 12 (by decide), g 13 (by decide), g 14 (by decide), g 15 (by decide), g 16 (by decide)]
  unfold adR
  refine ⟨by rw [qs_eq], ?_, ?_, ?_, fun k hk => ⟨?_, ?_⟩, ?_, ?_, ?_⟩
  · rw [qs_nk (by decide), qs_nc (by decide), qs_nc (by decide), h 0 (by decide)]; exact h6
  · rw [qs_nc (by decide), qs_nc (by decide), qs_eq]
  · rw [qs_nc (by decide), qs_eq]
  · rw [qs_nc (by decide), qs_nc (by decide), qs_nk hk, h 12 (by decide)]
  · rw [qs_nc (by decide), qs_nk hk, qs_nc (by decide), h 13 (by decide)]
  · funext k; rw [qs_nc (by decide), qs_nc (by decide), qs_nc (by decide), h 14 (by decide)]
  · funext k; rw [qs_nc (by decide), qs_nc (by decide), qs_nc (by decide), h 15 (by decide)]
  · funext k; rw [qs_nc (by decide), qs_nc (by decide), qs_nc (by decide), h 16 (by decide)]
theorem mv_e {f : Nat → Nat} {T n : Nat} {a : qa} : ∀ e, e ≠ 5 → mv f T a n e = a e := fun e h => by funext i k; exact mv_c h
set_option maxHeartbeats 4000000 in
theorem sp_am46 {t p T N z b c r : Nat} {y : Int32} {f : Nat → Nat} {a0 a : qa} {post : Int32 → qa → Prop} (h : EN f T N a) (hs : CS f T N z a) (hk : KB b a0 a) (h0 : ∀ e, e ≠ 5 → a e b = a0 e b) (h5 : a0 0 b 5 = nI r) (hr : r < 20) (h6 : a0 0 b 6 = nI c) (k1 : TT f T z = 2 → TT f T (z + 1) = 8 → ∀ a', KB b a0 a' → CS f T N (z + 2) a' → AR b r c y a0 a' → post (nI 1) a') (k2 : ¬ TT f T z = 2 → ∀ a', KB b a0 a' → post (nI 0) (fl f T a' 1 z)) (k3 : TT f T z = 2 → ¬ TT f T (z + 1) = 8 → ∀ a', KB b a0 a' → post (nI 0) (fl f T a' 1 (z + 1))) : wl_X5_readAmount_46 t p post b y a := by
  unfold wl_X5_readAmount_46
  refine sp_addRule (r := r) (c := c) (by rw [h0 0 (by decide)]; exact h5) hr (by rw [h0 0 (by decide)]; exact h6) ?_
  have hk1 : KB b a0 (adR a b r (nI c) y) := hk.tr adR_k
  have h1 : EN f T N (adR a b r (nI c) y) := h.kb (b := b) adR_k
  refine sp_take (w := 2) h1 (adR_s hs) (by decide) (by decide) (fun c2 hl => ?_) (fun c2 => ?_)
  rotate_left 1
  · have g := k2 c2 _ hk1
    simp (disch := first | assumption | omega) only [l0, l1, l2, l3, l4, l5, l6, l7, l8, l9, l10, l20, l60, l61, l62, bb_t, bb_f, l100, l120, l512, l400, l401, l700, l9999, nm1, lm1, nlt, nle, neq, glt, gle, lgt, lge, geq, egq, mI_l, mI_e, e_mI, l_mI, le_mI, mI_le, bI_z, nC, vnI, nI_add, nI_sb, nI_mul, a1m, qs_eq, qs_nc, qs_ni, qs_nk, bq_l, bq_r, bq_l', bq_r', bq_t, bq_f, bq_t', bq_f', bq_n, bq_m, iT, iS, iN, true_and, and_true, eq_self, not_true_eq_false, not_false_eq_true, forall_const, bx_t, bx_f, reduceCtorEq, Option.some.injEq, forall_eq', ite_true, ite_false]
    exact g
  simp (disch := first | assumption | omega) only [l0, l1, l2, l3, l4, l5, l6, l7, l8, l9, l10, l20, l60, l61, l62, bb_t, bb_f, l100, l120, l512, l400, l401, l700, l9999, nm1, lm1, nlt, nle, neq, glt, gle, lgt, lge, geq, egq, mI_l, mI_e, e_mI, l_mI, le_mI, mI_le, bI_z, nC, vnI, nI_add, nI_sb, nI_mul, a1m, qs_eq, qs_nc, qs_ni, qs_nk, bq_l, bq_r, bq_l', bq_r', bq_t, bq_f, bq_t', bq_f', bq_n, bq_m, iT, iS, iN, true_and, and_true, eq_self, not_true_eq_false, not_false_eq_true, forall_const, bx_t, bx_f, reduceCtorEq, Option.some.injEq, forall_eq', ite_true, ite_false]
  have s1 : CS f T N (z + 1) (mv f T (adR a b r (nI c) y) (z + 1)) := mv_s hl
  refine sp_take (w := 8) (h1.kb (b := b) (mv_k (KB.rf _))) s1 (by decide) (by decide) (fun c8 hl2 => ?_) (fun c8 => ?_)
  · have g := k1 c2 c8 _ (mv_k (f := f) (T := T) (n := z + 2) (mv_k (f := f) (T := T) (n := z + 1) hk1)) (mv_s hl2) (AR_i h0 h6 _ (fun e he => by rw [mv_e e he, mv_e e he]))
    simp (disch := first | assumption | omega) only [l0, l1, l2, l3, l4, l5, l6, l7, l8, l9, l10, l20, l60, l61, l62, bb_t, bb_f, l100, l120, l512, l400, l401, l700, l9999, nm1, lm1, nlt, nle, neq, glt, gle, lgt, lge, geq, egq, mI_l, mI_e, e_mI, l_mI, le_mI, mI_le, bI_z, nC, vnI, nI_add, nI_sb, nI_mul, a1m, qs_eq, qs_nc, qs_ni, qs_nk, bq_l, bq_r, bq_l', bq_r', bq_t, bq_f, bq_t', bq_f', bq_n, bq_m, iT, iS, iN, true_and, and_true, eq_self, not_true_eq_false, not_false_eq_true, forall_const, bx_t, bx_f, reduceCtorEq, Option.some.injEq, forall_eq', ite_true, ite_false]
    exact g
  · have g := k3 c2 c8 _ (mv_k (f := f) (T := T) (n := z + 1) hk1)
    simp (disch := first | assumption | omega) only [l0, l1, l2, l3, l4, l5, l6, l7, l8, l9, l10, l20, l60, l61, l62, bb_t, bb_f, l100, l120, l512, l400, l401, l700, l9999, nm1, lm1, nlt, nle, neq, glt, gle, lgt, lge, geq, egq, mI_l, mI_e, e_mI, l_mI, le_mI, mI_le, bI_z, nC, vnI, nI_add, nI_sb, nI_mul, a1m, qs_eq, qs_nc, qs_ni, qs_nk, bq_l, bq_r, bq_l', bq_r', bq_t, bq_f, bq_t', bq_f', bq_n, bq_m, iT, iS, iN, true_and, and_true, eq_self, not_true_eq_false, not_false_eq_true, forall_const, bx_t, bx_f, reduceCtorEq, Option.some.injEq, forall_eq', ite_true, ite_false]
    exact g
set_option maxHeartbeats 4000000 in
theorem sp_rule19 {t p T N q b c r : Nat} {f : Nat → Nat} {a : qa} {post : Int32 → qa → Prop} (h : EN f T N a) (hs : CS f T N q a) (h5 : a 0 b 5 = nI r) (hr : r < 20) (h6 : a 0 b 6 = nI c) (k1 : (rz f T q).1 = 0 → ∀ a', KB b a a' → CS f T N (rz f T q).2 a' → AR b r c (am f T (q + 1)) a a' → post (nI 1) a') (k0 : ¬ (rz f T q).1 = 0 → ∀ a', KB b a a' → post (nI 0) (fl f T a' (rz f T q).1 (rz f T q).2)) : wl_X5_readRule_19 t p post b a := by
  unfold wl_X5_readRule_19
  refine sp_take (w := 7) h hs (by decide) (by decide) (fun c7 hl => ?_) (fun c7 => ?_)
  rotate_left 1
  · have e : rz f T q = (1, q) := if_neg c7
    have g := k0 (by rw [e]; exact Nat.succ_ne_zero _) a (KB.rf a)
    rw [e] at g
    simp (disch := first | assumption | omega) only [l0, l1, l2, l3, l4, l5, l6, l7, l8, l9, l10, l20, l60, l61, l62, bb_t, bb_f, l100, l120, l512, l400, l401, l700, l9999, nm1, lm1, nlt, nle, neq, glt, gle, lgt, lge, geq, egq, mI_l, mI_e, e_mI, l_mI, le_mI, mI_le, bI_z, nC, vnI, nI_add, nI_sb, nI_mul, a1m, qs_eq, qs_nc, qs_ni, qs_nk, bq_l, bq_r, bq_l', bq_r', bq_t, bq_f, bq_t', bq_f', bq_n, bq_m, iT, iS, iN, true_and, and_true, eq_self, not_true_eq_false, not_false_eq_true, forall_const, bx_t, bx_f, reduceCtorEq, Option.some.injEq, forall_eq', ite_true, ite_false]
    exact g
  have t9 := TT9 f T (q + 1)
  have s1 : CS f T N (q + 1) (mv f T a (q + 1)) := mv_s hl
  have kb1 : KB b a (mv f T a (q + 1)) := mv_k (KB.rf a)
  have h1 := h.kb kb1
  have e2 : mv f T a (q + 1) 5 0 2 = nI (TT f T (q + 1)) := s1.2.2.1
  have e1 : mv f T a (q + 1) 5 0 1 = nI (q + 1) := s1.2.1
  have e3 : mv f T a (q + 1) 5 0 3 = VV f T (q + 1) := s1.2.2.2
  have ez : rz f T q = if TT f T (hz f T (q + 1)) = 2 then (if TT f T (hz f T (q + 1) + 1) = 8 then (0, hz f T (q + 1) + 2) else (1, hz f T (q + 1) + 1)) else (1, hz f T (q + 1)) := if_pos c7
  rw [ez] at k1 k0
  by_cases c9 : TT f T (q + 1) = 9
  · have ehz : hz f T (q + 1) = q + 2 := if_pos c9
    have eam : am f T (q + 1) = -(VV f T (q + 2)) := if_pos c9
    rw [ehz, eam] at k1
    rw [ehz] at k0
    have hl2 := h1.lt hl (by omega)
    have s2 : CS f T N (q + 2) (mv f T (mv f T a (q + 1)) (q + 2)) := mv_s hl2
    have kb2 : KB b a (mv f T (mv f T a (q + 1)) (q + 2)) := mv_k kb1
    have e32 : mv f T (mv f T a (q + 1)) (q + 2) 5 0 3 = VV f T (q + 2) := s2.2.2.2
    simp (disch := first | assumption | omega) only [wp_X5_readAmount, e2, wl_X5_readAmount_14, e1, l0, l1, l2, l3, l4, l5, l6, l7, l8, l9, l10, l20, l60, l61, l62, bb_t, bb_f, l100, l120, l512, l400, l401, l700, l9999, nm1, lm1, nlt, nle, neq, glt, gle, lgt, lge, geq, egq, mI_l, mI_e, e_mI, l_mI, le_mI, mI_le, bI_z, nC, vnI, nI_add, nI_sb, nI_mul, a1m, qs_eq, qs_nc, qs_ni, qs_nk, bq_l, bq_r, bq_l', bq_r', bq_t, bq_f, bq_t', bq_f', bq_n, bq_m, iT, iS, iN, true_and, and_true, eq_self, not_true_eq_false, not_false_eq_true, forall_const, bx_t, bx_f, reduceCtorEq, Option.some.injEq, forall_eq', ite_true, ite_false]
    refine sp_move (n := q + 2) h1 hl2 ?_
    simp (disch := first | assumption | omega) only [wl_X5_readAmount_29, e32, l0, l1, l2, l3, l4, l5, l6, l7, l8, l9, l10, l20, l60, l61, l62, bb_t, bb_f, l100, l120, l512, l400, l401, l700, l9999, nm1, lm1, nlt, nle, neq, glt, gle, lgt, lge, geq, egq, mI_l, mI_e, e_mI, l_mI, le_mI, mI_le, bI_z, nC, vnI, nI_add, nI_sb, nI_mul, a1m, qs_eq, qs_nc, qs_ni, qs_nk, bq_l, bq_r, bq_l', bq_r', bq_t, bq_f, bq_t', bq_f', bq_n, bq_m, iT, iS, iN, true_and, and_true, eq_self, not_true_eq_false, not_false_eq_true, forall_const, bx_t, bx_f, reduceCtorEq, Option.some.injEq, forall_eq', ite_true, ite_false]
    refine sp_am46 (a0 := a) (r := r) (c := c) (h.kb kb2) s2 kb2 (fun e he => by rw [mv_e e he, mv_e e he]) h5 hr h6 (fun x y a' g1 g2 g3 => ?_) (fun x a' g1 => ?_) (fun x y a' g1 => ?_)
    · rw [if_pos x, if_pos y] at k1
      have g := k1 rfl a' g1 g2 g3
      simp (disch := first | assumption | omega) only [l0, l1, l2, l3, l4, l5, l6, l7, l8, l9, l10, l20, l60, l61, l62, bb_t, bb_f, l100, l120, l512, l400, l401, l700, l9999, nm1, lm1, nlt, nle, neq, glt, gle, lgt, lge, geq, egq, mI_l, mI_e, e_mI, l_mI, le_mI, mI_le, bI_z, nC, vnI, nI_add, nI_sb, nI_mul, a1m, qs_eq, qs_nc, qs_ni, qs_nk, bq_l, bq_r, bq_l', bq_r', bq_t, bq_f, bq_t', bq_f', bq_n, bq_m, iT, iS, iN, true_and, and_true, eq_self, not_true_eq_false, not_false_eq_true, forall_const, bx_t, bx_f, reduceCtorEq, Option.some.injEq, forall_eq', ite_true, ite_false]
      exact g
    · rw [if_neg x] at k0
      have g := k0 (Nat.succ_ne_zero _) a' g1
      simp (disch := first | assumption | omega) only [l0, l1, l2, l3, l4, l5, l6, l7, l8, l9, l10, l20, l60, l61, l62, bb_t, bb_f, l100, l120, l512, l400, l401, l700, l9999, nm1, lm1, nlt, nle, neq, glt, gle, lgt, lge, geq, egq, mI_l, mI_e, e_mI, l_mI, le_mI, mI_le, bI_z, nC, vnI, nI_add, nI_sb, nI_mul, a1m, qs_eq, qs_nc, qs_ni, qs_nk, bq_l, bq_r, bq_l', bq_r', bq_t, bq_f, bq_t', bq_f', bq_n, bq_m, iT, iS, iN, true_and, and_true, eq_self, not_true_eq_false, not_false_eq_true, forall_const, bx_t, bx_f, reduceCtorEq, Option.some.injEq, forall_eq', ite_true, ite_false]
      exact g
    · rw [if_pos x, if_neg y] at k0
      have g := k0 (Nat.succ_ne_zero _) a' g1
      simp (disch := first | assumption | omega) only [l0, l1, l2, l3, l4, l5, l6, l7, l8, l9, l10, l20, l60, l61, l62, bb_t, bb_f, l100, l120, l512, l400, l401, l700, l9999, nm1, lm1, nlt, nle, neq, glt, gle, lgt, lge, geq, egq, mI_l, mI_e, e_mI, l_mI, le_mI, mI_le, bI_z, nC, vnI, nI_add, nI_sb, nI_mul, a1m, qs_eq, qs_nc, qs_ni, qs_nk, bq_l, bq_r, bq_l', bq_r', bq_t, bq_f, bq_t', bq_f', bq_n, bq_m, iT, iS, iN, true_and, and_true, eq_self, not_true_eq_false, not_false_eq_true, forall_const, bx_t, bx_f, reduceCtorEq, Option.some.injEq, forall_eq', ite_true, ite_false]
      exact g
  · have ehz : hz f T (q + 1) = q + 1 := if_neg c9
    have eam : am f T (q + 1) = VV f T (q + 1) := if_neg c9
    rw [ehz, eam] at k1
    rw [ehz] at k0
    simp (disch := first | assumption | omega) only [wp_X5_readAmount, e2, wl_X5_readAmount_14, wl_X5_readAmount_29, e3, l0, l1, l2, l3, l4, l5, l6, l7, l8, l9, l10, l20, l60, l61, l62, bb_t, bb_f, l100, l120, l512, l400, l401, l700, l9999, nm1, lm1, nlt, nle, neq, glt, gle, lgt, lge, geq, egq, mI_l, mI_e, e_mI, l_mI, le_mI, mI_le, bI_z, nC, vnI, nI_add, nI_sb, nI_mul, a1m, qs_eq, qs_nc, qs_ni, qs_nk, bq_l, bq_r, bq_l', bq_r', bq_t, bq_f, bq_t', bq_f', bq_n, bq_m, iT, iS, iN, true_and, and_true, eq_self, not_true_eq_false, not_false_eq_true, forall_const, bx_t, bx_f, reduceCtorEq, Option.some.injEq, forall_eq', ite_true, ite_false]
    refine sp_am46 (a0 := a) (r := r) (c := c) h1 s1 kb1 (fun e he => by rw [mv_e e he]) h5 hr h6 (fun x y a' g1 g2 g3 => ?_) (fun x a' g1 => ?_) (fun x y a' g1 => ?_)
    · rw [if_pos x, if_pos y] at k1
      have g := k1 rfl a' g1 g2 g3
      simp (disch := first | assumption | omega) only [l0, l1, l2, l3, l4, l5, l6, l7, l8, l9, l10, l20, l60, l61, l62, bb_t, bb_f, l100, l120, l512, l400, l401, l700, l9999, nm1, lm1, nlt, nle, neq, glt, gle, lgt, lge, geq, egq, mI_l, mI_e, e_mI, l_mI, le_mI, mI_le, bI_z, nC, vnI, nI_add, nI_sb, nI_mul, a1m, qs_eq, qs_nc, qs_ni, qs_nk, bq_l, bq_r, bq_l', bq_r', bq_t, bq_f, bq_t', bq_f', bq_n, bq_m, iT, iS, iN, true_and, and_true, eq_self, not_true_eq_false, not_false_eq_true, forall_const, bx_t, bx_f, reduceCtorEq, Option.some.injEq, forall_eq', ite_true, ite_false]
      exact g
    · rw [if_neg x] at k0
      have g := k0 (Nat.succ_ne_zero _) a' g1
      simp (disch := first | assumption | omega) only [l0, l1, l2, l3, l4, l5, l6, l7, l8, l9, l10, l20, l60, l61, l62, bb_t, bb_f, l100, l120, l512, l400, l401, l700, l9999, nm1, lm1, nlt, nle, neq, glt, gle, lgt, lge, geq, egq, mI_l, mI_e, e_mI, l_mI, le_mI, mI_le, bI_z, nC, vnI, nI_add, nI_sb, nI_mul, a1m, qs_eq, qs_nc, qs_ni, qs_nk, bq_l, bq_r, bq_l', bq_r', bq_t, bq_f, bq_t', bq_f', bq_n, bq_m, iT, iS, iN, true_and, and_true, eq_self, not_true_eq_false, not_false_eq_true, forall_const, bx_t, bx_f, reduceCtorEq, Option.some.injEq, forall_eq', ite_true, ite_false]
      exact g
    · rw [if_pos x, if_neg y] at k0
      have g := k0 (Nat.succ_ne_zero _) a' g1
      simp (disch := first | assumption | omega) only [l0, l1, l2, l3, l4, l5, l6, l7, l8, l9, l10, l20, l60, l61, l62, bb_t, bb_f, l100, l120, l512, l400, l401, l700, l9999, nm1, lm1, nlt, nle, neq, glt, gle, lgt, lge, geq, egq, mI_l, mI_e, e_mI, l_mI, le_mI, mI_le, bI_z, nC, vnI, nI_add, nI_sb, nI_mul, a1m, qs_eq, qs_nc, qs_ni, qs_nk, bq_l, bq_r, bq_l', bq_r', bq_t, bq_f, bq_t', bq_f', bq_n, bq_m, iT, iS, iN, true_and, and_true, eq_self, not_true_eq_false, not_false_eq_true, forall_const, bx_t, bx_f, reduceCtorEq, Option.some.injEq, forall_eq', ite_true, ite_false]
      exact g
def RU (f : Nat → Nat) (T b r c n : Nat) (a a' : qa) : Prop := a' 0 b 5 = nI (r + 1) ∧ a' 0 b 6 = nI (c + Cn f T n) ∧ a' 12 b r = nI (c + Cn f T n) ∧ a' 13 b r = Am f T n ∧ (∀ k, k ≠ r → a' 12 b k = a 12 b k ∧ a' 13 b k = a 13 b k) ∧ (∀ k, k < c → a' 14 b k = a 14 b k ∧ a' 15 b k = a 15 b k ∧ a' 16 b k = a 16 b k) ∧ ∀ i, i < Cn f T n → tmC f T (tj f T i n) (a' 14 b (c + i)) (a' 15 b (c + i)) (a' 16 b (c + i))
theorem RU_i {f : Nat → Nat} {T b r c n : Nat} {a a1 a2 : qa} (h1 : RT f T b c (Cn f T n) n a a1) (h2 : AR b r (c + Cn f T n) (Am f T n) a1 a2) : RU f T b r c n a a2 := by
  obtain ⟨p1, p2, p3, p4, p5, p6⟩ := h1
  obtain ⟨r1, r2, r3, r4, r5, r6, r7, r8⟩ := h2
  refine ⟨r1, r2, r3, r4, fun k hk => ?_, ?_, ?_⟩
  · rw [(r5 k hk).1, (r5 k hk).2, p3, p4]
    exact ⟨rfl, rfl⟩
  · rw [r6, r7, r8]
    exact p5
  · rw [r6, r7, r8]
    exact p6
set_option maxHeartbeats 4000000 in
theorem sp_readRule {t p T N n b c r : Nat} {f : Nat → Nat} {a : qa} {post : Int32 → qa → Prop} (h : EN f T N a) (hs : CS f T N n a) (h5 : a 0 b 5 = nI r) (hr : r < 20) (h6 : a 0 b 6 = nI c) (hc : c + 4 ≤ 80) (k1 : (rl f T n).1 = 0 → ∀ a', KB b a a' → CS f T N (rl f T n).2 a' → RU f T b r c n a a' → post (nI 1) a') (k0 : ¬ (rl f T n).1 = 0 → ∀ a', KB b a a' → post (nI 0) (fl f T a' (rl f T n).1 (rl f T n).2)) : wp_X5_readRule t p b a post := by
  have t9 := TT9 f T n
  have e2 := hs.2.2.1
  unfold wp_X5_readRule
  by_cases c7 : TT f T n = 7
  · have e : hd f T n = (0, n, 0) := if_pos c7
    have er : rl f T n = rz f T n := by unfold rl; rw [e]; rfl
    have ec : Cn f T n = 0 := by unfold Cn; rw [e]
    have ea : Am f T n = am f T (n + 1) := by unfold Am; rw [e]
    rw [er] at k1 k0
    have rt : RT f T b c (Cn f T n) n a a := by rw [ec]; exact RT_0 h6
    simp (disch := first | assumption | omega) only [e2, l0, l1, l2, l3, l4, l5, l6, l7, l8, l9, l10, l20, l60, l61, l62, bb_t, bb_f, l100, l120, l512, l400, l401, l700, l9999, nm1, lm1, nlt, nle, neq, glt, gle, lgt, lge, geq, egq, mI_l, mI_e, e_mI, l_mI, le_mI, mI_le, bI_z, nC, vnI, nI_add, nI_sb, nI_mul, a1m, qs_eq, qs_nc, qs_ni, qs_nk, bq_l, bq_r, bq_l', bq_r', bq_t, bq_f, bq_t', bq_f', bq_n, bq_m, iT, iS, iN, true_and, and_true, eq_self, not_true_eq_false, not_false_eq_true, forall_const, bx_t, bx_f, reduceCtorEq, Option.some.injEq, forall_eq', ite_true, ite_false]
    refine sp_rule19 h hs h5 hr h6 (fun x a' g1 g2 g3 => k1 x a' g1 g2 (RU_i rt ?_)) k0
    rw [ec, ea]
    exact g3
  · have e : hd f T n = ph f T 4 n := if_neg c7
    have ec : Cn f T n = (ph f T 4 n).2.2 := by unfold Cn; rw [e]
    have ea : Am f T n = am f T ((ph f T 4 n).2.1 + 1) := by unfold Am; rw [e]
    simp (disch := first | assumption | omega) only [e2, wp_X5_readTerms, l0, l1, l2, l3, l4, l5, l6, l7, l8, l9, l10, l20, l60, l61, l62, bb_t, bb_f, l100, l120, l512, l400, l401, l700, l9999, nm1, lm1, nlt, nle, neq, glt, gle, lgt, lge, geq, egq, mI_l, mI_e, e_mI, l_mI, le_mI, mI_le, bI_z, nC, vnI, nI_add, nI_sb, nI_mul, a1m, qs_eq, qs_nc, qs_ni, qs_nk, bq_l, bq_r, bq_l', bq_r', bq_t, bq_f, bq_t', bq_f', bq_n, bq_m, iT, iS, iN, true_and, and_true, eq_self, not_true_eq_false, not_false_eq_true, forall_const, bx_t, bx_f, reduceCtorEq, Option.some.injEq, forall_eq', ite_true, ite_false]
    refine ⟨5, sl_terms 4 n c a _ (by decide) hc h hs h6 (fun x a1 b1 b2 b3 => ?_) (fun x a1 b1 => ?_)⟩
    · have er : rl f T n = rz f T (ph f T 4 n).2.1 := by unfold rl; rw [e, if_pos x]
      rw [er] at k1 k0
      rw [← ec] at b3
      simp (disch := first | assumption | omega) only [l0, l1, l2, l3, l4, l5, l6, l7, l8, l9, l10, l20, l60, l61, l62, bb_t, bb_f, l100, l120, l512, l400, l401, l700, l9999, nm1, lm1, nlt, nle, neq, glt, gle, lgt, lge, geq, egq, mI_l, mI_e, e_mI, l_mI, le_mI, mI_le, bI_z, nC, vnI, nI_add, nI_sb, nI_mul, a1m, qs_eq, qs_nc, qs_ni, qs_nk, bq_l, bq_r, bq_l', bq_r', bq_t, bq_f, bq_t', bq_f', bq_n, bq_m, iT, iS, iN, true_and, and_true, eq_self, not_true_eq_false, not_false_eq_true, forall_const, bx_t, bx_f, reduceCtorEq, Option.some.injEq, forall_eq', ite_true, ite_false]
      refine sp_rule19 (h.kb b1) b2 (by rw [b3.2.1]; exact h5) hr b3.1 (fun y a' g1 g2 g3 => k1 y a' (b1.tr g1) g2 (RU_i b3 ?_)) (fun y a' g1 => k0 y a' (b1.tr g1))
      rw [ea]
      exact g3
    · have er : rl f T n = ((ph f T 4 n).1, (ph f T 4 n).2.1) := by unfold rl; rw [e, if_neg x]
      rw [er] at k0
      have g := k0 x a1 b1
      simp (disch := first | assumption | omega) only [l0, l1, l2, l3, l4, l5, l6, l7, l8, l9, l10, l20, l60, l61, l62, bb_t, bb_f, l100, l120, l512, l400, l401, l700, l9999, nm1, lm1, nlt, nle, neq, glt, gle, lgt, lge, geq, egq, mI_l, mI_e, e_mI, l_mI, le_mI, mI_le, bI_z, nC, vnI, nI_add, nI_sb, nI_mul, a1m, qs_eq, qs_nc, qs_ni, qs_nk, bq_l, bq_r, bq_l', bq_r', bq_t, bq_f, bq_t', bq_f', bq_n, bq_m, iT, iS, iN, true_and, and_true, eq_self, not_true_eq_false, not_false_eq_true, forall_const, bx_t, bx_f, reduceCtorEq, Option.some.injEq, forall_eq', ite_true, ite_false]
      exact g
theorem cu_m (f : Nat → Nat) (T : Nat) {r s : Nat} (h : r ≤ s) : cu f T r ≤ cu f T s := by
  induction s with
  | zero =>
    obtain rfl : r = 0 := by omega
    exact Nat.le_refl _
  | succ s ih =>
    by_cases c : r = s + 1
    · rw [c]; exact Nat.le_refl _
    · have := ih (by omega)
      show cu f T r ≤ cu f T s + Cn f T (st f T s)
      omega
def RW (f : Nat → Nat) (T b r : Nat) (a : qa) : Prop := a 0 b 5 = nI r ∧ a 0 b 6 = nI (cu f T r) ∧ ∀ s, s < r → a 13 b s = Am f T (st f T s) ∧ a 12 b s = nI (cu f T (s + 1)) ∧ ∀ i, i < Cn f T (st f T s) → tmC f T (tj f T i (st f T s)) (a 14 b (cu f T s + i)) (a 15 b (cu f T s + i)) (a 16 b (cu f T s + i))
theorem RW_s {f : Nat → Nat} {T b r : Nat} {a a' : qa} (h : RW f T b r a) (h2 : RU f T b r (cu f T r) (st f T r) a a') : RW f T b (r + 1) a' := by
  obtain ⟨p1, p2, p3⟩ := h
  obtain ⟨r1, r2, r3, r4, r5, r6, r7⟩ := h2
  refine ⟨r1, r2, fun s hs => ?_⟩
  by_cases c : s = r
  · subst c
    exact ⟨r4, r3, r7⟩
  · obtain ⟨x1, x2, x3⟩ := p3 s (by omega)
    rw [(r5 s c).1, (r5 s c).2]
    refine ⟨x1, x2, fun i hi => ?_⟩
    have hm : cu f T (s + 1) ≤ cu f T r := cu_m f T (by omega)
    have hm2 : cu f T (s + 1) = cu f T s + Cn f T (st f T s) := rfl
    obtain ⟨y1, y2, y3⟩ := r6 (cu f T s + i) (by omega)
    rw [y1, y2, y3]
    exact x3 i hi
theorem sl_stop {t p T b k n m : Nat} {x : Int32} {f : Nat → Nat} {a : qa} {post : Int32 → qa → Prop} (kk : post (nI k) (fl f T a k n)) : wl_X5_readInto_30 t p post (m + 1) b (nI 0) x (fl f T a k n) := by
  have e : fl f T a k n 5 0 4 = nI k := by unfold fl; rw [qs_nk (by decide), qs_eq]
  unfold wl_X5_readInto_30
  simp (disch := first | assumption | omega) only [e, l0, l1, l2, l3, l4, l5, l6, l7, l8, l9, l10, l20, l60, l61, l62, bb_t, bb_f, l100, l120, l512, l400, l401, l700, l9999, nm1, lm1, nlt, nle, neq, glt, gle, lgt, lge, geq, egq, mI_l, mI_e, e_mI, l_mI, le_mI, mI_le, bI_z, nC, vnI, nI_add, nI_sb, nI_mul, a1m, qs_eq, qs_nc, qs_ni, qs_nk, bq_l, bq_r, bq_l', bq_r', bq_t, bq_f, bq_t', bq_f', bq_n, bq_m, iT, iS, iN, true_and, and_true, eq_self, not_true_eq_false, not_false_eq_true, forall_const, bx_t, bx_f, reduceCtorEq, Option.some.injEq, forall_eq', ite_true, ite_false]
  exact kk
set_option maxHeartbeats 4000000 in
theorem sl_readInto {t p T N b : Nat} {f : Nat → Nat} {a0 : qa} {post : Int32 → qa → Prop} : ∀ (d r : Nat) (a : qa), r + d = 20 → EN f T N a → KB b a0 a → CS f T N (st f T r) a → RW f T b r a → ((al f T d r).1 = 0 → ∀ a', KB b a0 a' → RW f T b (al f T d r).2.2 a' → post (a' 5 0 4) a') → (¬ (al f T d r).1 = 0 → ∀ a', KB b a0 a' → post (nI (al f T d r).1) (fl f T a' (al f T d r).1 (al f T d r).2.1)) → wl_X5_readInto_30 t p post (d + 2) b (nI 1) (nI r) a := by
  intro d
  induction d with
  | zero =>
    intro r a hr h hk hs hw k1 k0
    obtain rfl : r = 20 := by omega
    have t9 := TT9 f T (st f T 20)
    have e2 := hs.2.2.1
    unfold wl_X5_readInto_30
    unfold al at k1 k0
    by_cases c0 : TT f T (st f T 20) = 0
    · rw [if_pos c0] at k1
      have g := k1 rfl a hk hw
      simp (disch := first | assumption | omega) only [e2, l0, l1, l2, l3, l4, l5, l6, l7, l8, l9, l10, l20, l60, l61, l62, bb_t, bb_f, l100, l120, l512, l400, l401, l700, l9999, nm1, lm1, nlt, nle, neq, glt, gle, lgt, lge, geq, egq, mI_l, mI_e, e_mI, l_mI, le_mI, mI_le, bI_z, nC, vnI, nI_add, nI_sb, nI_mul, a1m, qs_eq, qs_nc, qs_ni, qs_nk, bq_l, bq_r, bq_l', bq_r', bq_t, bq_f, bq_t', bq_f', bq_n, bq_m, iT, iS, iN, true_and, and_true, eq_self, not_true_eq_false, not_false_eq_true, forall_const, bx_t, bx_f, reduceCtorEq, Option.some.injEq, forall_eq', ite_true, ite_false]
      exact g
    rw [if_neg c0] at k1 k0
    by_cases c1 : hpB f T (st f T 20) = true
    · have c2 := of_decide_eq_true c1
      rw [if_pos c1] at k0
      have g := k0 (Nat.succ_ne_zero _) a hk
      have go : wl_X5_readInto_72 t p (wl_X5_readInto_30 t p post 1) post b (nI 20) a := by
        simp (disch := first | assumption | omega) only [wl_X5_readInto_72, l0, l1, l2, l3, l4, l5, l6, l7, l8, l9, l10, l20, l60, l61, l62, bb_t, bb_f, l100, l120, l512, l400, l401, l700, l9999, nm1, lm1, nlt, nle, neq, glt, gle, lgt, lge, geq, egq, mI_l, mI_e, e_mI, l_mI, le_mI, mI_le, bI_z, nC, vnI, nI_add, nI_sb, nI_mul, a1m, qs_eq, qs_nc, qs_ni, qs_nk, bq_l, bq_r, bq_l', bq_r', bq_t, bq_f, bq_t', bq_f', bq_n, bq_m, iT, iS, iN, true_and, and_true, eq_self, not_true_eq_false, not_false_eq_true, forall_const, bx_t, bx_f, reduceCtorEq, Option.some.injEq, forall_eq', ite_true, ite_false]
        exact sp_fail (k := 2) h hs (sl_stop g)
      by_cases c7 : TT f T (st f T 20) = 7
      · simp (disch := first | assumption | omega) only [e2, l0, l1, l2, l3, l4, l5, l6, l7, l8, l9, l10, l20, l60, l61, l62, bb_t, bb_f, l100, l120, l512, l400, l401, l700, l9999, nm1, lm1, nlt, nle, neq, glt, gle, lgt, lge, geq, egq, mI_l, mI_e, e_mI, l_mI, le_mI, mI_le, bI_z, nC, vnI, nI_add, nI_sb, nI_mul, a1m, qs_eq, qs_nc, qs_ni, qs_nk, bq_l, bq_r, bq_l', bq_r', bq_t, bq_f, bq_t', bq_f', bq_n, bq_m, iT, iS, iN, true_and, and_true, eq_self, not_true_eq_false, not_false_eq_true, forall_const, bx_t, bx_f, reduceCtorEq, Option.some.injEq, forall_eq', ite_true, ite_false]
        exact go
      · simp (disch := first | assumption | omega) only [e2, l0, l1, l2, l3, l4, l5, l6, l7, l8, l9, l10, l20, l60, l61, l62, bb_t, bb_f, l100, l120, l512, l400, l401, l700, l9999, nm1, lm1, nlt, nle, neq, glt, gle, lgt, lge, geq, egq, mI_l, mI_e, e_mI, l_mI, le_mI, mI_le, bI_z, nC, vnI, nI_add, nI_sb, nI_mul, a1m, qs_eq, qs_nc, qs_ni, qs_nk, bq_l, bq_r, bq_l', bq_r', bq_t, bq_f, bq_t', bq_f', bq_n, bq_m, iT, iS, iN, true_and, and_true, eq_self, not_true_eq_false, not_false_eq_true, forall_const, bx_t, bx_f, reduceCtorEq, Option.some.injEq, forall_eq', ite_true, ite_false]
        refine sp_ahead hs (fun x => ?_) (fun x => absurd c2 (by omega))
        simp (disch := first | assumption | omega) only [l0, l1, l2, l3, l4, l5, l6, l7, l8, l9, l10, l20, l60, l61, l62, bb_t, bb_f, l100, l120, l512, l400, l401, l700, l9999, nm1, lm1, nlt, nle, neq, glt, gle, lgt, lge, geq, egq, mI_l, mI_e, e_mI, l_mI, le_mI, mI_le, bI_z, nC, vnI, nI_add, nI_sb, nI_mul, a1m, qs_eq, qs_nc, qs_ni, qs_nk, bq_l, bq_r, bq_l', bq_r', bq_t, bq_f, bq_t', bq_f', bq_n, bq_m, iT, iS, iN, true_and, and_true, eq_self, not_true_eq_false, not_false_eq_true, forall_const, bx_t, bx_f, reduceCtorEq, Option.some.injEq, forall_eq', ite_true, ite_false]
        exact go
    · have c2 := of_decide_eq_false (by simpa using c1 : hpB f T (st f T 20) = false)
      rw [if_neg c1] at k0
      have g := k0 (Nat.succ_ne_zero _) a hk
      simp (disch := first | assumption | omega) only [e2, l0, l1, l2, l3, l4, l5, l6, l7, l8, l9, l10, l20, l60, l61, l62, bb_t, bb_f, l100, l120, l512, l400, l401, l700, l9999, nm1, lm1, nlt, nle, neq, glt, gle, lgt, lge, geq, egq, mI_l, mI_e, e_mI, l_mI, le_mI, mI_le, bI_z, nC, vnI, nI_add, nI_sb, nI_mul, a1m, qs_eq, qs_nc, qs_ni, qs_nk, bq_l, bq_r, bq_l', bq_r', bq_t, bq_f, bq_t', bq_f', bq_n, bq_m, iT, iS, iN, true_and, and_true, eq_self, not_true_eq_false, not_false_eq_true, forall_const, bx_t, bx_f, reduceCtorEq, Option.some.injEq, forall_eq', ite_true, ite_false]
      refine sp_ahead hs (fun x => absurd x (by omega)) (fun x => ?_)
      simp (disch := first | assumption | omega) only [l0, l1, l2, l3, l4, l5, l6, l7, l8, l9, l10, l20, l60, l61, l62, bb_t, bb_f, l100, l120, l512, l400, l401, l700, l9999, nm1, lm1, nlt, nle, neq, glt, gle, lgt, lge, geq, egq, mI_l, mI_e, e_mI, l_mI, le_mI, mI_le, bI_z, nC, vnI, nI_add, nI_sb, nI_mul, a1m, qs_eq, qs_nc, qs_ni, qs_nk, bq_l, bq_r, bq_l', bq_r', bq_t, bq_f, bq_t', bq_f', bq_n, bq_m, iT, iS, iN, true_and, and_true, eq_self, not_true_eq_false, not_false_eq_true, forall_const, bx_t, bx_f, reduceCtorEq, Option.some.injEq, forall_eq', ite_true, ite_false]
      exact sp_fail (k := 1) h hs (sl_stop g)
  | succ d ih =>
    intro r a hr h hk hs hw k1 k0
    have t9 := TT9 f T (st f T r)
    have e2 := hs.2.2.1
    unfold wl_X5_readInto_30
    unfold al at k1 k0
    by_cases c0 : TT f T (st f T r) = 0
    · rw [if_pos c0] at k1
      have g := k1 rfl a hk hw
      simp (disch := first | assumption | omega) only [e2, l0, l1, l2, l3, l4, l5, l6, l7, l8, l9, l10, l20, l60, l61, l62, bb_t, bb_f, l100, l120, l512, l400, l401, l700, l9999, nm1, lm1, nlt, nle, neq, glt, gle, lgt, lge, geq, egq, mI_l, mI_e, e_mI, l_mI, le_mI, mI_le, bI_z, nC, vnI, nI_add, nI_sb, nI_mul, a1m, qs_eq, qs_nc, qs_ni, qs_nk, bq_l, bq_r, bq_l', bq_r', bq_t, bq_f, bq_t', bq_f', bq_n, bq_m, iT, iS, iN, true_and, and_true, eq_self, not_true_eq_false, not_false_eq_true, forall_const, bx_t, bx_f, reduceCtorEq, Option.some.injEq, forall_eq', ite_true, ite_false]
      exact g
    rw [if_neg c0] at k1 k0
    by_cases c1 : hpB f T (st f T r) = true
    · have c2 := of_decide_eq_true c1
      rw [if_pos c1] at k1 k0
      have c4 := cu_4 f T r
      have go : wl_X5_readInto_72 t p (wl_X5_readInto_30 t p post (d + 2)) post b (nI r) a := by
        simp (disch := first | assumption | omega) only [wl_X5_readInto_72, l0, l1, l2, l3, l4, l5, l6, l7, l8, l9, l10, l20, l60, l61, l62, bb_t, bb_f, l100, l120, l512, l400, l401, l700, l9999, nm1, lm1, nlt, nle, neq, glt, gle, lgt, lge, geq, egq, mI_l, mI_e, e_mI, l_mI, le_mI, mI_le, bI_z, nC, vnI, nI_add, nI_sb, nI_mul, a1m, qs_eq, qs_nc, qs_ni, qs_nk, bq_l, bq_r, bq_l', bq_r', bq_t, bq_f, bq_t', bq_f', bq_n, bq_m, iT, iS, iN, true_and, and_true, eq_self, not_true_eq_false, not_false_eq_true, forall_const, bx_t, bx_f, reduceCtorEq, Option.some.injEq, forall_eq', ite_true, ite_false]
        refine sp_readRule h hs hw.1 (by omega) hw.2.1 (by omega) (fun x a' g1 g2 g3 => ?_) (fun x a' g1 => ?_)
        · rw [if_pos x] at k1 k0
          exact ih (r + 1) a' (by omega) (h.kb g1) (hk.tr g1) g2 (RW_s hw g3) k1 k0
        · rw [if_neg x] at k0
          exact sl_stop (k0 x a' (hk.tr g1))
      by_cases c7 : TT f T (st f T r) = 7
      · simp (disch := first | assumption | omega) only [e2, l0, l1, l2, l3, l4, l5, l6, l7, l8, l9, l10, l20, l60, l61, l62, bb_t, bb_f, l100, l120, l512, l400, l401, l700, l9999, nm1, lm1, nlt, nle, neq, glt, gle, lgt, lge, geq, egq, mI_l, mI_e, e_mI, l_mI, le_mI, mI_le, bI_z, nC, vnI, nI_add, nI_sb, nI_mul, a1m, qs_eq, qs_nc, qs_ni, qs_nk, bq_l, bq_r, bq_l', bq_r', bq_t, bq_f, bq_t', bq_f', bq_n, bq_m, iT, iS, iN, true_and, and_true, eq_self, not_true_eq_false, not_false_eq_true, forall_const, bx_t, bx_f, reduceCtorEq, Option.some.injEq, forall_eq', ite_true, ite_false]
        exact go
      · simp (disch := first | assumption | omega) only [e2, l0, l1, l2, l3, l4, l5, l6, l7, l8, l9, l10, l20, l60, l61, l62, bb_t, bb_f, l100, l120, l512, l400, l401, l700, l9999, nm1, lm1, nlt, nle, neq, glt, gle, lgt, lge, geq, egq, mI_l, mI_e, e_mI, l_mI, le_mI, mI_le, bI_z, nC, vnI, nI_add, nI_sb, nI_mul, a1m, qs_eq, qs_nc, qs_ni, qs_nk, bq_l, bq_r, bq_l', bq_r', bq_t, bq_f, bq_t', bq_f', bq_n, bq_m, iT, iS, iN, true_and, and_true, eq_self, not_true_eq_false, not_false_eq_true, forall_const, bx_t, bx_f, reduceCtorEq, Option.some.injEq, forall_eq', ite_true, ite_false]
        refine sp_ahead hs (fun x => ?_) (fun x => absurd c2 (by omega))
        simp (disch := first | assumption | omega) only [l0, l1, l2, l3, l4, l5, l6, l7, l8, l9, l10, l20, l60, l61, l62, bb_t, bb_f, l100, l120, l512, l400, l401, l700, l9999, nm1, lm1, nlt, nle, neq, glt, gle, lgt, lge, geq, egq, mI_l, mI_e, e_mI, l_mI, le_mI, mI_le, bI_z, nC, vnI, nI_add, nI_sb, nI_mul, a1m, qs_eq, qs_nc, qs_ni, qs_nk, bq_l, bq_r, bq_l', bq_r', bq_t, bq_f, bq_t', bq_f', bq_n, bq_m, iT, iS, iN, true_and, and_true, eq_self, not_true_eq_false, not_false_eq_true, forall_const, bx_t, bx_f, reduceCtorEq, Option.some.injEq, forall_eq', ite_true, ite_false]
        exact go
    · have c2 := of_decide_eq_false (by simpa using c1 : hpB f T (st f T r) = false)
      rw [if_neg c1] at k0
      have g := k0 (Nat.succ_ne_zero _) a hk
      simp (disch := first | assumption | omega) only [e2, l0, l1, l2, l3, l4, l5, l6, l7, l8, l9, l10, l20, l60, l61, l62, bb_t, bb_f, l100, l120, l512, l400, l401, l700, l9999, nm1, lm1, nlt, nle, neq, glt, gle, lgt, lge, geq, egq, mI_l, mI_e, e_mI, l_mI, le_mI, mI_le, bI_z, nC, vnI, nI_add, nI_sb, nI_mul, a1m, qs_eq, qs_nc, qs_ni, qs_nk, bq_l, bq_r, bq_l', bq_r', bq_t, bq_f, bq_t', bq_f', bq_n, bq_m, iT, iS, iN, true_and, and_true, eq_self, not_true_eq_false, not_false_eq_true, forall_const, bx_t, bx_f, reduceCtorEq, Option.some.injEq, forall_eq', ite_true, ite_false]
      refine sp_ahead hs (fun x => absurd x (by omega)) (fun x => ?_)
      simp (disch := first | assumption | omega) only [l0, l1, l2, l3, l4, l5, l6, l7, l8, l9, l10, l20, l60, l61, l62, bb_t, bb_f, l100, l120, l512, l400, l401, l700, l9999, nm1, lm1, nlt, nle, neq, glt, gle, lgt, lge, geq, egq, mI_l, mI_e, e_mI, l_mI, le_mI, mI_le, bI_z, nC, vnI, nI_add, nI_sb, nI_mul, a1m, qs_eq, qs_nc, qs_ni, qs_nk, bq_l, bq_r, bq_l', bq_r', bq_t, bq_f, bq_t', bq_f', bq_n, bq_m, iT, iS, iN, true_and, and_true, eq_self, not_true_eq_false, not_false_eq_true, forall_const, bx_t, bx_f, reduceCtorEq, Option.some.injEq, forall_eq', ite_true, ite_false]
      exact sp_fail (k := 1) h hs (sl_stop g)
def CF (b : Nat) (a a' : qa) : Prop := ∀ c i k, ¬ (c = 5 ∨ c = 8 ∨ (33 ≤ c ∧ c ≤ 35) ∨ ((c = 0 ∨ (12 ≤ c ∧ c ≤ 16)) ∧ i = b)) → a' c i k = a c i k
set_option maxHeartbeats 4000000 in
theorem sp_readInto {t p T b : Nat} {f : Nat → Nat} {a : qa} {post : Int32 → qa → Prop} (h : TP f T a) (k1 : (al f T 20 0).1 = 0 → ∀ a', CF b a a' → RW f T b (al f T 20 0).2.2 a' → a' 5 0 5 = mI → post (nI 0) a') (k0 : ¬ (al f T 20 0).1 = 0 → ∀ a', CF b a a' → a' 5 0 5 = nI (PP f T (al f T 20 0).2.1) → post (nI (al f T 20 0).1) a') : wp_X5_readInto t p b a post := by
  unfold wp_X5_readInto wp_X0_clear
  refine sp_cutTape (T := T) (f := f) ((((h.qc (by decide) (by decide)).qc (by decide) (by decide)).qc (by decide) (by decide)).qc (by decide) (by decide)) (fun N a1 n1 n2 n3 n4 n5 n6 n7 => ?_)
  have hE : EN f T N a1 := ⟨n1, n2, n3, n4, n6⟩
  refine sp_move (n := 0) hE (by omega) ?_
  have hE2 : EN f T N (mv f T a1 0) := hE.kb (b := b) (mv_k (KB.rf a1))
  have e5 : a1 0 b 5 = nI 0 := by
    rw [n5 0 (by decide) (by decide) (by decide) (by decide), qs_nk (by decide), qs_eq]; rfl
  have e6 : a1 0 b 6 = nI 0 := by
    rw [n5 0 (by decide) (by decide) (by decide) (by decide), qs_eq]; rfl
  have f4 : a1 5 0 4 = nI 0 := by
    rw [n5 5 (by decide) (by decide) (by decide) (by decide), qs_nc (by decide), qs_nc (by decide), qs_nk (by decide), qs_eq]; rfl
  have f5 : a1 5 0 5 = mI := by
    rw [n5 5 (by decide) (by decide) (by decide) (by decide), qs_nc (by decide), qs_nc (by decide), qs_eq]; rfl
  have hC : ∀ a', KB b (mv f T a1 0) a' → ∀ c i k, ¬ (c = 5 ∨ c = 8 ∨ (33 ≤ c ∧ c ≤ 35) ∨ ((c = 0 ∨ (12 ≤ c ∧ c ≤ 16)) ∧ i = b)) → a' c i k = a c i k := by
    intro a' g c i k hx
    rw [g c i k (by omega), mv_c (by omega), n5 c (by omega) (by omega) (by omega) (by omega)]
    unfold qs
    rw [if_neg (by omega), if_neg (by omega), if_neg (by omega), if_neg (by omega)]
  refine ⟨22, sl_readInto (N := N) 20 0 _ (by decide) hE2 (KB.rf _) (mv_s (n := 0) (by omega)) ⟨by rw [mv_c (by decide)]; exact e5, by rw [mv_c (by decide)]; exact e6, fun s hs => by omega⟩ (fun x a' g1 g2 => ?_) (fun x a' g1 => ?_)⟩
  · have q4 : a' 5 0 4 = nI 0 := by
      rw [g1 5 0 4 (by omega)]
      unfold mv
      rw [qs_nk (by decide), qs_nk (by decide), qs_nk (by decide)]
      exact f4
    have q5 : a' 5 0 5 = mI := by
      rw [g1 5 0 5 (by omega)]
      unfold mv
      rw [qs_nk (by decide), qs_nk (by decide), qs_nk (by decide)]
      exact f5
    rw [q4]
    exact k1 x a' (hC a' g1) g2 q5
  · refine k0 x _ (fun c i k hx => ?_) (by unfold fl; rw [qs_eq])
    unfold fl
    rw [qs_nc (by omega), qs_nc (by omega)]
    exact hC a' g1 c i k hx
