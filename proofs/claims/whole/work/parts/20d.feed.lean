def byC (x : Int32) (v : Nat) : Int32 := match v with
  | 0 => (x.toUInt32 >>> ((24 : Int32).toUInt32 &&& Int32.toUInt32 31)).toInt32
  | 1 => (x.toUInt32 >>> ((16 : Int32).toUInt32 &&& Int32.toUInt32 31)).toInt32 &&& 255
  | 2 => (x.toUInt32 >>> ((8 : Int32).toUInt32 &&& Int32.toUInt32 31)).toInt32 &&& 255
  | _ => x &&& 255
theorem nar_b (x : Int8) : vp_nar .byte x.toInt32 = x.toInt32 := by
  show (match narrow .byte (Value.int x.toInt32) with | Value.int y => y | _ => 0) = x.toInt32
  simp [narrow]
theorem nI_bv {x : Int32} (h : x.toBitVec.toNat < 256) : ∃ b, b < 256 ∧ x = nI b := by
  refine ⟨x.toBitVec.toNat, h, ?_⟩
  apply Int32.toBitVec_inj.mp
  apply BitVec.eq_of_toNat_eq
  simp [nI]
theorem se8 {x y : BitVec 32} (h : ∀ i, i < 8 → x.getLsbD i = y.getLsbD i) : x.signExtend 8 = y.signExtend 8 := by
  apply BitVec.eq_of_getLsbD_eq
  intro i hi
  rw [BitVec.getLsbD_signExtend, BitVec.getLsbD_signExtend, if_pos (by omega), if_pos (by omega), h i hi]
theorem by0 (x : Int32) : (byC x 0).toInt8 = (x >>> (nI 24 &&& 31)).toInt8 := by
  apply Int8.toBitVec_inj.mp
  have e1 : (byC x 0).toInt8.toBitVec = (x.toBitVec >>> 24).signExtend 8 := rfl
  have e2 : (x >>> (nI 24 &&& 31)).toInt8.toBitVec = (x.toBitVec.sshiftRight 24).signExtend 8 := rfl
  rw [e1, e2]
  apply se8
  intro i hi
  rw [BitVec.getLsbD_ushiftRight, BitVec.getLsbD_sshiftRight, if_pos (by omega)]
  simp
  omega
theorem by1 (x : Int32) : (byC x 1).toInt8 = (x >>> (nI 16 &&& 31)).toInt8 := by
  apply Int8.toBitVec_inj.mp
  have e1 : (byC x 1).toInt8.toBitVec = ((x.toBitVec >>> 16) &&& 255#32).signExtend 8 := rfl
  have e2 : (x >>> (nI 16 &&& 31)).toInt8.toBitVec = (x.toBitVec.sshiftRight 16).signExtend 8 := rfl
  rw [e1, e2]
  apply se8
  intro i hi
  have hb : (255#32).getLsbD i = true := by
    obtain rfl | rfl | rfl | rfl | rfl | rfl | rfl | rfl : i = 0 ∨ i = 1 ∨ i = 2 ∨ i = 3 ∨ i = 4 ∨ i = 5 ∨ i = 6 ∨ i = 7 := by omega
    all_goals rfl
  rw [BitVec.getLsbD_and, hb, BitVec.getLsbD_ushiftRight, BitVec.getLsbD_sshiftRight, if_pos (by omega)]
  simp
  omega
theorem by2 (x : Int32) : (byC x 2).toInt8 = (x >>> (nI 8 &&& 31)).toInt8 := by
  apply Int8.toBitVec_inj.mp
  have e1 : (byC x 2).toInt8.toBitVec = ((x.toBitVec >>> 8) &&& 255#32).signExtend 8 := rfl
  have e2 : (x >>> (nI 8 &&& 31)).toInt8.toBitVec = (x.toBitVec.sshiftRight 8).signExtend 8 := rfl
  rw [e1, e2]
  apply se8
  intro i hi
  have hb : (255#32).getLsbD i = true := by
    obtain rfl | rfl | rfl | rfl | rfl | rfl | rfl | rfl : i = 0 ∨ i = 1 ∨ i = 2 ∨ i = 3 ∨ i = 4 ∨ i = 5 ∨ i = 6 ∨ i = 7 := by omega
    all_goals rfl
  rw [BitVec.getLsbD_and, hb, BitVec.getLsbD_ushiftRight, BitVec.getLsbD_sshiftRight, if_pos (by omega)]
  simp
  omega
theorem by3 (x : Int32) : (byC x 3).toInt8 = (x >>> (nI 0 &&& 31)).toInt8 := by
  apply Int8.toBitVec_inj.mp
  have e1 : (byC x 3).toInt8.toBitVec = (x.toBitVec &&& 255#32).signExtend 8 := rfl
  have e2 : (x >>> (nI 0 &&& 31)).toInt8.toBitVec = (x.toBitVec.sshiftRight 0).signExtend 8 := rfl
  rw [e1, e2]
  apply se8
  intro i hi
  have hb : (255#32).getLsbD i = true := by
    obtain rfl | rfl | rfl | rfl | rfl | rfl | rfl | rfl : i = 0 ∨ i = 1 ∨ i = 2 ∨ i = 3 ∨ i = 4 ∨ i = 5 ∨ i = 6 ∨ i = 7 := by omega
    all_goals rfl
  rw [BitVec.getLsbD_and, hb, BitVec.getLsbD_sshiftRight, if_pos (by omega)]
  simp
  omega
theorem byR (x : Int32) (v : Nat) (hv : v < 4) : vp_nar .byte ((x >>> (nI (24 - 8 * v) &&& 31)).toInt8.toInt32) = (byC x v).toInt8.toInt32 := by
  rw [nar_b]
  obtain rfl | rfl | rfl | rfl : v = 0 ∨ v = 1 ∨ v = 2 ∨ v = 3 := by omega
  · rw [by0]
  · rw [by1]
  · rw [by2]
  · rw [by3]
theorem byB (x : Int32) (v : Nat) (hv : v < 4) : ∃ b, b < 256 ∧ byC x v = nI b := by
  refine nI_bv ?_
  obtain rfl | rfl | rfl | rfl : v = 0 ∨ v = 1 ∨ v = 2 ∨ v = 3 := by omega
  · have e1 : (byC x 0).toBitVec = (x.toBitVec >>> 24) := rfl
    rw [e1, BitVec.toNat_ushiftRight, Nat.shiftRight_eq_div_pow]
    have := x.toBitVec.isLt
    omega
  · have e1 : (byC x 1).toBitVec = ((x.toBitVec >>> 16) &&& 255#32) := rfl
    rw [e1, BitVec.toNat_and]
    exact Nat.lt_of_le_of_lt Nat.and_le_right (by decide)
  · have e1 : (byC x 2).toBitVec = ((x.toBitVec >>> 8) &&& 255#32) := rfl
    rw [e1, BitVec.toNat_and]
    exact Nat.lt_of_le_of_lt Nat.and_le_right (by decide)
  · have e1 : (byC x 3).toBitVec = (x.toBitVec &&& 255#32) := rfl
    rw [e1, BitVec.toNat_and]
    exact Nat.lt_of_le_of_lt Nat.and_le_right (by decide)
theorem sp_addByte {t p T : Nat} {x : Int32} {a : qa} {post : qa → Prop} (hT : T < 400) (h : a 7 0 1 = nI T) (kk : post (qs (qs a 32 0 T x) 7 0 1 (nI (T + 1)))) : wp_X7_addByte t p x a post := by
  simp (disch := first | assumption | omega) only [wp_X7_addByte, h, l0, l1, l2, l3, l4, l5, l6, l7, l8, l9, l10, l20, l60, l61, l62, bb_t, bb_f, l100, l120, l512, l400, l401, l700, l9999, nm1, lm1, nlt, nle, neq, glt, gle, lgt, lge, geq, egq, mI_l, mI_e, e_mI, l_mI, le_mI, mI_le, bI_z, nC, vnI, nI_add, nI_sb, nI_mul, a1m, qs_eq, qs_nc, qs_ni, qs_nk, bq_l, bq_r, bq_l', bq_r', bq_t, bq_f, bq_t', bq_f', bq_n, bq_m, iT, iS, iN, true_and, and_true, eq_self, not_true_eq_false, not_false_eq_true, forall_const, bx_t, bx_f, reduceCtorEq, Option.some.injEq, forall_eq', ite_true, ite_false]
  exact kk
def fdR (a a' : qa) (T n : Nat) (f : Nat → Int32) : Prop := a' 7 0 1 = nI (T + n) ∧ (∀ c, c ≠ 7 → c ≠ 32 → a' c = a c) ∧ ∀ k, a' 32 0 k = if T ≤ k ∧ k < T + n then f (k - T) else a 32 0 k
theorem fdR_0 {a : qa} {T : Nat} {f : Nat → Int32} (h : a 7 0 1 = nI T) : fdR a a T 0 f := ⟨h, fun _ _ _ => rfl, fun k => (if_neg (by omega)).symm⟩
theorem fdR_s {a a' : qa} {T n : Nat} {f : Nat → Int32} (h : fdR a a' T n f) : fdR a (qs (qs a' 32 0 (T + n) (f n)) 7 0 1 (nI (T + n + 1))) T (n + 1) f := by
  refine ⟨by rw [qs_eq]; rfl, fun c c7 c32 => ?_, fun k => ?_⟩
  · rw [← h.2.1 c c7 c32]
    funext i k
    rw [qs_nc c7, qs_nc c32]
  · rw [qs_nc (by decide)]
    by_cases e : k = T + n
    · subst e
      rw [qs_eq, if_pos (by omega), Nat.add_sub_cancel_left]
    · rw [qs_nk e, h.2.2 k]
      by_cases e2 : T ≤ k ∧ k < T + n
      · rw [if_pos e2, if_pos (by omega)]
      · rw [if_neg e2, if_neg (by omega)]
theorem sp_addN {t p T n : Nat} {x : Int32} {a a' : qa} {f : Nat → Int32} {post : qa → Prop} (hT : T + n + 4 ≤ 400) (h : fdR a a' T n f) (f0 : ∀ v, v < 4 → f (n + v) = byC x v) (kk : ∀ a2, fdR a a2 T (n + 4) f → post a2) : wp_X7_addNumber t p x a' post := by
  unfold wp_X7_addNumber
  have e0 := f0 0 (by omega)
  have e1 := f0 1 (by omega)
  have e2 := f0 2 (by omega)
  have e3 := f0 3 (by omega)
  simp only [byC, Nat.add_zero] at e0 e1 e2 e3
  refine sp_addByte (T := T + n) (by omega) h.1 ?_
  rw [← e0]
  have h1 := fdR_s h
  refine sp_addByte (T := T + (n + 1)) (by omega) h1.1 ?_
  rw [← e1]
  have h2 := fdR_s h1
  refine sp_addByte (T := T + (n + 1 + 1)) (by omega) h2.1 ?_
  rw [← e2]
  have h3 := fdR_s h2
  refine sp_addByte (T := T + (n + 1 + 1 + 1)) (by omega) h3.1 ?_
  rw [← e3]
  exact kk _ (fdR_s h3)
def fv (x1 x2 x3 x4 x5 : Int32) (n : Nat) : Int32 := if n < 4 then x1 else if n < 8 then x2 else if n < 12 then x3 else if n < 16 then x4 else x5
def fC (x1 x2 x3 x4 x5 : Int32) (n : Nat) : Int32 := byC (fv x1 x2 x3 x4 x5 n) (n % 4)
def frR (a a' : qa) (T n : Nat) (f : Nat → Int32) : Prop := a' 11 0 42 = nI (T + n) ∧ (∀ k, k ≠ 42 → a' 11 0 k = a 11 0 k) ∧ (∀ c, c ≠ 11 → c ≠ 71 → a' c = a c) ∧ ∀ k, a' 71 0 k = if T ≤ k ∧ k < T + n then (f (k - T)).toInt8.toInt32 else a 71 0 k
theorem frR_0 {a : qa} {T : Nat} {f : Nat → Int32} (h : a 11 0 42 = nI T) : frR a a T 0 f := ⟨h, fun _ _ => rfl, fun _ _ _ => rfl, fun k => (if_neg (by omega)).symm⟩
theorem frR_s {a a' : qa} {T n : Nat} {f : Nat → Int32} {y : Int32} (h : frR a a' T n f) (hy : y = (f n).toInt8.toInt32) : frR a (qs (qs a' 71 0 (T + n) y) 11 0 42 (nI (T + n + 1))) T (n + 1) f := by
  refine ⟨by rw [qs_eq]; rfl, fun k hk => ?_, fun c c7 c32 => ?_, fun k => ?_⟩
  · rw [qs_nk hk, qs_nc (by decide), h.2.1 k hk]
  · rw [← h.2.2.1 c c7 c32]
    funext i k
    rw [qs_nc c7, qs_nc c32]
  · rw [qs_nc (by decide)]
    by_cases e : k = T + n
    · subst e
      rw [qs_eq, if_pos (by omega), Nat.add_sub_cancel_left, hy]
    · rw [qs_nk e, h.2.2.2 k]
      by_cases e2 : T ≤ k ∧ k < T + n
      · rw [if_pos e2, if_pos (by omega)]
      · rw [if_neg e2, if_neg (by omega)]
theorem l12 : (12 : Int32) = nI 12 := rfl
theorem l16 : (16 : Int32) = nI 16 := rfl
theorem l24 : (24 : Int32) = nI 24 := rfl
set_option maxHeartbeats 4000000 in
theorem sl_X11_feed {t p T : Nat} {x1 x2 x3 x4 x5 : Int32} {a0 : qa} {post : Int32 → qa → Prop} (hT : T + 20 ≤ 400) (kk : ∀ a', frR a0 a' T 20 (fC x1 x2 x3 x4 x5) → post (nI (T + 20)) a') : ∀ (m n : Nat) (a : qa), n + m = 20 → frR a0 a T n (fC x1 x2 x3 x4 x5) → wl_X11_feed_23 t p post (m + 1) x1 x2 x3 x4 x5 (nI n) a := by
  intro m
  induction m with
  | zero =>
    intro n a hn hR
    obtain rfl : n = 20 := by omega
    simp (disch := first | assumption | omega) only [wl_X11_feed_23, hR.1, l0, l1, l2, l3, l4, l5, l6, l7, l8, l9, l10, l20, l60, l61, l62, bb_t, bb_f, l100, l120, l512, l400, l401, l700, l9999, nm1, lm1, nlt, nle, neq, glt, gle, lgt, lge, geq, egq, mI_l, mI_e, e_mI, l_mI, le_mI, mI_le, bI_z, nC, vnI, nI_add, nI_sb, nI_mul, a1m, qs_eq, qs_nc, qs_ni, qs_nk, bq_l, bq_r, bq_l', bq_r', bq_t, bq_f, bq_t', bq_f', bq_n, bq_m, iT, iS, iN, true_and, and_true, eq_self, not_true_eq_false, not_false_eq_true, forall_const, bx_t, bx_f, reduceCtorEq, Option.some.injEq, forall_eq', ite_true, ite_false]
    exact kk a hR
  | succ m ih =>
    intro n a hn hR
    have em : n - n / 4 * 4 = n % 4 := by omega
    have go : ∀ y, fv x1 x2 x3 x4 x5 n = y → wl_X11_feed_76 t p (wl_X11_feed_23 t p post (m + 1)) post x1 x2 x3 x4 x5 (nI n) y a := by
      intro y hy
      simp (disch := first | assumption | omega) only [wl_X11_feed_76, hR.1, l12, l16, l24, nI_div, em, l0, l1, l2, l3, l4, l5, l6, l7, l8, l9, l10, l20, l60, l61, l62, bb_t, bb_f, l100, l120, l512, l400, l401, l700, l9999, nm1, lm1, nlt, nle, neq, glt, gle, lgt, lge, geq, egq, mI_l, mI_e, e_mI, l_mI, le_mI, mI_le, bI_z, nC, vnI, nI_add, nI_sb, nI_mul, a1m, qs_eq, qs_nc, qs_ni, qs_nk, bq_l, bq_r, bq_l', bq_r', bq_t, bq_f, bq_t', bq_f', bq_n, bq_m, iT, iS, iN, true_and, and_true, eq_self, not_true_eq_false, not_false_eq_true, forall_const, bx_t, bx_f, reduceCtorEq, Option.some.injEq, forall_eq', ite_true, ite_false]
      refine ih (n + 1) _ (by omega) (frR_s hR ?_)
      rw [byR y (n % 4) (by omega), ← hy]
      rfl
    unfold wl_X11_feed_23
    unfold fv at go
    by_cases c1 : n < 4
    · simp (disch := first | assumption | omega) only [l12, l16, l0, l1, l2, l3, l4, l5, l6, l7, l8, l9, l10, l20, l60, l61, l62, bb_t, bb_f, l100, l120, l512, l400, l401, l700, l9999, nm1, lm1, nlt, nle, neq, glt, gle, lgt, lge, geq, egq, mI_l, mI_e, e_mI, l_mI, le_mI, mI_le, bI_z, nC, vnI, nI_add, nI_sb, nI_mul, a1m, qs_eq, qs_nc, qs_ni, qs_nk, bq_l, bq_r, bq_l', bq_r', bq_t, bq_f, bq_t', bq_f', bq_n, bq_m, iT, iS, iN, true_and, and_true, eq_self, not_true_eq_false, not_false_eq_true, forall_const, bx_t, bx_f, reduceCtorEq, Option.some.injEq, forall_eq', ite_true, ite_false]
      exact go _ (if_pos c1)
    rw [if_neg c1] at go
    by_cases c2 : n < 8
    · simp (disch := first | assumption | omega) only [l12, l16, l0, l1, l2, l3, l4, l5, l6, l7, l8, l9, l10, l20, l60, l61, l62, bb_t, bb_f, l100, l120, l512, l400, l401, l700, l9999, nm1, lm1, nlt, nle, neq, glt, gle, lgt, lge, geq, egq, mI_l, mI_e, e_mI, l_mI, le_mI, mI_le, bI_z, nC, vnI, nI_add, nI_sb, nI_mul, a1m, qs_eq, qs_nc, qs_ni, qs_nk, bq_l, bq_r, bq_l', bq_r', bq_t, bq_f, bq_t', bq_f', bq_n, bq_m, iT, iS, iN, true_and, and_true, eq_self, not_true_eq_false, not_false_eq_true, forall_const, bx_t, bx_f, reduceCtorEq, Option.some.injEq, forall_eq', ite_true, ite_false]
      exact go _ (if_pos c2)
    rw [if_neg c2] at go
    by_cases c3 : n < 12
    · simp (disch := first | assumption | omega) only [l12, l16, l0, l1, l2, l3, l4, l5, l6, l7, l8, l9, l10, l20, l60, l61, l62, bb_t, bb_f, l100, l120, l512, l400, l401, l700, l9999, nm1, lm1, nlt, nle, neq, glt, gle, lgt, lge, geq, egq, mI_l, mI_e, e_mI, l_mI, le_mI, mI_le, bI_z, nC, vnI, nI_add, nI_sb, nI_mul, a1m, qs_eq, qs_nc, qs_ni, qs_nk, bq_l, bq_r, bq_l', bq_r', bq_t, bq_f, bq_t', bq_f', bq_n, bq_m, iT, iS, iN, true_and, and_true, eq_self, not_true_eq_false, not_false_eq_true, forall_const, bx_t, bx_f, reduceCtorEq, Option.some.injEq, forall_eq', ite_true, ite_false]
      exact go _ (if_pos c3)
    rw [if_neg c3] at go
    by_cases c4 : n < 16
    · simp (disch := first | assumption | omega) only [l12, l16, l0, l1, l2, l3, l4, l5, l6, l7, l8, l9, l10, l20, l60, l61, l62, bb_t, bb_f, l100, l120, l512, l400, l401, l700, l9999, nm1, lm1, nlt, nle, neq, glt, gle, lgt, lge, geq, egq, mI_l, mI_e, e_mI, l_mI, le_mI, mI_le, bI_z, nC, vnI, nI_add, nI_sb, nI_mul, a1m, qs_eq, qs_nc, qs_ni, qs_nk, bq_l, bq_r, bq_l', bq_r', bq_t, bq_f, bq_t', bq_f', bq_n, bq_m, iT, iS, iN, true_and, and_true, eq_self, not_true_eq_false, not_false_eq_true, forall_const, bx_t, bx_f, reduceCtorEq, Option.some.injEq, forall_eq', ite_true, ite_false]
      exact go _ (if_pos c4)
    rw [if_neg c4] at go
    simp (disch := first | assumption | omega) only [l12, l16, l0, l1, l2, l3, l4, l5, l6, l7, l8, l9, l10, l20, l60, l61, l62, bb_t, bb_f, l100, l120, l512, l400, l401, l700, l9999, nm1, lm1, nlt, nle, neq, glt, gle, lgt, lge, geq, egq, mI_l, mI_e, e_mI, l_mI, le_mI, mI_le, bI_z, nC, vnI, nI_add, nI_sb, nI_mul, a1m, qs_eq, qs_nc, qs_ni, qs_nk, bq_l, bq_r, bq_l', bq_r', bq_t, bq_f, bq_t', bq_f', bq_n, bq_m, iT, iS, iN, true_and, and_true, eq_self, not_true_eq_false, not_false_eq_true, forall_const, bx_t, bx_f, reduceCtorEq, Option.some.injEq, forall_eq', ite_true, ite_false]
    exact go _ rfl
theorem fCv {x1 x2 x3 x4 x5 : Int32} {n v : Nat} (hv : v < 4) (hn : n % 4 = 0) : fC x1 x2 x3 x4 x5 (n + v) = byC (fv x1 x2 x3 x4 x5 (n + v)) v := by
  unfold fC
  have : (n + v) % 4 = v := by omega
  rw [this]
set_option maxHeartbeats 4000000 in
theorem pr_feed : ob_feed Inv := by
  intro t p k a x1 x2 x3 x4 x5 hk ht hp hI
  obtain ⟨I, S, Hh, B, T, M, hA, hB, hC, hD, hE, hF, hG, hH, ⟨t1, t2, t3, t4⟩, hJ⟩ := id hI
  have no : Inv t p (k + 1) (qs a 11 0 0 0) := hI.th 0
  unfold wp_X10_feed
  by_cases c : T + 20 ≤ 400
  · simp (disch := first | assumption | omega) only [t2, l0, l1, l2, l3, l4, l5, l6, l7, l8, l9, l10, l20, l60, l61, l62, bb_t, bb_f, l100, l120, l512, l400, l401, l700, l9999, nm1, lm1, nlt, nle, neq, glt, gle, lgt, lge, geq, egq, mI_l, mI_e, e_mI, l_mI, le_mI, mI_le, bI_z, nC, vnI, nI_add, nI_sb, nI_mul, a1m, qs_eq, qs_nc, qs_ni, qs_nk, bq_l, bq_r, bq_l', bq_r', bq_t, bq_f, bq_t', bq_f', bq_n, bq_m, iT, iS, iN, true_and, and_true, eq_self, not_true_eq_false, not_false_eq_true, forall_const, bx_t, bx_f, reduceCtorEq, Option.some.injEq, forall_eq', ite_true, ite_false]
    refine sp_addN (n := 0) (T := T) (f := fC x1 x2 x3 x4 x5) (by omega) (fdR_0 t2) (fun v hv => (fCv hv rfl).trans ?_) (fun a1 h1 => ?_)
    · unfold fv
      rw [if_pos (by omega)]
    refine sp_addN (n := 4) (by omega) h1 (fun v hv => (fCv hv rfl).trans ?_) (fun a1 h1 => ?_)
    · unfold fv
      rw [if_neg (by omega), if_pos (by omega)]
    refine sp_addN (n := 8) (by omega) h1 (fun v hv => (fCv hv rfl).trans ?_) (fun a1 h1 => ?_)
    · unfold fv
      rw [if_neg (by omega), if_neg (by omega), if_pos (by omega)]
    refine sp_addN (n := 12) (by omega) h1 (fun v hv => (fCv hv rfl).trans ?_) (fun a1 h1 => ?_)
    · unfold fv
      rw [if_neg (by omega), if_neg (by omega), if_neg (by omega), if_pos (by omega)]
    refine sp_addN (n := 16) (by omega) h1 (fun v hv => (fCv hv rfl).trans ?_) (fun a1 h1 => ?_)
    · unfold fv
      rw [if_neg (by omega), if_neg (by omega), if_neg (by omega), if_neg (by omega)]
    obtain ⟨r1, r2, r3⟩ := h1
    unfold wp_X11_feed
    have e42 : a1 11 0 42 = nI T := by rw [r2 11 (by decide) (by decide)]; exact t3
    simp (disch := first | assumption | omega) only [e42, r1, l0, l1, l2, l3, l4, l5, l6, l7, l8, l9, l10, l20, l60, l61, l62, bb_t, bb_f, l100, l120, l512, l400, l401, l700, l9999, nm1, lm1, nlt, nle, neq, glt, gle, lgt, lge, geq, egq, mI_l, mI_e, e_mI, l_mI, le_mI, mI_le, bI_z, nC, vnI, nI_add, nI_sb, nI_mul, a1m, qs_eq, qs_nc, qs_ni, qs_nk, bq_l, bq_r, bq_l', bq_r', bq_t, bq_f, bq_t', bq_f', bq_n, bq_m, iT, iS, iN, true_and, and_true, eq_self, not_true_eq_false, not_false_eq_true, forall_const, bx_t, bx_f, reduceCtorEq, Option.some.injEq, forall_eq', ite_true, ite_false]
    have e42' : (qs a1 11 0 0 (nI 0)) 11 0 42 = nI T := e42
    refine ⟨21, sl_X11_feed c ?_ 20 0 _ (by omega) (frR_0 e42')⟩
    intro a' h2
    obtain ⟨s1, s2, s3, s4⟩ := h2
    have w : ∀ c, c ≠ 7 → c ≠ 32 → c ≠ 11 → c ≠ 71 → a' c = a c := by
      intro c c1 c2 c3 c4
      rw [s3 c c3 c4, ← r2 c c1 c2]
      funext i k
      exact qs_nc c3
    have w11 : ∀ k, k ≠ 0 → k ≠ 42 → a' 11 0 k = a 11 0 k := by
      intro k k0 k42
      rw [s2 k k42, qs_nk k0, r2 11 (by decide) (by decide)]
    refine ⟨rfl, I, S, Hh, B, T + 20, M, hA.cg ?_ ?_ ?_ ?_ ?_ ?_ ?_ ?_, hB.cg ?_ ?_ ?_ ?_ ?_ ?_ ?_ ?_ ?_ ?_, ⟨hC.1, ?_, ?_⟩, hD.cg ?_ ?_ ?_ ?_ ?_ ?_ ?_ ?_ ?_, hE.cg ?_ ?_ ?_ ?_ ?_ ?_ ?_ ?_ ?_, hF.cg ?_ ?_ ?_ ?_ ?_ ?_ ?_ ?_ ?_ ?_ ?_ ?_ ?_ ?_ ?_ ?_ ?_ ?_ ?_ ?_ ?_, (hG.k).cg ?_ ?_ ?_ ?_ ?_ ?_ ?_ ?_ ?_, hH.cg ?_ ?_ ?_ ?_ ?_ ?_ ?_ ?_ ?_ ?_ ?_ ?_ ?_ ?_ ?_, ⟨by omega, ?_, s1, ?_⟩, ?_⟩
    all_goals first
      | exact w _ (by decide) (by decide) (by decide) (by decide)
      | exact w11 _ (by decide) (by decide)
      | exact congrFun (congrFun (w _ (by decide) (by decide) (by decide) (by decide)) _) _
      | skip
    · exact (congrFun (congrFun (w 10 (by decide) (by decide) (by decide) (by decide)) 0) 12).trans hC.2.1
    · exact (w11 1 (by decide) (by decide)).trans hC.2.2
    · rw [s3 7 (by decide) (by decide)]
      exact r1
    · intro j hj
      have e32 : a' 32 0 j = a1 32 0 j := by
        rw [s3 32 (by decide) (by decide)]
        exact qs_nc (by decide)
      have e71 : (qs a1 11 0 0 (nI 0)) 71 0 j = a 71 0 j := by
        rw [qs_nc (by decide), r2 71 (by decide) (by decide)]
      rw [s4, e32, r3]
      by_cases cj : T ≤ j ∧ j < T + 20
      · rw [if_pos cj, if_pos cj]
        exact ⟨rfl, byB _ _ (by omega)⟩
      · rw [if_neg cj, if_neg cj, e71]
        exact t4 j (by omega)
    · rw [w11 49 (by decide) (by decide)]
      exact (congrFun (congrFun (w 10 (by decide) (by decide) (by decide) (by decide)) 0) 11).trans hJ
  · simp (disch := first | assumption | omega) only [t2, wp_X11_feed, t3, l0, l1, l2, l3, l4, l5, l6, l7, l8, l9, l10, l20, l60, l61, l62, bb_t, bb_f, l100, l120, l512, l400, l401, l700, l9999, nm1, lm1, nlt, nle, neq, glt, gle, lgt, lge, geq, egq, mI_l, mI_e, e_mI, l_mI, le_mI, mI_le, bI_z, nC, vnI, nI_add, nI_sb, nI_mul, a1m, qs_eq, qs_nc, qs_ni, qs_nk, bq_l, bq_r, bq_l', bq_r', bq_t, bq_f, bq_t', bq_f', bq_n, bq_m, iT, iS, iN, true_and, and_true, eq_self, not_true_eq_false, not_false_eq_true, forall_const, bx_t, bx_f, reduceCtorEq, Option.some.injEq, forall_eq', ite_true, ite_false]
    exact no
