theorem sp_next {t p q r tg : Nat} {X : qa} {post : Int32 → qa → Prop} (h2 : X 4 q 2 = nI tg) (hr : r < 6) (htg : tg < 6) (k1 : r = tg → post mI X) (k2 : ¬ r = tg → post (nI (lgO r tg)) X) : wp_X4_nextLeg t p q (nI r) X post := by
  unfold wp_X4_nextLeg
  unfold lgO at k2
  by_cases c : r = tg
  · have := k1 c
    simp (disch := first | assumption | omega) only [h2, l0, l1, l2, l3, l4, l5, l6, l7, l8, l9, l10, l20, l60, l61, l62, bb_t, bb_f, l100, l120, l512, l400, l401, l700, l9999, nm1, lm1, nlt, nle, neq, glt, gle, lgt, lge, geq, egq, mI_l, mI_e, e_mI, l_mI, le_mI, mI_le, bI_z, nC, vnI, nI_add, nI_sb, nI_mul, a1m, qs_eq, qs_nc, qs_ni, qs_nk, bq_l, bq_r, bq_l', bq_r', bq_t, bq_f, bq_t', bq_f', bq_n, bq_m, iT, iS, iN, true_and, and_true, eq_self, not_true_eq_false, not_false_eq_true, forall_const, bx_t, bx_f, reduceCtorEq, Option.some.injEq, forall_eq', ite_true, ite_false]
    exact this
  · have := k2 c
    by_cases d : tg ≤ r
    · rw [if_pos d] at this
      simp (disch := first | assumption | omega) only [h2, l0, l1, l2, l3, l4, l5, l6, l7, l8, l9, l10, l20, l60, l61, l62, bb_t, bb_f, l100, l120, l512, l400, l401, l700, l9999, nm1, lm1, nlt, nle, neq, glt, gle, lgt, lge, geq, egq, mI_l, mI_e, e_mI, l_mI, le_mI, mI_le, bI_z, nC, vnI, nI_add, nI_sb, nI_mul, a1m, qs_eq, qs_nc, qs_ni, qs_nk, bq_l, bq_r, bq_l', bq_r', bq_t, bq_f, bq_t', bq_f', bq_n, bq_m, iT, iS, iN, true_and, and_true, eq_self, not_true_eq_false, not_false_eq_true, forall_const, bx_t, bx_f, reduceCtorEq, Option.some.injEq, forall_eq', ite_true, ite_false]
      exact this
    · rw [if_neg d] at this
      simp (disch := first | assumption | omega) only [h2, l0, l1, l2, l3, l4, l5, l6, l7, l8, l9, l10, l20, l60, l61, l62, bb_t, bb_f, l100, l120, l512, l400, l401, l700, l9999, nm1, lm1, nlt, nle, neq, glt, gle, lgt, lge, geq, egq, mI_l, mI_e, e_mI, l_mI, le_mI, mI_le, bI_z, nC, vnI, nI_add, nI_sb, nI_mul, a1m, qs_eq, qs_nc, qs_ni, qs_nk, bq_l, bq_r, bq_l', bq_r', bq_t, bq_f, bq_t', bq_f', bq_n, bq_m, iT, iS, iN, true_and, and_true, eq_self, not_true_eq_false, not_false_eq_true, forall_const, bx_t, bx_f, reduceCtorEq, Option.some.injEq, forall_eq', ite_true, ite_false]
      exact this
theorem lgO_lt {r tg I : Nat} (hr : r < I) (htg : tg < I) (h : ¬ r = tg) : lgO r tg + 1 < I := by
  unfold lgO
  by_cases d : tg ≤ r
  · rw [if_pos d]
    omega
  · rw [if_neg d]
    omega
theorem nIe {x y : Nat} (h : nI x = nI y) (hx : x < 2147483648) (hy : y < 2147483648) : x = y := (neq hx hy).mp h
theorem hdP_0 {a : qa} {S Hh q r tg : Nat} (hr : r < 6) (htg : tg < 6) (e7 : a 57 0 q = nI tg) (e8 : a 58 0 q = nI 0) (e9 : a 59 0 q = nI r) : hdP a S Hh q ↔ (¬ r = tg ∧ shE a S (nI (lgO r tg)) (nI Hh) (nI Hh)) := by
  constructor
  · rintro ⟨r', tg', hr', htg', h1, h2, h3, h4⟩
    rcases h4 with ⟨_, h4⟩ | ⟨h4, _⟩
    · obtain rfl := nIe (e7.symm.trans h1) (by omega) (by omega)
      obtain rfl := nIe (e9.symm.trans h4) (by omega) (by omega)
      exact ⟨h2, h3⟩
    · exact absurd (e8.symm.trans h4) (by decide)
  · rintro ⟨h1, h2⟩
    exact ⟨r, tg, hr, htg, e7, h1, h2, Or.inl ⟨e8, e9⟩⟩
theorem hdP_1 {a : qa} {S Hh q r tg i : Nat} (hr : r < 6) (htg : tg < 6) (hi : i < 4) (e7 : a 57 0 q = nI tg) (e8 : a 58 0 q = nI 1) (e6 : a 60 0 q / nI 3 = nI i) (e9 : a 47 0 i = nI r) : hdP a S Hh q ↔ (¬ r = tg ∧ shE a S (nI (lgO r tg)) (nI Hh) (nI Hh)) := by
  constructor
  · rintro ⟨r', tg', hr', htg', h1, h2, h3, h4⟩
    rcases h4 with ⟨h4, _⟩ | ⟨_, i', h5, h6, h7⟩
    · exact absurd (e8.symm.trans h4) (by decide)
    · obtain rfl := nIe (e7.symm.trans h1) (by omega) (by omega)
      obtain rfl := nIe (e6.symm.trans h5) (by omega) (by omega)
      obtain rfl := nIe (e9.symm.trans h7) (by omega) (by omega)
      exact ⟨h2, h3⟩
  · rintro ⟨h1, h2⟩
    exact ⟨r, tg, hr, htg, e7, h1, h2, Or.inr ⟨e8, i, e6, hi, e9⟩⟩
theorem hdP_n {a : qa} {S Hh q i : Nat} (hi : i < 4) (e8 : a 58 0 q = nI 1) (e6 : a 60 0 q / nI 3 = nI i) (e9 : a 47 0 i = mI) : ¬ hdP a S Hh q := by
  rintro ⟨r', tg', hr', htg', h1, h2, h3, h4⟩
  rcases h4 with ⟨h4, _⟩ | ⟨_, i', h5, h6, h7⟩
  · exact absurd (e8.symm.trans h4) (by decide)
  · obtain rfl := nIe (e6.symm.trans h5) (by omega) (by omega)
    have := e9.symm.trans h7
    rw [mI_e (by omega)] at this
    exact this
theorem hdP_2 {a : qa} {S Hh q : Nat} (e8 : a 58 0 q = nI 2) : ¬ hdP a S Hh q := by
  rintro ⟨r', tg', hr', htg', h1, h2, h3, h4⟩
  rcases h4 with ⟨h4, _⟩ | ⟨h4, _⟩
  · exact absurd (e8.symm.trans h4) (by decide)
  · exact absurd (e8.symm.trans h4) (by decide)
set_option maxHeartbeats 4000000 in
theorem sl_hold {I S Hh B t p R : Nat} {a b : qa} {post : qa → Prop} (ht : t ≤ 4) (hp : p ≤ 100) (hI6 : I ≤ 6) (hD : iD I t p a) (hF : iF I Hh t p B a) (hR : R < 64) (hb : ∀ l, l < 6 → (R.testBit l = true ↔ shE a S (nI l) (nI Hh) (nI Hh))) (kk : post (mix (hS a S Hh p) b)) : ∀ (m j : Nat), j + m = p → wl_X10_holdPacks_2 t p post (m + 1) (nI R) (nI j) (mix (hS a S Hh j) b) := by
  intro m
  induction m with
  | zero =>
    intro j hj
    obtain rfl : j = p := by omega
    have x10 : mix (hS a S Hh j) b 10 0 9 = nI j := by
      rw [mx_10, hS_u (by decide) (by decide)]
      exact hF.1
    unfold wl_X10_holdPacks_2
    simp (disch := first | assumption | omega) only [x10, l0, l1, l2, l3, l4, l5, l6, l7, l8, l9, l10, l20, l60, l61, l62, bb_t, bb_f, l100, l120, l512, l400, l401, l700, l9999, nm1, lm1, nlt, nle, neq, glt, gle, lgt, lge, geq, egq, mI_l, mI_e, e_mI, l_mI, le_mI, mI_le, bI_z, nC, vnI, nI_add, nI_sb, nI_mul, a1m, qs_eq, qs_nc, qs_ni, qs_nk, bq_l, bq_r, bq_l', bq_r', bq_t, bq_f, bq_t', bq_f', bq_n, bq_m, iT, iS, iN, true_and, and_true, eq_self, not_true_eq_false, not_false_eq_true, forall_const, bx_t, bx_f, reduceCtorEq, Option.some.injEq, forall_eq', ite_true, ite_false]
    exact kk
  | succ m ih =>
    intro j hj
    have x10 : mix (hS a S Hh j) b 10 0 9 = nI p := by
      rw [mx_10, hS_u (by decide) (by decide)]
      exact hF.1
    have x8 : mix (hS a S Hh j) b 10 0 8 = nI t := by
      rw [mx_10, hS_u (by decide) (by decide)]
      exact hD.1
    have x4 : ∀ k, k ≠ 8 → mix (hS a S Hh j) b 4 j k = a 4 j k := by
      intro k hk
      rw [mx_4, hS_4 (Or.inl hk)]
    have x48 : mix (hS a S Hh j) b 4 j 8 = a 4 j 8 := by
      rw [mx_4, hS_4 (Or.inr (Nat.le_refl _))]
    have x9 : mix (hS a S Hh j) b 9 = a 9 := by
      rw [mx_9, hS_u (by decide) (by decide)]
    have yes : hdP a S Hh j → wl_X10_holdPacks_2 t p post (m + 1) (nI R) (nI (j + 1)) (qs (mix (hS a S Hh j) b) 4 j 8 (a 4 j 8 + nI 1)) := by
      intro h
      rw [hS_sc (by rw [hdv_t h])]
      exact ih (j + 1) (by omega)
    have no : ¬ hdP a S Hh j → wl_X10_holdPacks_2 t p post (m + 1) (nI R) (nI (j + 1)) (mix (hS a S Hh j) b) := by
      intro h
      rw [← hS_s0 (hdv_f h)]
      exact ih (j + 1) (by omega)
    generalize mix (hS a S Hh j) b = X at *
    obtain ⟨g1, g2, g3, g4, g5, g6, g7, g8, ⟨tg, htg, g9⟩, g10, g11⟩ := hF.2.2 j (by omega)
    have x44 : X 4 j 4 = a 58 0 j := (x4 4 (by decide)).trans g5
    have x42 : X 4 j 2 = nI tg := (x4 2 (by decide)).trans (g3.trans g9)
    have x45 : X 4 j 5 = a 4 j 5 := x4 5 (by decide)
    unfold wl_X10_holdPacks_2
    simp (disch := first | assumption | omega) only [x10, l0, l1, l2, l3, l4, l5, l6, l7, l8, l9, l10, l20, l60, l61, l62, bb_t, bb_f, l100, l120, l512, l400, l401, l700, l9999, nm1, lm1, nlt, nle, neq, glt, gle, lgt, lge, geq, egq, mI_l, mI_e, e_mI, l_mI, le_mI, mI_le, bI_z, nC, vnI, nI_add, nI_sb, nI_mul, a1m, qs_eq, qs_nc, qs_ni, qs_nk, bq_l, bq_r, bq_l', bq_r', bq_t, bq_f, bq_t', bq_f', bq_n, bq_m, iT, iS, iN, true_and, and_true, eq_self, not_true_eq_false, not_false_eq_true, forall_const, bx_t, bx_f, reduceCtorEq, Option.some.injEq, forall_eq', ite_true, ite_false]
    refine sp_packAt hp (by omega) x10 ?_
    rcases g11 with ⟨e1, e2, ⟨r, hr, e3⟩, _⟩ | ⟨e1, ⟨i, j', hi, hj', e2, e3, e4, _⟩, _⟩ | ⟨e1, _⟩
    · have hP := hdP_0 (a := a) (S := S) (Hh := Hh) (by omega) (by omega) g9 e1 e3
      simp (disch := first | assumption | omega) only [wp_X10_innOf, x44, e1, x45, e2, e3, l0, l1, l2, l3, l4, l5, l6, l7, l8, l9, l10, l20, l60, l61, l62, bb_t, bb_f, l100, l120, l512, l400, l401, l700, l9999, nm1, lm1, nlt, nle, neq, glt, gle, lgt, lge, geq, egq, mI_l, mI_e, e_mI, l_mI, le_mI, mI_le, bI_z, nC, vnI, nI_add, nI_sb, nI_mul, a1m, qs_eq, qs_nc, qs_ni, qs_nk, bq_l, bq_r, bq_l', bq_r', bq_t, bq_f, bq_t', bq_f', bq_n, bq_m, iT, iS, iN, true_and, and_true, eq_self, not_true_eq_false, not_false_eq_true, forall_const, bx_t, bx_f, reduceCtorEq, Option.some.injEq, forall_eq', ite_true, ite_false]
      refine sp_next x42 (by omega) (by omega) (fun c => ?_) (fun c => ?_)
      · have := no (fun h => (hP.mp h).1 c)
        simp (disch := first | assumption | omega) only [l0, l1, l2, l3, l4, l5, l6, l7, l8, l9, l10, l20, l60, l61, l62, bb_t, bb_f, l100, l120, l512, l400, l401, l700, l9999, nm1, lm1, nlt, nle, neq, glt, gle, lgt, lge, geq, egq, mI_l, mI_e, e_mI, l_mI, le_mI, mI_le, bI_z, nC, vnI, nI_add, nI_sb, nI_mul, a1m, qs_eq, qs_nc, qs_ni, qs_nk, bq_l, bq_r, bq_l', bq_r', bq_t, bq_f, bq_t', bq_f', bq_n, bq_m, iT, iS, iN, true_and, and_true, eq_self, not_true_eq_false, not_false_eq_true, forall_const, bx_t, bx_f, reduceCtorEq, Option.some.injEq, forall_eq', ite_true, ite_false]
        exact this
      · have hl := lgO_lt hr htg c
        by_cases hb' : shE a S (nI (lgO r tg)) (nI Hh) (nI Hh)
        · have hbit : nI R >>> (nI (lgO r tg) &&& 31) &&& nI 1 = nI 1 := (bt2 ⟨R, hR⟩ ⟨lgO r tg, by omega⟩).mpr ((hb _ (by omega)).mpr hb')
          have := yes (hP.mpr ⟨c, hb'⟩)
          simp (disch := first | assumption | omega) only [x48, l0, l1, l2, l3, l4, l5, l6, l7, l8, l9, l10, l20, l60, l61, l62, bb_t, bb_f, l100, l120, l512, l400, l401, l700, l9999, nm1, lm1, nlt, nle, neq, glt, gle, lgt, lge, geq, egq, mI_l, mI_e, e_mI, l_mI, le_mI, mI_le, bI_z, nC, vnI, nI_add, nI_sb, nI_mul, a1m, qs_eq, qs_nc, qs_ni, qs_nk, bq_l, bq_r, bq_l', bq_r', bq_t, bq_f, bq_t', bq_f', bq_n, bq_m, iT, iS, iN, true_and, and_true, eq_self, not_true_eq_false, not_false_eq_true, forall_const, bx_t, bx_f, reduceCtorEq, Option.some.injEq, forall_eq', ite_true, ite_false]
          exact this
        · have hbit : ¬ nI R >>> (nI (lgO r tg) &&& 31) &&& nI 1 = nI 1 := fun h => hb' ((hb _ (by omega)).mp ((bt2 ⟨R, hR⟩ ⟨lgO r tg, by omega⟩).mp h))
          have := no (fun h => hb' (hP.mp h).2)
          simp (disch := first | assumption | omega) only [x48, l0, l1, l2, l3, l4, l5, l6, l7, l8, l9, l10, l20, l60, l61, l62, bb_t, bb_f, l100, l120, l512, l400, l401, l700, l9999, nm1, lm1, nlt, nle, neq, glt, gle, lgt, lge, geq, egq, mI_l, mI_e, e_mI, l_mI, le_mI, mI_le, bI_z, nC, vnI, nI_add, nI_sb, nI_mul, a1m, qs_eq, qs_nc, qs_ni, qs_nk, bq_l, bq_r, bq_l', bq_r', bq_t, bq_f, bq_t', bq_f', bq_n, bq_m, iT, iS, iN, true_and, and_true, eq_self, not_true_eq_false, not_false_eq_true, forall_const, bx_t, bx_f, reduceCtorEq, Option.some.injEq, forall_eq', ite_true, ite_false]
          exact this
    · have ed : a 60 0 j / nI 3 = nI i := by
        rw [e2, nI_div (by omega) (by omega)]
        congr 1
        omega
      have t1 := (hD.2.2 i hi).1
      have t4 := (hD.2.2 i hi).2.2.2
      simp (disch := first | assumption | omega) only [wp_X10_innOf, x44, e1, x45, e3, l0, l1, l2, l3, l4, l5, l6, l7, l8, l9, l10, l20, l60, l61, l62, bb_t, bb_f, l100, l120, l512, l400, l401, l700, l9999, nm1, lm1, nlt, nle, neq, glt, gle, lgt, lge, geq, egq, mI_l, mI_e, e_mI, l_mI, le_mI, mI_le, bI_z, nC, vnI, nI_add, nI_sb, nI_mul, a1m, qs_eq, qs_nc, qs_ni, qs_nk, bq_l, bq_r, bq_l', bq_r', bq_t, bq_f, bq_t', bq_f', bq_n, bq_m, iT, iS, iN, true_and, and_true, eq_self, not_true_eq_false, not_false_eq_true, forall_const, bx_t, bx_f, reduceCtorEq, Option.some.injEq, forall_eq', ite_true, ite_false]
      refine sp_trainAt ht hi x8 ?_
      rcases t4 with ⟨r, hr, q1, q2, q3⟩ | ⟨q1, _⟩
      · have hP := hdP_1 (a := a) (S := S) (Hh := Hh) (by omega) (by omega) (by omega) g9 e1 ed q1
        simp (disch := first | assumption | omega) only [x9, t1, q1, l0, l1, l2, l3, l4, l5, l6, l7, l8, l9, l10, l20, l60, l61, l62, bb_t, bb_f, l100, l120, l512, l400, l401, l700, l9999, nm1, lm1, nlt, nle, neq, glt, gle, lgt, lge, geq, egq, mI_l, mI_e, e_mI, l_mI, le_mI, mI_le, bI_z, nC, vnI, nI_add, nI_sb, nI_mul, a1m, qs_eq, qs_nc, qs_ni, qs_nk, bq_l, bq_r, bq_l', bq_r', bq_t, bq_f, bq_t', bq_f', bq_n, bq_m, iT, iS, iN, true_and, and_true, eq_self, not_true_eq_false, not_false_eq_true, forall_const, bx_t, bx_f, reduceCtorEq, Option.some.injEq, forall_eq', ite_true, ite_false]
        refine sp_next x42 (by omega) (by omega) (fun c => ?_) (fun c => ?_)
        · have := no (fun h => (hP.mp h).1 c)
          simp (disch := first | assumption | omega) only [l0, l1, l2, l3, l4, l5, l6, l7, l8, l9, l10, l20, l60, l61, l62, bb_t, bb_f, l100, l120, l512, l400, l401, l700, l9999, nm1, lm1, nlt, nle, neq, glt, gle, lgt, lge, geq, egq, mI_l, mI_e, e_mI, l_mI, le_mI, mI_le, bI_z, nC, vnI, nI_add, nI_sb, nI_mul, a1m, qs_eq, qs_nc, qs_ni, qs_nk, bq_l, bq_r, bq_l', bq_r', bq_t, bq_f, bq_t', bq_f', bq_n, bq_m, iT, iS, iN, true_and, and_true, eq_self, not_true_eq_false, not_false_eq_true, forall_const, bx_t, bx_f, reduceCtorEq, Option.some.injEq, forall_eq', ite_true, ite_false]
          exact this
        · have hl := lgO_lt hr htg c
          by_cases hb' : shE a S (nI (lgO r tg)) (nI Hh) (nI Hh)
          · have hbit : nI R >>> (nI (lgO r tg) &&& 31) &&& nI 1 = nI 1 := (bt2 ⟨R, hR⟩ ⟨lgO r tg, by omega⟩).mpr ((hb _ (by omega)).mpr hb')
            have := yes (hP.mpr ⟨c, hb'⟩)
            simp (disch := first | assumption | omega) only [x48, l0, l1, l2, l3, l4, l5, l6, l7, l8, l9, l10, l20, l60, l61, l62, bb_t, bb_f, l100, l120, l512, l400, l401, l700, l9999, nm1, lm1, nlt, nle, neq, glt, gle, lgt, lge, geq, egq, mI_l, mI_e, e_mI, l_mI, le_mI, mI_le, bI_z, nC, vnI, nI_add, nI_sb, nI_mul, a1m, qs_eq, qs_nc, qs_ni, qs_nk, bq_l, bq_r, bq_l', bq_r', bq_t, bq_f, bq_t', bq_f', bq_n, bq_m, iT, iS, iN, true_and, and_true, eq_self, not_true_eq_false, not_false_eq_true, forall_const, bx_t, bx_f, reduceCtorEq, Option.some.injEq, forall_eq', ite_true, ite_false]
            exact this
          · have hbit : ¬ nI R >>> (nI (lgO r tg) &&& 31) &&& nI 1 = nI 1 := fun h => hb' ((hb _ (by omega)).mp ((bt2 ⟨R, hR⟩ ⟨lgO r tg, by omega⟩).mp h))
            have := no (fun h => hb' (hP.mp h).2)
            simp (disch := first | assumption | omega) only [x48, l0, l1, l2, l3, l4, l5, l6, l7, l8, l9, l10, l20, l60, l61, l62, bb_t, bb_f, l100, l120, l512, l400, l401, l700, l9999, nm1, lm1, nlt, nle, neq, glt, gle, lgt, lge, geq, egq, mI_l, mI_e, e_mI, l_mI, le_mI, mI_le, bI_z, nC, vnI, nI_add, nI_sb, nI_mul, a1m, qs_eq, qs_nc, qs_ni, qs_nk, bq_l, bq_r, bq_l', bq_r', bq_t, bq_f, bq_t', bq_f', bq_n, bq_m, iT, iS, iN, true_and, and_true, eq_self, not_true_eq_false, not_false_eq_true, forall_const, bx_t, bx_f, reduceCtorEq, Option.some.injEq, forall_eq', ite_true, ite_false]
            exact this
      · have := no (hdP_n (by omega) e1 ed q1)
        simp (disch := first | assumption | omega) only [x9, t1, q1, wp_X4_nextLeg, l0, l1, l2, l3, l4, l5, l6, l7, l8, l9, l10, l20, l60, l61, l62, bb_t, bb_f, l100, l120, l512, l400, l401, l700, l9999, nm1, lm1, nlt, nle, neq, glt, gle, lgt, lge, geq, egq, mI_l, mI_e, e_mI, l_mI, le_mI, mI_le, bI_z, nC, vnI, nI_add, nI_sb, nI_mul, a1m, qs_eq, qs_nc, qs_ni, qs_nk, bq_l, bq_r, bq_l', bq_r', bq_t, bq_f, bq_t', bq_f', bq_n, bq_m, iT, iS, iN, true_and, and_true, eq_self, not_true_eq_false, not_false_eq_true, forall_const, bx_t, bx_f, reduceCtorEq, Option.some.injEq, forall_eq', ite_true, ite_false]
        exact this
    · have := no (hdP_2 e1)
      simp (disch := first | assumption | omega) only [wp_X10_innOf, x44, e1, wp_X4_nextLeg, l0, l1, l2, l3, l4, l5, l6, l7, l8, l9, l10, l20, l60, l61, l62, bb_t, bb_f, l100, l120, l512, l400, l401, l700, l9999, nm1, lm1, nlt, nle, neq, glt, gle, lgt, lge, geq, egq, mI_l, mI_e, e_mI, l_mI, le_mI, mI_le, bI_z, nC, vnI, nI_add, nI_sb, nI_mul, a1m, qs_eq, qs_nc, qs_ni, qs_nk, bq_l, bq_r, bq_l', bq_r', bq_t, bq_f, bq_t', bq_f', bq_n, bq_m, iT, iS, iN, true_and, and_true, eq_self, not_true_eq_false, not_false_eq_true, forall_const, bx_t, bx_f, reduceCtorEq, Option.some.injEq, forall_eq', ite_true, ite_false]
      exact this
set_option maxHeartbeats 4000000 in
theorem sl_holdR {I S Hh B t p : Nat} {a b : qa} {post : qa → Prop} (ht : t ≤ 4) (hp : p ≤ 100) (hI6 : I ≤ 6) (hS60 : S ≤ 60) (h6 : a 11 0 6 = nI S) (h1 : a 11 0 1 = nI Hh) (hD : iD I t p a) (hF : iF I Hh t p B a) (kk : post (mix b (hS a S Hh p))) : ∀ (m j : Nat), j + m = p → wl_X11_holds_2 t p post (m + 1) (nI j) (mix b (hS a S Hh j)) := by
  intro m
  induction m with
  | zero =>
    intro j hj
    obtain rfl : j = p := by omega
    have x20 : mix b (hS a S Hh j) 11 0 20 = nI j := by
      rw [mx_11, hS_u (by decide) (by decide)]
      exact hF.2.1
    unfold wl_X11_holds_2
    simp (disch := first | assumption | omega) only [x20, l0, l1, l2, l3, l4, l5, l6, l7, l8, l9, l10, l20, l60, l61, l62, bb_t, bb_f, l100, l120, l512, l400, l401, l700, l9999, nm1, lm1, nlt, nle, neq, glt, gle, lgt, lge, geq, egq, mI_l, mI_e, e_mI, l_mI, le_mI, mI_le, bI_z, nC, vnI, nI_add, nI_sb, nI_mul, a1m, qs_eq, qs_nc, qs_ni, qs_nk, bq_l, bq_r, bq_l', bq_r', bq_t, bq_f, bq_t', bq_f', bq_n, bq_m, iT, iS, iN, true_and, and_true, eq_self, not_true_eq_false, not_false_eq_true, forall_const, bx_t, bx_f, reduceCtorEq, Option.some.injEq, forall_eq', ite_true, ite_false]
    exact kk
  | succ m ih =>
    intro j hj
    have x20 : mix b (hS a S Hh j) 11 0 20 = nI p := by
      rw [mx_11, hS_u (by decide) (by decide)]
      exact hF.2.1
    have x6 : mix b (hS a S Hh j) 11 0 6 = nI S := by
      rw [mx_11, hS_u (by decide) (by decide)]
      exact h6
    have x1 : mix b (hS a S Hh j) 11 0 1 = nI Hh := by
      rw [mx_11, hS_u (by decide) (by decide)]
      exact h1
    have x58 : mix b (hS a S Hh j) 58 = a 58 := by rw [mx_58, hS_u (by decide) (by decide)]
    have x57 : mix b (hS a S Hh j) 57 = a 57 := by rw [mx_57, hS_u (by decide) (by decide)]
    have x59 : mix b (hS a S Hh j) 59 = a 59 := by rw [mx_59, hS_u (by decide) (by decide)]
    have x60 : mix b (hS a S Hh j) 60 = a 60 := by rw [mx_60, hS_u (by decide) (by decide)]
    have x47 : mix b (hS a S Hh j) 47 = a 47 := by rw [mx_47, hS_u (by decide) (by decide)]
    have xs : ∀ x y z, shE (mix b (hS a S Hh j)) S x y z = shE a S x y z := fun x y z => shE_cg (by rw [mx_43, hS_u (by decide) (by decide)]) (by rw [mx_44, hS_u (by decide) (by decide)]) (by rw [mx_45, hS_u (by decide) (by decide)]) (by rw [mx_46, hS_u (by decide) (by decide)])
    have x64 : mix b (hS a S Hh j) 64 0 j = a 64 0 j := by
      rw [mx_64, hS_64 (Nat.le_refl _)]
    have yes : hdP a S Hh j → wl_X11_holds_2 t p post (m + 1) (nI (j + 1)) (qs (mix b (hS a S Hh j)) 64 0 j (a 64 0 j + nI 1)) := by
      intro h
      rw [hS_sr (by rw [hdv_t h])]
      exact ih (j + 1) (by omega)
    have no : ¬ hdP a S Hh j → wl_X11_holds_2 t p post (m + 1) (nI (j + 1)) (mix b (hS a S Hh j)) := by
      intro h
      rw [← hS_s0 (hdv_f h)]
      exact ih (j + 1) (by omega)
    generalize mix b (hS a S Hh j) = X at *
    have last : ∀ r tg, lgO r tg < 6 → (hdP a S Hh j ↔ (¬ r = tg ∧ shE a S (nI (lgO r tg)) (nI Hh) (nI Hh))) → ¬ r = tg → wl_X11_holds_64 t p (wl_X11_holds_2 t p post (m + 1)) post (nI j) (nI (lgO r tg)) X := by
      intro r tg hl hP c
      unfold wl_X11_holds_64
      rw [x1]
      refine ⟨S + 1, sl_X11_isShut hS60 x6 (fun q => ?_) (fun q => ?_) S 0 (by omega) (fun i hi => by omega)⟩
      · rw [xs] at q
        have := yes (hP.mpr ⟨c, q⟩)
        simp (disch := first | assumption | omega) only [x64, l0, l1, l2, l3, l4, l5, l6, l7, l8, l9, l10, l20, l60, l61, l62, bb_t, bb_f, l100, l120, l512, l400, l401, l700, l9999, nm1, lm1, nlt, nle, neq, glt, gle, lgt, lge, geq, egq, mI_l, mI_e, e_mI, l_mI, le_mI, mI_le, bI_z, nC, vnI, nI_add, nI_sb, nI_mul, a1m, qs_eq, qs_nc, qs_ni, qs_nk, bq_l, bq_r, bq_l', bq_r', bq_t, bq_f, bq_t', bq_f', bq_n, bq_m, iT, iS, iN, true_and, and_true, eq_self, not_true_eq_false, not_false_eq_true, forall_const, bx_t, bx_f, reduceCtorEq, Option.some.injEq, forall_eq', ite_true, ite_false]
        exact this
      · rw [xs] at q
        have := no (fun h => q (hP.mp h).2)
        simp (disch := first | assumption | omega) only [l0, l1, l2, l3, l4, l5, l6, l7, l8, l9, l10, l20, l60, l61, l62, bb_t, bb_f, l100, l120, l512, l400, l401, l700, l9999, nm1, lm1, nlt, nle, neq, glt, gle, lgt, lge, geq, egq, mI_l, mI_e, e_mI, l_mI, le_mI, mI_le, bI_z, nC, vnI, nI_add, nI_sb, nI_mul, a1m, qs_eq, qs_nc, qs_ni, qs_nk, bq_l, bq_r, bq_l', bq_r', bq_t, bq_f, bq_t', bq_f', bq_n, bq_m, iT, iS, iN, true_and, and_true, eq_self, not_true_eq_false, not_false_eq_true, forall_const, bx_t, bx_f, reduceCtorEq, Option.some.injEq, forall_eq', ite_true, ite_false]
        exact this
    obtain ⟨g1, g2, g3, g4, g5, g6, g7, g8, ⟨tg, htg, g9⟩, g10, g11⟩ := hF.2.2 j (by omega)
    unfold wl_X11_holds_2
    have fin : ∀ r, r < I → (hdP a S Hh j ↔ (¬ r = tg ∧ shE a S (nI (lgO r tg)) (nI Hh) (nI Hh))) → ¬ r = tg → (tg ≤ r → wl_X11_holds_64 t p (wl_X11_holds_2 t p post (m + 1)) post (nI j) (nI (r - 1)) X) ∧ (¬ tg ≤ r → wl_X11_holds_64 t p (wl_X11_holds_2 t p post (m + 1)) post (nI j) (nI r) X) := by
      intro r hr hP c
      have hl := lgO_lt hr htg c
      have := last r tg (by omega) hP c
      unfold lgO at this
      refine ⟨fun d => ?_, fun d => ?_⟩
      · rw [if_pos d] at this
        exact this
      · rw [if_neg d] at this
        exact this
    rcases g11 with ⟨e1, e2, ⟨r, hr, e3⟩, _⟩ | ⟨e1, ⟨i, j', hi, hj', e2, e3, e4, _⟩, _⟩ | ⟨e1, _⟩
    · have hP := hdP_0 (a := a) (S := S) (Hh := Hh) (by omega) (by omega) g9 e1 e3
      by_cases c : r = tg
      · have := no (fun h => (hP.mp h).1 c)
        simp (disch := first | assumption | omega) only [x20, x58, e1, x57, x59, e3, g9, wp_X11_innOf, l0, l1, l2, l3, l4, l5, l6, l7, l8, l9, l10, l20, l60, l61, l62, bb_t, bb_f, l100, l120, l512, l400, l401, l700, l9999, nm1, lm1, nlt, nle, neq, glt, gle, lgt, lge, geq, egq, mI_l, mI_e, e_mI, l_mI, le_mI, mI_le, bI_z, nC, vnI, nI_add, nI_sb, nI_mul, a1m, qs_eq, qs_nc, qs_ni, qs_nk, bq_l, bq_r, bq_l', bq_r', bq_t, bq_f, bq_t', bq_f', bq_n, bq_m, iT, iS, iN, true_and, and_true, eq_self, not_true_eq_false, not_false_eq_true, forall_const, bx_t, bx_f, reduceCtorEq, Option.some.injEq, forall_eq', ite_true, ite_false]
        exact this
      by_cases d : tg ≤ r
      · have := (fin r hr hP c).1 d
        simp (disch := first | assumption | omega) only [x20, x58, e1, x57, x59, e3, g9, wp_X11_innOf, l0, l1, l2, l3, l4, l5, l6, l7, l8, l9, l10, l20, l60, l61, l62, bb_t, bb_f, l100, l120, l512, l400, l401, l700, l9999, nm1, lm1, nlt, nle, neq, glt, gle, lgt, lge, geq, egq, mI_l, mI_e, e_mI, l_mI, le_mI, mI_le, bI_z, nC, vnI, nI_add, nI_sb, nI_mul, a1m, qs_eq, qs_nc, qs_ni, qs_nk, bq_l, bq_r, bq_l', bq_r', bq_t, bq_f, bq_t', bq_f', bq_n, bq_m, iT, iS, iN, true_and, and_true, eq_self, not_true_eq_false, not_false_eq_true, forall_const, bx_t, bx_f, reduceCtorEq, Option.some.injEq, forall_eq', ite_true, ite_false]
        exact this
      · have := (fin r hr hP c).2 d
        simp (disch := first | assumption | omega) only [x20, x58, e1, x57, x59, e3, g9, wp_X11_innOf, l0, l1, l2, l3, l4, l5, l6, l7, l8, l9, l10, l20, l60, l61, l62, bb_t, bb_f, l100, l120, l512, l400, l401, l700, l9999, nm1, lm1, nlt, nle, neq, glt, gle, lgt, lge, geq, egq, mI_l, mI_e, e_mI, l_mI, le_mI, mI_le, bI_z, nC, vnI, nI_add, nI_sb, nI_mul, a1m, qs_eq, qs_nc, qs_ni, qs_nk, bq_l, bq_r, bq_l', bq_r', bq_t, bq_f, bq_t', bq_f', bq_n, bq_m, iT, iS, iN, true_and, and_true, eq_self, not_true_eq_false, not_false_eq_true, forall_const, bx_t, bx_f, reduceCtorEq, Option.some.injEq, forall_eq', ite_true, ite_false]
        exact this
    · have ed : a 60 0 j / nI 3 = nI i := by
        rw [e2, nI_div (by omega) (by omega)]
        congr 1
        omega
      have t4 := (hD.2.2 i hi).2.2.2
      rcases t4 with ⟨r, hr, q1, q2, q3⟩ | ⟨q1, _⟩
      · have hP := hdP_1 (a := a) (S := S) (Hh := Hh) (by omega) (by omega) (by omega) g9 e1 ed q1
        by_cases c : r = tg
        · have := no (fun h => (hP.mp h).1 c)
          simp (disch := first | assumption | omega) only [x20, x58, e1, x57, x60, ed, x47, q1, g9, wp_X11_innOf, l0, l1, l2, l3, l4, l5, l6, l7, l8, l9, l10, l20, l60, l61, l62, bb_t, bb_f, l100, l120, l512, l400, l401, l700, l9999, nm1, lm1, nlt, nle, neq, glt, gle, lgt, lge, geq, egq, mI_l, mI_e, e_mI, l_mI, le_mI, mI_le, bI_z, nC, vnI, nI_add, nI_sb, nI_mul, a1m, qs_eq, qs_nc, qs_ni, qs_nk, bq_l, bq_r, bq_l', bq_r', bq_t, bq_f, bq_t', bq_f', bq_n, bq_m, iT, iS, iN, true_and, and_true, eq_self, not_true_eq_false, not_false_eq_true, forall_const, bx_t, bx_f, reduceCtorEq, Option.some.injEq, forall_eq', ite_true, ite_false]
          exact this
        by_cases d : tg ≤ r
        · have := (fin r hr hP c).1 d
          simp (disch := first | assumption | omega) only [x20, x58, e1, x57, x60, ed, x47, q1, g9, wp_X11_innOf, l0, l1, l2, l3, l4, l5, l6, l7, l8, l9, l10, l20, l60, l61, l62, bb_t, bb_f, l100, l120, l512, l400, l401, l700, l9999, nm1, lm1, nlt, nle, neq, glt, gle, lgt, lge, geq, egq, mI_l, mI_e, e_mI, l_mI, le_mI, mI_le, bI_z, nC, vnI, nI_add, nI_sb, nI_mul, a1m, qs_eq, qs_nc, qs_ni, qs_nk, bq_l, bq_r, bq_l', bq_r', bq_t, bq_f, bq_t', bq_f', bq_n, bq_m, iT, iS, iN, true_and, and_true, eq_self, not_true_eq_false, not_false_eq_true, forall_const, bx_t, bx_f, reduceCtorEq, Option.some.injEq, forall_eq', ite_true, ite_false]
          exact this
        · have := (fin r hr hP c).2 d
          simp (disch := first | assumption | omega) only [x20, x58, e1, x57, x60, ed, x47, q1, g9, wp_X11_innOf, l0, l1, l2, l3, l4, l5, l6, l7, l8, l9, l10, l20, l60, l61, l62, bb_t, bb_f, l100, l120, l512, l400, l401, l700, l9999, nm1, lm1, nlt, nle, neq, glt, gle, lgt, lge, geq, egq, mI_l, mI_e, e_mI, l_mI, le_mI, mI_le, bI_z, nC, vnI, nI_add, nI_sb, nI_mul, a1m, qs_eq, qs_nc, qs_ni, qs_nk, bq_l, bq_r, bq_l', bq_r', bq_t, bq_f, bq_t', bq_f', bq_n, bq_m, iT, iS, iN, true_and, and_true, eq_self, not_true_eq_false, not_false_eq_true, forall_const, bx_t, bx_f, reduceCtorEq, Option.some.injEq, forall_eq', ite_true, ite_false]
          exact this
      · have := no (hdP_n (by omega) e1 ed q1)
        simp (disch := first | assumption | omega) only [x20, x58, e1, x57, x60, ed, x47, q1, g9, wp_X11_innOf, l0, l1, l2, l3, l4, l5, l6, l7, l8, l9, l10, l20, l60, l61, l62, bb_t, bb_f, l100, l120, l512, l400, l401, l700, l9999, nm1, lm1, nlt, nle, neq, glt, gle, lgt, lge, geq, egq, mI_l, mI_e, e_mI, l_mI, le_mI, mI_le, bI_z, nC, vnI, nI_add, nI_sb, nI_mul, a1m, qs_eq, qs_nc, qs_ni, qs_nk, bq_l, bq_r, bq_l', bq_r', bq_t, bq_f, bq_t', bq_f', bq_n, bq_m, iT, iS, iN, true_and, and_true, eq_self, not_true_eq_false, not_false_eq_true, forall_const, bx_t, bx_f, reduceCtorEq, Option.some.injEq, forall_eq', ite_true, ite_false]
        exact this
    · have := no (hdP_2 e1)
      simp (disch := first | assumption | omega) only [x20, x58, e1, l0, l1, l2, l3, l4, l5, l6, l7, l8, l9, l10, l20, l60, l61, l62, bb_t, bb_f, l100, l120, l512, l400, l401, l700, l9999, nm1, lm1, nlt, nle, neq, glt, gle, lgt, lge, geq, egq, mI_l, mI_e, e_mI, l_mI, le_mI, mI_le, bI_z, nC, vnI, nI_add, nI_sb, nI_mul, a1m, qs_eq, qs_nc, qs_ni, qs_nk, bq_l, bq_r, bq_l', bq_r', bq_t, bq_f, bq_t', bq_f', bq_n, bq_m, iT, iS, iN, true_and, and_true, eq_self, not_true_eq_false, not_false_eq_true, forall_const, bx_t, bx_f, reduceCtorEq, Option.some.injEq, forall_eq', ite_true, ite_false]
      exact this
