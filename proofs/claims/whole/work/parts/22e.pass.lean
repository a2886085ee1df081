theorem qs_cm {a : qa} {c i k d j n : Nat} {x y : Int32} (h : c ≠ d) : qs (qs a c i k x) d j n y = qs (qs a d j n y) c i k x := by
  funext e m l
  unfold qs
  by_cases h1 : e = d ∧ m = j ∧ l = n
  · rw [if_pos h1, if_neg (by omega), if_pos h1]
  · rw [if_neg h1, if_neg h1]
set_option maxHeartbeats 4000000 in
theorem sl_gr {Hh t p i : Nat} {a b : qa} {cl : Int32} {post : qa → Prop} (hi : i < t) (hE : iE t p a) (hl : ¬ a 47 0 i = mI) (kk : post (mix (tS a p Hh (3 * i + 3) i) b)) : ∀ (n j : Nat), j + n = 3 → wl_X9_goThrough_17 t p post (n + 1) i (nI Hh) cl (nI 1) (nI j) (mix (tS a p Hh (3 * i + j) i) b) := by
  intro n
  induction n with
  | zero =>
    intro j hj
    obtain rfl : j = 3 := by omega
    unfold wl_X9_goThrough_17
    simp (disch := first | assumption | omega) only [l0, l1, l2, l3, l4, l5, l6, l7, l8, l9, l10, l20, l60, l61, l62, bb_t, bb_f, l100, l120, l512, l400, l401, l700, l9999, nm1, lm1, nlt, nle, neq, glt, gle, lgt, lge, geq, egq, mI_l, mI_e, e_mI, l_mI, le_mI, mI_le, bI_z, nC, vnI, nI_add, nI_sb, nI_mul, a1m, qs_eq, qs_nc, qs_ni, qs_nk, bq_l, bq_r, bq_l', bq_r', bq_t, bq_f, bq_t', bq_f', bq_n, bq_m, iT, iS, iN, true_and, and_true, eq_self, not_true_eq_false, not_false_eq_true, forall_const, bx_t, bx_f, reduceCtorEq, Option.some.injEq, forall_eq', ite_true, ite_false]
    exact kk
  | succ n ih =>
    intro j hj
    unfold wl_X9_goThrough_17
    simp (disch := first | assumption | omega) only [l0, l1, l2, l3, l4, l5, l6, l7, l8, l9, l10, l20, l60, l61, l62, bb_t, bb_f, l100, l120, l512, l400, l401, l700, l9999, nm1, lm1, nlt, nle, neq, glt, gle, lgt, lge, geq, egq, mI_l, mI_e, e_mI, l_mI, le_mI, mI_le, bI_z, nC, vnI, nI_add, nI_sb, nI_mul, a1m, qs_eq, qs_nc, qs_ni, qs_nk, bq_l, bq_r, bq_l', bq_r', bq_t, bq_f, bq_t', bq_f', bq_n, bq_m, iT, iS, iN, true_and, and_true, eq_self, not_true_eq_false, not_false_eq_true, forall_const, bx_t, bx_f, reduceCtorEq, Option.some.injEq, forall_eq', ite_true, ite_false]
    refine sp_restC hE (by omega) ?_ ?_
    · have : (3 * i + j) / 3 = i := by omega
      rw [this]
      exact hl
    · exact ih (j + 1) (by omega)
set_option maxHeartbeats 4000000 in
theorem sl_gw {I Hh B t p i : Nat} {a b : qa} {cl : Int32} {post : qa → Prop} (hH : Hh ≤ 9999) (hI6 : I ≤ 6) (hi : i < t) (hD : iD I t p a) (hE : iE t p a) (hF : iF I Hh t p B a) (hl : a 47 0 i = mI) (hc : cl = a 41 0 (a 48 0 i).toNatClampNeg) (kk : post (mix (tS a p Hh (3 * i + 3) (i + 1)) b)) : ∀ (n j : Nat), j + n = 3 → wl_X9_goThrough_17 t p post (n + 1) i (nI Hh) cl (nI 0) (nI j) (mix (tS a p Hh (3 * i + j) i) b) := by
  intro n
  induction n with
  | zero =>
    intro j hj
    obtain rfl : j = 3 := by omega
    obtain ⟨t1, t2, t3, t4⟩ := hD.2.2 i hi
    have t5 : a 9 i 3 = a 49 0 i ∧ a 9 i 4 = a 50 0 i := by
      rcases t4 with ⟨r, hr, q1, _⟩ | ⟨_, q2, q3, q4, q5⟩
      · rw [hl, mI_e (by omega)] at q1
        exact q1.elim
      · exact ⟨q3, q5⟩
    have x : ∀ k, mix (tS a p Hh (3 * i + 3) i) b 9 i k = a 9 i k := by
      intro k
      rw [mx_9, tS_9, vC_n (Nat.le_refl _)]
    have x4 : mix (tS a p Hh (3 * i + 3) i) b 9 i 4 = a 50 0 i := (x 4).trans t5.2
    have x3 : mix (tS a p Hh (3 * i + 3) i) b 9 i 3 = a 49 0 i := (x 3).trans t5.1
    have x2 : mix (tS a p Hh (3 * i + 3) i) b 9 i 2 = a 48 0 i := (x 2).trans t2
    unfold wl_X9_goThrough_17
    by_cases c : a 50 0 i = nI (Hh + 1)
    · rw [← tS_ac ⟨hl, c⟩] at kk
      unfold nIn at kk
      by_cases d : a 49 0 i = nI 0
      · rw [if_pos d] at kk
        simp (disch := first | assumption | omega) only [wp_X9_arrive, wl_X9_arrive_21, x4, x3, x2, l0, l1, l2, l3, l4, l5, l6, l7, l8, l9, l10, l20, l60, l61, l62, bb_t, bb_f, l100, l120, l512, l400, l401, l700, l9999, nm1, lm1, nlt, nle, neq, glt, gle, lgt, lge, geq, egq, mI_l, mI_e, e_mI, l_mI, le_mI, mI_le, bI_z, nC, vnI, nI_add, nI_sb, nI_mul, a1m, qs_eq, qs_nc, qs_ni, qs_nk, bq_l, bq_r, bq_l', bq_r', bq_t, bq_f, bq_t', bq_f', bq_n, bq_m, iT, iS, iN, true_and, and_true, eq_self, not_true_eq_false, not_false_eq_true, forall_const, bx_t, bx_f, reduceCtorEq, Option.some.injEq, forall_eq', ite_true, ite_false]
        exact kk
      · rw [if_neg d] at kk
        simp (disch := first | assumption | omega) only [wp_X9_arrive, wl_X9_arrive_21, x4, x3, x2, l0, l1, l2, l3, l4, l5, l6, l7, l8, l9, l10, l20, l60, l61, l62, bb_t, bb_f, l100, l120, l512, l400, l401, l700, l9999, nm1, lm1, nlt, nle, neq, glt, gle, lgt, lge, geq, egq, mI_l, mI_e, e_mI, l_mI, le_mI, mI_le, bI_z, nC, vnI, nI_add, nI_sb, nI_mul, a1m, qs_eq, qs_nc, qs_ni, qs_nk, bq_l, bq_r, bq_l', bq_r', bq_t, bq_f, bq_t', bq_f', bq_n, bq_m, iT, iS, iN, true_and, and_true, eq_self, not_true_eq_false, not_false_eq_true, forall_const, bx_t, bx_f, reduceCtorEq, Option.some.injEq, forall_eq', ite_true, ite_false]
        exact kk
    · rw [tS_n (fun h => c h.2)] at kk
      simp (disch := first | assumption | omega) only [x4, l0, l1, l2, l3, l4, l5, l6, l7, l8, l9, l10, l20, l60, l61, l62, bb_t, bb_f, l100, l120, l512, l400, l401, l700, l9999, nm1, lm1, nlt, nle, neq, glt, gle, lgt, lge, geq, egq, mI_l, mI_e, e_mI, l_mI, le_mI, mI_le, bI_z, nC, vnI, nI_add, nI_sb, nI_mul, a1m, qs_eq, qs_nc, qs_ni, qs_nk, bq_l, bq_r, bq_l', bq_r', bq_t, bq_f, bq_t', bq_f', bq_n, bq_m, iT, iS, iN, true_and, and_true, eq_self, not_true_eq_false, not_false_eq_true, forall_const, bx_t, bx_f, reduceCtorEq, Option.some.injEq, forall_eq', ite_true, ite_false]
      exact kk
  | succ n ih =>
    intro j hj
    have ed : (3 * i + j) / 3 = i := by omega
    unfold wl_X9_goThrough_17
    simp (disch := first | assumption | omega) only [l0, l1, l2, l3, l4, l5, l6, l7, l8, l9, l10, l20, l60, l61, l62, bb_t, bb_f, l100, l120, l512, l400, l401, l700, l9999, nm1, lm1, nlt, nle, neq, glt, gle, lgt, lge, geq, egq, mI_l, mI_e, e_mI, l_mI, le_mI, mI_le, bI_z, nC, vnI, nI_add, nI_sb, nI_mul, a1m, qs_eq, qs_nc, qs_ni, qs_nk, bq_l, bq_r, bq_l', bq_r', bq_t, bq_f, bq_t', bq_f', bq_n, bq_m, iT, iS, iN, true_and, and_true, eq_self, not_true_eq_false, not_false_eq_true, forall_const, bx_t, bx_f, reduceCtorEq, Option.some.injEq, forall_eq', ite_true, ite_false]
    refine sp_walkC hE hF (by omega) ?_ ?_ ?_
    · rw [ed]
      exact hl
    · unfold clO
      rw [ed]
      exact hc
    · exact ih (j + 1) (by omega)
theorem sl_pass2 {t p : Nat} {X : qa} {post : qa → Prop} (kk : post (qs X 10 0 12 (X 10 0 12 + nI 1))) : ∀ (n i : Nat), t ≤ i → i + n = 4 → wl_X10_passHour_23 t p post (n + 1) (nI i) X := by
  intro n
  induction n with
  | zero =>
    intro i hi hn
    obtain rfl : i = 4 := by omega
    unfold wl_X10_passHour_23
    simp (disch := first | assumption | omega) only [l0, l1, l2, l3, l4, l5, l6, l7, l8, l9, l10, l20, l60, l61, l62, bb_t, bb_f, l100, l120, l512, l400, l401, l700, l9999, nm1, lm1, nlt, nle, neq, glt, gle, lgt, lge, geq, egq, mI_l, mI_e, e_mI, l_mI, le_mI, mI_le, bI_z, nC, vnI, nI_add, nI_sb, nI_mul, a1m, qs_eq, qs_nc, qs_ni, qs_nk, bq_l, bq_r, bq_l', bq_r', bq_t, bq_f, bq_t', bq_f', bq_n, bq_m, iT, iS, iN, true_and, and_true, eq_self, not_true_eq_false, not_false_eq_true, forall_const, bx_t, bx_f, reduceCtorEq, Option.some.injEq, forall_eq', ite_true, ite_false]
    exact kk
  | succ n ih =>
    intro i hi hn
    have := ih (i + 1) (by omega) (by omega)
    unfold wl_X10_passHour_23
    simp (disch := first | assumption | omega) only [if_neg, l0, l1, l2, l3, l4, l5, l6, l7, l8, l9, l10, l20, l60, l61, l62, bb_t, bb_f, l100, l120, l512, l400, l401, l700, l9999, nm1, lm1, nlt, nle, neq, glt, gle, lgt, lge, geq, egq, mI_l, mI_e, e_mI, l_mI, le_mI, mI_le, bI_z, nC, vnI, nI_add, nI_sb, nI_mul, a1m, qs_eq, qs_nc, qs_ni, qs_nk, bq_l, bq_r, bq_l', bq_r', bq_t, bq_f, bq_t', bq_f', bq_n, bq_m, iT, iS, iN, true_and, and_true, eq_self, not_true_eq_false, not_false_eq_true, forall_const, bx_t, bx_f, reduceCtorEq, Option.some.injEq, forall_eq', ite_true, ite_false]
    exact this
set_option maxHeartbeats 4000000 in
theorem sl_pass {I Hh B t p : Nat} {a b : qa} {post : qa → Prop} (ht : t ≤ 4) (hH : Hh ≤ 9999) (hA : iA I a) (h12 : a 10 0 12 = nI Hh) (hD : iD I t p a) (hE : iE t p a) (hF : iF I Hh t p B a) (kk : post (qs (mix (tS a p Hh (3 * t) t) b) 10 0 12 (nI (Hh + 1)))) : ∀ (n i : Nat), i ≤ t → i + n = 4 → wl_X10_passHour_23 t p post (n + 1) (nI i) (mix (tS a p Hh (3 * i) i) b) := by
  intro n
  induction n with
  | zero =>
    intro i hi hn
    obtain rfl : i = 4 := by omega
    obtain rfl : t = 4 := by omega
    refine sl_pass2 ?_ 0 4 (by omega) (by omega)
    have x : mix (tS a p Hh (3 * 4) 4) b 10 0 12 = nI Hh := h12
    rw [x, nI_add]
    exact kk
  | succ n ih =>
    intro i hi hn
    by_cases c : i = t
    · subst c
      refine sl_pass2 ?_ (n + 1) i (by omega) hn
      have x : mix (tS a p Hh (3 * i) i) b 10 0 12 = nI Hh := h12
      rw [x, nI_add]
      exact kk
    · have hit : i < t := by omega
      obtain ⟨t1, t2, t3, t4⟩ := hD.2.2 i hit
      have hI6 := hA.1
      have hn' := ih (i + 1) (by omega) (by omega)
      have x2 : mix (tS a p Hh (3 * i) i) b 9 i 2 = a 48 0 i := by
        rw [mx_9, tS_9, vC_n (Nat.le_refl _)]
        exact t2
      have x12 : mix (tS a p Hh (3 * i) i) b 10 0 12 = nI Hh := h12
      have x7 : mix (tS a p Hh (3 * i) i) b 6 0 7 = nI I := hA.2.1
      have x26 : ∀ j, mix (tS a p Hh (3 * i) i) b 26 0 j = a 41 0 j := hA.2.2.2.2.1
      unfold wl_X10_passHour_23
      rcases t4 with ⟨r, hr, q1, q2, q3⟩ | ⟨q1, ⟨l, hlI, q2⟩, q3, q4, q5⟩
      · have hl : ¬ a 47 0 i = mI := by
          rw [q1, e_mI (by omega)]
          exact id
        have hg := sl_gr (cl := nI 0) (post := fun a63 => wl_X10_passHour_23 t p post (n + 1) (nI (i + 1)) a63) (b := b) (Hh := Hh) hit hE hl (by
          have := tS_n (p := p) (m := 3 * i + 3) (Hh := Hh) (fun h => hl h.1)
          rw [← this]
          exact hn') 3 0 (by omega)
        have hg' : wl_X9_goThrough_17 t p (fun a63 => wl_X10_passHour_23 t p post (n + 1) (nI (i + 1)) a63) 4 i (nI Hh) (nI 0) (nI 1) (nI 0) (mix (tS a p Hh (3 * i) i) b) := hg
        have eml : mI < nI 0 := by decide
        simp (disch := first | assumption | omega) only [if_pos, wp_X6_climbsOf, wp_X6_hasLeg, wp_X9_goThrough, x2, q2, x12, l0, l1, l2, l3, l4, l5, l6, l7, l8, l9, l10, l20, l60, l61, l62, bb_t, bb_f, l100, l120, l512, l400, l401, l700, l9999, nm1, lm1, nlt, nle, neq, glt, gle, lgt, lge, geq, egq, mI_l, mI_e, e_mI, l_mI, le_mI, mI_le, bI_z, nC, vnI, nI_add, nI_sb, nI_mul, a1m, qs_eq, qs_nc, qs_ni, qs_nk, bq_l, bq_r, bq_l', bq_r', bq_t, bq_f, bq_t', bq_f', bq_n, bq_m, iT, iS, iN, true_and, and_true, eq_self, not_true_eq_false, not_false_eq_true, forall_const, bx_t, bx_f, reduceCtorEq, Option.some.injEq, forall_eq', ite_true, ite_false]
        exact ⟨4, hg'⟩
      · have hg := sl_gw (cl := a 41 0 l) (post := fun a63 => wl_X10_passHour_23 t p post (n + 1) (nI (i + 1)) a63) (b := b) (Hh := Hh) hH hI6 hit hD hE hF q1 (by rw [q2, nC (by omega)]) (by exact hn') 3 0 (by omega)
        have hg' : wl_X9_goThrough_17 t p (fun a63 => wl_X10_passHour_23 t p post (n + 1) (nI (i + 1)) a63) 4 i (nI Hh) (a 41 0 l) (nI 0) (nI 0) (mix (tS a p Hh (3 * i) i) b) := hg
        simp (disch := first | assumption | omega) only [if_pos, wp_X6_climbsOf, wp_X6_hasLeg, wp_X9_goThrough, x2, q2, x12, x7, x26, l0, l1, l2, l3, l4, l5, l6, l7, l8, l9, l10, l20, l60, l61, l62, bb_t, bb_f, l100, l120, l512, l400, l401, l700, l9999, nm1, lm1, nlt, nle, neq, glt, gle, lgt, lge, geq, egq, mI_l, mI_e, e_mI, l_mI, le_mI, mI_le, bI_z, nC, vnI, nI_add, nI_sb, nI_mul, a1m, qs_eq, qs_nc, qs_ni, qs_nk, bq_l, bq_r, bq_l', bq_r', bq_t, bq_f, bq_t', bq_f', bq_n, bq_m, iT, iS, iN, true_and, and_true, eq_self, not_true_eq_false, not_false_eq_true, forall_const, bx_t, bx_f, reduceCtorEq, Option.some.injEq, forall_eq', ite_true, ite_false]
        exact ⟨4, hg'⟩
set_option maxHeartbeats 4000000 in
theorem sl_goes55 {I Hh t p : Nat} {a b : qa} {post : qa → Prop} (ht : t ≤ 4) (hI6 : I ≤ 6) (hD : iD I t p a) (kk : post (qs (mix b (tS a p Hh (3 * t) t)) 11 0 1 (nI (Hh + 1)))) : ∀ (n s : Nat), s + n = t → wl_X11_goes_55 t p post (n + 1) (nI s) (qs (mix b (tS a p Hh (3 * t) s)) 11 0 1 (nI (Hh + 1))) := by
  intro n
  induction n with
  | zero =>
    intro s hs
    obtain rfl : s = t := by omega
    have x11 : mix b (tS a p Hh (3 * s) s) 11 0 11 = nI s := hD.2.1
    unfold wl_X11_goes_55
    simp (disch := first | assumption | omega) only [x11, l0, l1, l2, l3, l4, l5, l6, l7, l8, l9, l10, l20, l60, l61, l62, bb_t, bb_f, l100, l120, l512, l400, l401, l700, l9999, nm1, lm1, nlt, nle, neq, glt, gle, lgt, lge, geq, egq, mI_l, mI_e, e_mI, l_mI, le_mI, mI_le, bI_z, nC, vnI, nI_add, nI_sb, nI_mul, a1m, qs_eq, qs_nc, qs_ni, qs_nk, bq_l, bq_r, bq_l', bq_r', bq_t, bq_f, bq_t', bq_f', bq_n, bq_m, iT, iS, iN, true_and, and_true, eq_self, not_true_eq_false, not_false_eq_true, forall_const, bx_t, bx_f, reduceCtorEq, Option.some.injEq, forall_eq', ite_true, ite_false]
    exact kk
  | succ n ih =>
    intro s hs
    have ih' := ih (s + 1) (by omega)
    have x11 : mix b (tS a p Hh (3 * t) s) 11 0 11 = nI t := hD.2.1
    have x47 : mix b (tS a p Hh (3 * t) s) 47 0 s = a 47 0 s := by rw [mx_47, tS_47, vR_n (Nat.le_refl _)]
    have x48 : mix b (tS a p Hh (3 * t) s) 48 0 s = a 48 0 s := by rw [mx_48, tS_48, vR_n (Nat.le_refl _)]
    have x49 : mix b (tS a p Hh (3 * t) s) 49 0 s = a 49 0 s := rfl
    have x50 : mix b (tS a p Hh (3 * t) s) 50 0 s = a 50 0 s := rfl
    unfold wl_X11_goes_55
    by_cases c : a 47 0 s = mI
    · by_cases d : a 50 0 s = nI (Hh + 1)
      · have e9 : qs (mix b (tS a p Hh (3 * t) (s + 1))) 11 0 1 (nI (Hh + 1)) = qs (qs (qs (mix b (tS a p Hh (3 * t) s)) 11 0 1 (nI (Hh + 1))) 47 0 s (nIn a s)) 48 0 s mI := by
          rw [← tS_ar ⟨c, d⟩, qs_cm (show 48 ≠ 11 by decide), qs_cm (show 47 ≠ 11 by decide)]
        rw [e9] at ih'
        unfold nIn at ih'
        by_cases d2 : a 49 0 s = nI 0
        · rw [if_pos d2] at ih'
          simp (disch := first | assumption | omega) only [x11, x47, x50, x49, x48, wl_X11_goes_120, l0, l1, l2, l3, l4, l5, l6, l7, l8, l9, l10, l20, l60, l61, l62, bb_t, bb_f, l100, l120, l512, l400, l401, l700, l9999, nm1, lm1, nlt, nle, neq, glt, gle, lgt, lge, geq, egq, mI_l, mI_e, e_mI, l_mI, le_mI, mI_le, bI_z, nC, vnI, nI_add, nI_sb, nI_mul, a1m, qs_eq, qs_nc, qs_ni, qs_nk, bq_l, bq_r, bq_l', bq_r', bq_t, bq_f, bq_t', bq_f', bq_n, bq_m, iT, iS, iN, true_and, and_true, eq_self, not_true_eq_false, not_false_eq_true, forall_const, bx_t, bx_f, reduceCtorEq, Option.some.injEq, forall_eq', ite_true, ite_false]
          exact ih'
        · rw [if_neg d2] at ih'
          simp (disch := first | assumption | omega) only [x11, x47, x50, x49, x48, wl_X11_goes_120, l0, l1, l2, l3, l4, l5, l6, l7, l8, l9, l10, l20, l60, l61, l62, bb_t, bb_f, l100, l120, l512, l400, l401, l700, l9999, nm1, lm1, nlt, nle, neq, glt, gle, lgt, lge, geq, egq, mI_l, mI_e, e_mI, l_mI, le_mI, mI_le, bI_z, nC, vnI, nI_add, nI_sb, nI_mul, a1m, qs_eq, qs_nc, qs_ni, qs_nk, bq_l, bq_r, bq_l', bq_r', bq_t, bq_f, bq_t', bq_f', bq_n, bq_m, iT, iS, iN, true_and, and_true, eq_self, not_true_eq_false, not_false_eq_true, forall_const, bx_t, bx_f, reduceCtorEq, Option.some.injEq, forall_eq', ite_true, ite_false]
          exact ih'
      · rw [tS_n (fun h => d h.2)] at ih'
        simp (disch := first | assumption | omega) only [x11, x47, x50, l0, l1, l2, l3, l4, l5, l6, l7, l8, l9, l10, l20, l60, l61, l62, bb_t, bb_f, l100, l120, l512, l400, l401, l700, l9999, nm1, lm1, nlt, nle, neq, glt, gle, lgt, lge, geq, egq, mI_l, mI_e, e_mI, l_mI, le_mI, mI_le, bI_z, nC, vnI, nI_add, nI_sb, nI_mul, a1m, qs_eq, qs_nc, qs_ni, qs_nk, bq_l, bq_r, bq_l', bq_r', bq_t, bq_f, bq_t', bq_f', bq_n, bq_m, iT, iS, iN, true_and, and_true, eq_self, not_true_eq_false, not_false_eq_true, forall_const, bx_t, bx_f, reduceCtorEq, Option.some.injEq, forall_eq', ite_true, ite_false]
        exact ih'
    · rw [tS_n (fun h => c h.1)] at ih'
      simp (disch := first | assumption | omega) only [x11, x47, l0, l1, l2, l3, l4, l5, l6, l7, l8, l9, l10, l20, l60, l61, l62, bb_t, bb_f, l100, l120, l512, l400, l401, l700, l9999, nm1, lm1, nlt, nle, neq, glt, gle, lgt, lge, geq, egq, mI_l, mI_e, e_mI, l_mI, le_mI, mI_le, bI_z, nC, vnI, nI_add, nI_sb, nI_mul, a1m, qs_eq, qs_nc, qs_ni, qs_nk, bq_l, bq_r, bq_l', bq_r', bq_t, bq_f, bq_t', bq_f', bq_n, bq_m, iT, iS, iN, true_and, and_true, eq_self, not_true_eq_false, not_false_eq_true, forall_const, bx_t, bx_f, reduceCtorEq, Option.some.injEq, forall_eq', ite_true, ite_false]
      exact ih'
set_option maxHeartbeats 4000000 in
theorem sl_goes6 {I Hh B t p : Nat} {a b : qa} {post : qa → Prop} (ht : t ≤ 4) (hp : p ≤ 100) (hI6 : I ≤ 6) (h1 : a 11 0 1 = nI Hh) (hD : iD I t p a) (hE : iE t p a) (hF : iF I Hh t p B a) (kk : post (qs (mix b (tS a p Hh (3 * t) t)) 11 0 1 (nI (Hh + 1)))) : ∀ (n s : Nat), s + n = t → wl_X11_goes_6 t p post (n + 1) (nI s) (mix b (tS a p Hh (3 * s) 0)) := by
  intro n
  induction n with
  | zero =>
    intro s hs
    obtain rfl : s = t := by omega
    have x11 : mix b (tS a p Hh (3 * s) 0) 11 0 11 = nI s := hD.2.1
    have x1 : mix b (tS a p Hh (3 * s) 0) 11 0 1 = nI Hh := h1
    unfold wl_X11_goes_6
    simp (disch := first | assumption | omega) only [x11, x1, l0, l1, l2, l3, l4, l5, l6, l7, l8, l9, l10, l20, l60, l61, l62, bb_t, bb_f, l100, l120, l512, l400, l401, l700, l9999, nm1, lm1, nlt, nle, neq, glt, gle, lgt, lge, geq, egq, mI_l, mI_e, e_mI, l_mI, le_mI, mI_le, bI_z, nC, vnI, nI_add, nI_sb, nI_mul, a1m, qs_eq, qs_nc, qs_ni, qs_nk, bq_l, bq_r, bq_l', bq_r', bq_t, bq_f, bq_t', bq_f', bq_n, bq_m, iT, iS, iN, true_and, and_true, eq_self, not_true_eq_false, not_false_eq_true, forall_const, bx_t, bx_f, reduceCtorEq, Option.some.injEq, forall_eq', ite_true, ite_false]
    exact ⟨s + 1, sl_goes55 ht hI6 hD kk s 0 (by omega)⟩
  | succ n ih =>
    intro s hs
    have ih' := ih (s + 1) (by omega)
    have x11 : mix b (tS a p Hh (3 * s) 0) 11 0 11 = nI t := hD.2.1
    have x47 : mix b (tS a p Hh (3 * s) 0) 47 0 s = a 47 0 s := by rw [mx_47, tS_47, vR_n (by omega)]
    unfold wl_X11_goes_6
    by_cases c : a 47 0 s = mI
    · have := sl_tires (s := 0) (post := fun a26 => wl_X11_goes_6 t p post (n + 1) (nI (s + 1)) a26) (b := b) ht hp hI6 (by omega) h1 hD hF c ih' 3 0 (by omega)
      have this' : wl_X11_tires_4 t p (fun a26 => wl_X11_goes_6 t p post (n + 1) (nI (s + 1)) a26) 4 (nI s) (nI (3 * s)) (mix b (tS a p Hh (3 * s) 0)) := this
      simp (disch := first | assumption | omega) only [x11, x47, wp_X11_tires, l0, l1, l2, l3, l4, l5, l6, l7, l8, l9, l10, l20, l60, l61, l62, bb_t, bb_f, l100, l120, l512, l400, l401, l700, l9999, nm1, lm1, nlt, nle, neq, glt, gle, lgt, lge, geq, egq, mI_l, mI_e, e_mI, l_mI, le_mI, mI_le, bI_z, nC, vnI, nI_add, nI_sb, nI_mul, a1m, qs_eq, qs_nc, qs_ni, qs_nk, bq_l, bq_r, bq_l', bq_r', bq_t, bq_f, bq_t', bq_f', bq_n, bq_m, iT, iS, iN, true_and, and_true, eq_self, not_true_eq_false, not_false_eq_true, forall_const, bx_t, bx_f, reduceCtorEq, Option.some.injEq, forall_eq', ite_true, ite_false]
      exact ⟨4, this'⟩
    · have := sl_rests (Hh := Hh) (post := fun a26 => wl_X11_goes_6 t p post (n + 1) (nI (s + 1)) a26) (b := b) ht (by omega) hE c ih' 3 0 (by omega)
      have this' : wl_X11_rests_4 t p (fun a26 => wl_X11_goes_6 t p post (n + 1) (nI (s + 1)) a26) 4 (nI s) (nI (3 * s)) (mix b (tS a p Hh (3 * s) 0)) := this
      simp (disch := first | assumption | omega) only [x11, x47, wp_X11_rests, l0, l1, l2, l3, l4, l5, l6, l7, l8, l9, l10, l20, l60, l61, l62, bb_t, bb_f, l100, l120, l512, l400, l401, l700, l9999, nm1, lm1, nlt, nle, neq, glt, gle, lgt, lge, geq, egq, mI_l, mI_e, e_mI, l_mI, le_mI, mI_le, bI_z, nC, vnI, nI_add, nI_sb, nI_mul, a1m, qs_eq, qs_nc, qs_ni, qs_nk, bq_l, bq_r, bq_l', bq_r', bq_t, bq_f, bq_t', bq_f', bq_n, bq_m, iT, iS, iN, true_and, and_true, eq_self, not_true_eq_false, not_false_eq_true, forall_const, bx_t, bx_f, reduceCtorEq, Option.some.injEq, forall_eq', ite_true, ite_false]
      exact ⟨4, this'⟩
