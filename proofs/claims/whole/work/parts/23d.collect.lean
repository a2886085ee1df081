def sqP (a : qa) (x : Int32) (q : Nat) : Prop := a 58 0 q = nI 0 ∧ a 59 0 q = x ∧ ¬ a 55 0 q = nI 3
def sq (a : qa) (x : Int32) : Nat → Nat × (Nat → Nat)
  | 0 => (0, fun _ => 0)
  | j + 1 => if (a 58 0 j = nI 0 ∧ a 59 0 j = x ∧ ¬ a 55 0 j = nI 3) ∧ (sq a x j).1 < 10 then ((sq a x j).1 + 1, fun i => if i = (sq a x j).1 then j else (sq a x j).2 i) else sq a x j
theorem sq_y {a : qa} {x : Int32} {j : Nat} (h : sqP a x j) (h' : (sq a x j).1 < 10) : sq a x (j + 1) = ((sq a x j).1 + 1, fun i => if i = (sq a x j).1 then j else (sq a x j).2 i) := if_pos ⟨h, h'⟩
theorem sq_n {a : qa} {x : Int32} {j : Nat} (h : ¬ sqP a x j ∨ ¬ (sq a x j).1 < 10) : sq a x (j + 1) = sq a x j := if_neg (fun q => h.elim (fun z => z q.1) (fun z => z q.2))
theorem sq_b {a : qa} {x : Int32} : ∀ j, (sq a x j).1 ≤ 10 ∧ ∀ i, i < (sq a x j).1 → (sq a x j).2 i < j := by
  intro j
  induction j with
  | zero => exact ⟨Nat.zero_le _, fun i hi => by exact absurd hi (Nat.not_lt_zero _)⟩
  | succ j ih =>
    by_cases h : sqP a x j ∧ (sq a x j).1 < 10
    · rw [sq_y h.1 h.2]
      refine ⟨h.2, fun i hi => ?_⟩
      show (if i = (sq a x j).1 then j else (sq a x j).2 i) < j + 1
      have hi' : i < (sq a x j).1 + 1 := hi
      by_cases c : i = (sq a x j).1
      · rw [if_pos c]
        omega
      · rw [if_neg c]
        have := ih.2 i (by omega)
        omega
    · rw [sq_n (by
        by_cases c : sqP a x j
        · exact Or.inr (fun z => h ⟨c, z⟩)
        · exact Or.inl c)]
      exact ⟨ih.1, fun i hi => by have := ih.2 i hi; omega⟩
theorem sq_end {a : qa} {x : Int32} {j : Nat} (h : (sq a x j).1 = 10) : ∀ n, sq a x (j + n) = sq a x j := by
  intro n
  induction n with
  | zero => rfl
  | succ n ih =>
    have : sq a x (j + n + 1) = sq a x (j + n) := sq_n (Or.inr (by rw [ih, h]; decide))
    rw [← ih]
    exact this
def cR (a : qa) (x : Int32) (j : Nat) (X : qa) : Prop := X 1 0 5 = nI (sq a x j).1 ∧ (∀ i, i < (sq a x j).1 → X 17 0 i = nI ((sq a x j).2 i) ∧ X 18 0 i = a 56 0 ((sq a x j).2 i)) ∧ ∀ c, c ≠ 1 → c ≠ 17 → c ≠ 18 → X c = a c
def dR (a : qa) (x : Int32) (j : Nat) (X : qa) : Prop := X 11 0 36 = nI (sq a x j).1 ∧ (∀ i, i < (sq a x j).1 → X 68 0 i = nI ((sq a x j).2 i)) ∧ (∀ k, k ≠ 36 → X 11 0 k = a 11 0 k) ∧ ∀ c, c ≠ 11 → c ≠ 68 → X c = a c
set_option maxHeartbeats 4000000 in
theorem sl_collect {I Hh B t p i m : Nat} {x : Int32} {a : qa} {post : Int32 → qa → Prop} (hp : p ≤ 100) (hF : iF I Hh t p B a) (h1 : a 9 i 1 = x) (kk : ∀ X, cR a x p X → wp_X1_findFor t p (X 3 m 0) X (fun a124 => post (nI 1) a124)) : ∀ (n j : Nat) (X : qa), j + n = p → cR a x j X → wl_X10_findBest_44 t p post (n + 1) i m (nI j) X := by
  intro n
  induction n with
  | zero =>
    intro j X hj h
    obtain rfl : j = p := by omega
    have x9 : X 10 0 9 = nI j := by
      rw [h.2.2 10 (by decide) (by decide) (by decide)]
      exact hF.1
    unfold wl_X10_findBest_44
    simp (disch := first | assumption | omega) only [x9, l0, l1, l2, l3, l4, l5, l6, l7, l8, l9, l10, l20, l60, l61, l62, bb_t, bb_f, l100, l120, l512, l400, l401, l700, l9999, nm1, lm1, nlt, nle, neq, glt, gle, lgt, lge, geq, egq, mI_l, mI_e, e_mI, l_mI, le_mI, mI_le, bI_z, nC, vnI, nI_add, nI_sb, nI_mul, a1m, qs_eq, qs_nc, qs_ni, qs_nk, bq_l, bq_r, bq_l', bq_r', bq_t, bq_f, bq_t', bq_f', bq_n, bq_m, iT, iS, iN, true_and, and_true, eq_self, not_true_eq_false, not_false_eq_true, forall_const, bx_t, bx_f, reduceCtorEq, Option.some.injEq, forall_eq', ite_true, ite_false]
    exact kk X h
  | succ n ih =>
    intro j X hj h
    obtain ⟨q1, q2, q3⟩ := id h
    have x9 : X 10 0 9 = nI p := by
      rw [q3 10 (by decide) (by decide) (by decide)]
      exact hF.1
    have x91 : X 9 i 1 = x := by
      rw [q3 9 (by decide) (by decide) (by decide)]
      exact h1
    obtain ⟨g1, g2, g3, g4, g5, g6, g7, g8, g9, g10, g11⟩ := hF.2.2 j (by omega)
    have x4 : ∀ k, X 4 j k = a 4 j k := by
      intro k
      rw [q3 4 (by decide) (by decide) (by decide)]
    have x44 : X 4 j 4 = a 58 0 j := (x4 4).trans g5
    have x40 : X 4 j 0 = a 55 0 j := (x4 0).trans g1
    have x41 : X 4 j 1 = a 56 0 j := (x4 1).trans g2
    have hsz := (sq_b (a := a) (x := x) j).1
    have no : (¬ sqP a x j ∨ ¬ (sq a x j).1 < 10) → wl_X10_findBest_44 t p post (n + 1) i m (nI (j + 1)) X := by
      intro hn
      refine ih (j + 1) X (by omega) ?_
      unfold cR
      rw [sq_n hn]
      exact h
    unfold wl_X10_findBest_44
    simp (disch := first | assumption | omega) only [x9, l0, l1, l2, l3, l4, l5, l6, l7, l8, l9, l10, l20, l60, l61, l62, bb_t, bb_f, l100, l120, l512, l400, l401, l700, l9999, nm1, lm1, nlt, nle, neq, glt, gle, lgt, lge, geq, egq, mI_l, mI_e, e_mI, l_mI, le_mI, mI_le, bI_z, nC, vnI, nI_add, nI_sb, nI_mul, a1m, qs_eq, qs_nc, qs_ni, qs_nk, bq_l, bq_r, bq_l', bq_r', bq_t, bq_f, bq_t', bq_f', bq_n, bq_m, iT, iS, iN, true_and, and_true, eq_self, not_true_eq_false, not_false_eq_true, forall_const, bx_t, bx_f, reduceCtorEq, Option.some.injEq, forall_eq', ite_true, ite_false]
    refine sp_packAt hp (by omega) x9 ?_
    by_cases c1 : a 58 0 j = nI 0
    · have x45 : X 4 j 5 = a 59 0 j := by
        rw [x4 5]
        rcases g11 with ⟨_, e, _⟩ | ⟨e, _⟩ | ⟨e, _⟩
        · exact e
        · rw [e] at c1
          exact absurd c1 (by decide)
        · rw [e] at c1
          exact absurd c1 (by decide)
      by_cases c2 : a 59 0 j = x
      · by_cases c3 : a 55 0 j = nI 3
        · have := no (Or.inl (fun z => z.2.2 c3))
          simp (disch := first | assumption | omega) only [x44, x45, x91, x40, l0, l1, l2, l3, l4, l5, l6, l7, l8, l9, l10, l20, l60, l61, l62, bb_t, bb_f, l100, l120, l512, l400, l401, l700, l9999, nm1, lm1, nlt, nle, neq, glt, gle, lgt, lge, geq, egq, mI_l, mI_e, e_mI, l_mI, le_mI, mI_le, bI_z, nC, vnI, nI_add, nI_sb, nI_mul, a1m, qs_eq, qs_nc, qs_ni, qs_nk, bq_l, bq_r, bq_l', bq_r', bq_t, bq_f, bq_t', bq_f', bq_n, bq_m, iT, iS, iN, true_and, and_true, eq_self, not_true_eq_false, not_false_eq_true, forall_const, bx_t, bx_f, reduceCtorEq, Option.some.injEq, forall_eq', ite_true, ite_false]
          exact this
        · by_cases c4 : (sq a x j).1 < 10
          · have hs := sq_y (a := a) (x := x) (j := j) ⟨c1, c2, c3⟩ c4
            simp (disch := first | assumption | omega) only [x44, x45, x91, x40, wp_X1_add, q1, x41, l0, l1, l2, l3, l4, l5, l6, l7, l8, l9, l10, l20, l60, l61, l62, bb_t, bb_f, l100, l120, l512, l400, l401, l700, l9999, nm1, lm1, nlt, nle, neq, glt, gle, lgt, lge, geq, egq, mI_l, mI_e, e_mI, l_mI, le_mI, mI_le, bI_z, nC, vnI, nI_add, nI_sb, nI_mul, a1m, qs_eq, qs_nc, qs_ni, qs_nk, bq_l, bq_r, bq_l', bq_r', bq_t, bq_f, bq_t', bq_f', bq_n, bq_m, iT, iS, iN, true_and, and_true, eq_self, not_true_eq_false, not_false_eq_true, forall_const, bx_t, bx_f, reduceCtorEq, Option.some.injEq, forall_eq', ite_true, ite_false]
            refine ih (j + 1) _ (by omega) ?_
            unfold cR
            rw [hs]
            generalize sq a x j = z at *
            refine ⟨rfl, fun i' hi' => ?_, fun c k1 k2 k3 => ?_⟩
            · have hi'' : i' < z.1 + 1 := hi'
              show _ = nI (if i' = z.1 then j else z.2 i') ∧ _ = a 56 0 (if i' = z.1 then j else z.2 i')
              rw [qs_nc (by decide), qs_nc (by decide), qsr, qs_nc (by decide), qsr, qs_nc (by decide)]
              by_cases c : i' = z.1
              · rw [if_pos c, if_pos c, if_pos c]
                exact ⟨rfl, rfl⟩
              · rw [if_neg c, if_neg c, if_neg c]
                exact q2 i' (by omega)
            · rw [← q3 c k1 k2 k3]
              funext i' k'
              rw [qs_nc k1, qs_nc k3, qs_nc k2]
          · have := no (Or.inr c4)
            simp (disch := first | assumption | omega) only [x44, x45, x91, x40, wp_X1_add, q1, x41, l0, l1, l2, l3, l4, l5, l6, l7, l8, l9, l10, l20, l60, l61, l62, bb_t, bb_f, l100, l120, l512, l400, l401, l700, l9999, nm1, lm1, nlt, nle, neq, glt, gle, lgt, lge, geq, egq, mI_l, mI_e, e_mI, l_mI, le_mI, mI_le, bI_z, nC, vnI, nI_add, nI_sb, nI_mul, a1m, qs_eq, qs_nc, qs_ni, qs_nk, bq_l, bq_r, bq_l', bq_r', bq_t, bq_f, bq_t', bq_f', bq_n, bq_m, iT, iS, iN, true_and, and_true, eq_self, not_true_eq_false, not_false_eq_true, forall_const, bx_t, bx_f, reduceCtorEq, Option.some.injEq, forall_eq', ite_true, ite_false]
            exact this
      · have := no (Or.inl (fun z => c2 z.2.1))
        simp (disch := first | assumption | omega) only [x44, x45, x91, l0, l1, l2, l3, l4, l5, l6, l7, l8, l9, l10, l20, l60, l61, l62, bb_t, bb_f, l100, l120, l512, l400, l401, l700, l9999, nm1, lm1, nlt, nle, neq, glt, gle, lgt, lge, geq, egq, mI_l, mI_e, e_mI, l_mI, le_mI, mI_le, bI_z, nC, vnI, nI_add, nI_sb, nI_mul, a1m, qs_eq, qs_nc, qs_ni, qs_nk, bq_l, bq_r, bq_l', bq_r', bq_t, bq_f, bq_t', bq_f', bq_n, bq_m, iT, iS, iN, true_and, and_true, eq_self, not_true_eq_false, not_false_eq_true, forall_const, bx_t, bx_f, reduceCtorEq, Option.some.injEq, forall_eq', ite_true, ite_false]
        exact this
    · have := no (Or.inl (fun z => c1 z.1))
      simp (disch := first | assumption | omega) only [x44, l0, l1, l2, l3, l4, l5, l6, l7, l8, l9, l10, l20, l60, l61, l62, bb_t, bb_f, l100, l120, l512, l400, l401, l700, l9999, nm1, lm1, nlt, nle, neq, glt, gle, lgt, lge, geq, egq, mI_l, mI_e, e_mI, l_mI, le_mI, mI_le, bI_z, nC, vnI, nI_add, nI_sb, nI_mul, a1m, qs_eq, qs_nc, qs_ni, qs_nk, bq_l, bq_r, bq_l', bq_r', bq_t, bq_f, bq_t', bq_f', bq_n, bq_m, iT, iS, iN, true_and, and_true, eq_self, not_true_eq_false, not_false_eq_true, forall_const, bx_t, bx_f, reduceCtorEq, Option.some.injEq, forall_eq', ite_true, ite_false]
      exact this
set_option maxHeartbeats 4000000 in
theorem sl_collectR {t p i : Nat} {x x2 : Int32} {a : qa} {post : Int32 → qa → Prop} (ht : t ≤ 4) (hi : i < t) (hp : p ≤ 100) (h20 : a 11 0 20 = nI p) (h1 : a 47 0 i = x) (kk : ∀ X, dR a x p X → wl_X11_finds_116 t p post (nI i) x2 X) : ∀ (n j : Nat) (X : qa), j + n = p → dR a x j X → wl_X11_finds_36 t p post (n + 1) (nI i) x2 (nI j) X := by
  intro n
  induction n with
  | zero =>
    intro j X hj h
    obtain rfl : j = p := by omega
    have x20 : X 11 0 20 = nI j := (h.2.2.1 20 (by decide)).trans h20
    unfold wl_X11_finds_36
    simp (disch := first | assumption | omega) only [x20, l0, l1, l2, l3, l4, l5, l6, l7, l8, l9, l10, l20, l60, l61, l62, bb_t, bb_f, l100, l120, l512, l400, l401, l700, l9999, nm1, lm1, nlt, nle, neq, glt, gle, lgt, lge, geq, egq, mI_l, mI_e, e_mI, l_mI, le_mI, mI_le, bI_z, nC, vnI, nI_add, nI_sb, nI_mul, a1m, qs_eq, qs_nc, qs_ni, qs_nk, bq_l, bq_r, bq_l', bq_r', bq_t, bq_f, bq_t', bq_f', bq_n, bq_m, iT, iS, iN, true_and, and_true, eq_self, not_true_eq_false, not_false_eq_true, forall_const, bx_t, bx_f, reduceCtorEq, Option.some.injEq, forall_eq', ite_true, ite_false]
    exact kk X h
  | succ n ih =>
    intro j X hj h
    obtain ⟨q1, q2, q3, q4⟩ := id h
    have x20 : X 11 0 20 = nI p := (q3 20 (by decide)).trans h20
    have x58 : X 58 = a 58 := q4 58 (by decide) (by decide)
    have x59 : X 59 = a 59 := q4 59 (by decide) (by decide)
    have x55 : X 55 = a 55 := q4 55 (by decide) (by decide)
    have x47 : X 47 0 i = x := by
      rw [q4 47 (by decide) (by decide)]
      exact h1
    have hsz := (sq_b (a := a) (x := x) j).1
    have no : ¬ sqP a x j → wl_X11_finds_36 t p post (n + 1) (nI i) x2 (nI (j + 1)) X := by
      intro hn
      refine ih (j + 1) X (by omega) ?_
      unfold dR
      rw [sq_n (Or.inl hn)]
      exact h
    unfold wl_X11_finds_36
    by_cases c4 : (sq a x j).1 = 10
    · have := kk X (by
        have e := sq_end c4 (p - j)
        have e' : j + (p - j) = p := by omega
        rw [e'] at e
        unfold dR
        rw [e]
        exact h)
      simp (disch := first | assumption | omega) only [x20, q1, l0, l1, l2, l3, l4, l5, l6, l7, l8, l9, l10, l20, l60, l61, l62, bb_t, bb_f, l100, l120, l512, l400, l401, l700, l9999, nm1, lm1, nlt, nle, neq, glt, gle, lgt, lge, geq, egq, mI_l, mI_e, e_mI, l_mI, le_mI, mI_le, bI_z, nC, vnI, nI_add, nI_sb, nI_mul, a1m, qs_eq, qs_nc, qs_ni, qs_nk, bq_l, bq_r, bq_l', bq_r', bq_t, bq_f, bq_t', bq_f', bq_n, bq_m, iT, iS, iN, true_and, and_true, eq_self, not_true_eq_false, not_false_eq_true, forall_const, bx_t, bx_f, reduceCtorEq, Option.some.injEq, forall_eq', ite_true, ite_false]
      exact this
    by_cases c1 : a 58 0 j = nI 0
    · by_cases c2 : a 59 0 j = x
      · by_cases c3 : a 55 0 j = nI 3
        · have := no (fun z => z.2.2 c3)
          simp (disch := first | assumption | omega) only [x20, q1, x58, x59, x47, x55, l0, l1, l2, l3, l4, l5, l6, l7, l8, l9, l10, l20, l60, l61, l62, bb_t, bb_f, l100, l120, l512, l400, l401, l700, l9999, nm1, lm1, nlt, nle, neq, glt, gle, lgt, lge, geq, egq, mI_l, mI_e, e_mI, l_mI, le_mI, mI_le, bI_z, nC, vnI, nI_add, nI_sb, nI_mul, a1m, qs_eq, qs_nc, qs_ni, qs_nk, bq_l, bq_r, bq_l', bq_r', bq_t, bq_f, bq_t', bq_f', bq_n, bq_m, iT, iS, iN, true_and, and_true, eq_self, not_true_eq_false, not_false_eq_true, forall_const, bx_t, bx_f, reduceCtorEq, Option.some.injEq, forall_eq', ite_true, ite_false]
          exact this
        · have hs := sq_y (a := a) (x := x) (j := j) ⟨c1, c2, c3⟩ (by omega)
          simp (disch := first | assumption | omega) only [x20, q1, x58, x59, x47, x55, l0, l1, l2, l3, l4, l5, l6, l7, l8, l9, l10, l20, l60, l61, l62, bb_t, bb_f, l100, l120, l512, l400, l401, l700, l9999, nm1, lm1, nlt, nle, neq, glt, gle, lgt, lge, geq, egq, mI_l, mI_e, e_mI, l_mI, le_mI, mI_le, bI_z, nC, vnI, nI_add, nI_sb, nI_mul, a1m, qs_eq, qs_nc, qs_ni, qs_nk, bq_l, bq_r, bq_l', bq_r', bq_t, bq_f, bq_t', bq_f', bq_n, bq_m, iT, iS, iN, true_and, and_true, eq_self, not_true_eq_false, not_false_eq_true, forall_const, bx_t, bx_f, reduceCtorEq, Option.some.injEq, forall_eq', ite_true, ite_false]
          refine ih (j + 1) _ (by omega) ?_
          unfold dR
          rw [hs]
          generalize sq a x j = z at *
          refine ⟨rfl, fun i' hi' => ?_, fun k hk => ?_, fun c k1 k2 => ?_⟩
          · have hi'' : i' < z.1 + 1 := hi'
            show _ = nI (if i' = z.1 then j else z.2 i')
            rw [qs_nc (by decide), qsr]
            by_cases c : i' = z.1
            · rw [if_pos c, if_pos c]
            · rw [if_neg c, if_neg c]
              exact q2 i' (by omega)
          · rw [qs_nk hk, qs_nc (by decide)]
            exact q3 k hk
          · rw [← q4 c k1 k2]
            funext i' k'
            rw [qs_nc k1, qs_nc k2]
      · have := no (fun z => c2 z.2.1)
        simp (disch := first | assumption | omega) only [x20, q1, x58, x59, x47, l0, l1, l2, l3, l4, l5, l6, l7, l8, l9, l10, l20, l60, l61, l62, bb_t, bb_f, l100, l120, l512, l400, l401, l700, l9999, nm1, lm1, nlt, nle, neq, glt, gle, lgt, lge, geq, egq, mI_l, mI_e, e_mI, l_mI, le_mI, mI_le, bI_z, nC, vnI, nI_add, nI_sb, nI_mul, a1m, qs_eq, qs_nc, qs_ni, qs_nk, bq_l, bq_r, bq_l', bq_r', bq_t, bq_f, bq_t', bq_f', bq_n, bq_m, iT, iS, iN, true_and, and_true, eq_self, not_true_eq_false, not_false_eq_true, forall_const, bx_t, bx_f, reduceCtorEq, Option.some.injEq, forall_eq', ite_true, ite_false]
        exact this
    · have := no (fun z => c1 z.1)
      simp (disch := first | assumption | omega) only [x20, q1, x58, l0, l1, l2, l3, l4, l5, l6, l7, l8, l9, l10, l20, l60, l61, l62, bb_t, bb_f, l100, l120, l512, l400, l401, l700, l9999, nm1, lm1, nlt, nle, neq, glt, gle, lgt, lge, geq, egq, mI_l, mI_e, e_mI, l_mI, le_mI, mI_le, bI_z, nC, vnI, nI_add, nI_sb, nI_mul, a1m, qs_eq, qs_nc, qs_ni, qs_nk, bq_l, bq_r, bq_l', bq_r', bq_t, bq_f, bq_t', bq_f', bq_n, bq_m, iT, iS, iN, true_and, and_true, eq_self, not_true_eq_false, not_false_eq_true, forall_const, bx_t, bx_f, reduceCtorEq, Option.some.injEq, forall_eq', ite_true, ite_false]
      exact this
