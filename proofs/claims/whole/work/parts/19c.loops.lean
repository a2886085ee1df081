def ldA (a : qa) (m : Nat) (q : Nat) : Int32 := if a 58 0 q = 1 ∧ a 60 0 q = nI m then a 56 0 q else 0
def stN (a : qa) (x : Int32) (q : Nat) : Int32 := if a 58 0 q = x then 1 else 0
theorem sl_X11_packsOn {t p i : Nat} {a : qa} {post : Int32 → qa → Prop} (hp : p ≤ 100) (h20 : a 11 0 20 = nI p) (kk : post (sumN (ldT a i) p) a) : ∀ (m j : Nat), j + m = p → wl_X11_packsOn_4 t p post (m + 1) (nI i) (sumN (ldT a i) j) (nI j) a := by
  intro m
  induction m with
  | zero =>
    intro j hj
    obtain rfl : j = p := by omega
    simp (disch := first | assumption | omega) only [wl_X11_packsOn_4, h20, l0, l1, l2, l3, l4, l5, l6, l7, l8, l9, l10, l20, l60, l61, l62, bb_t, bb_f, l100, l120, l512, l400, l401, l700, l9999, nm1, lm1, nlt, nle, neq, glt, gle, lgt, lge, geq, egq, mI_l, mI_e, e_mI, l_mI, le_mI, mI_le, bI_z, nC, vnI, nI_add, nI_sb, nI_mul, a1m, qs_eq, qs_nc, qs_ni, qs_nk, bq_l, bq_r, bq_l', bq_r', bq_t, bq_f, bq_t', bq_f', bq_n, bq_m, iT, iS, iN, true_and, and_true, eq_self, not_true_eq_false, not_false_eq_true, forall_const, bx_t, bx_f, reduceCtorEq, Option.some.injEq, forall_eq', ite_true, ite_false]
    exact kk
  | succ m ih =>
    intro j hj
    have ih' := ih (j + 1) (by omega)
    simp only [sumN, ldT] at ih'
    unfold wl_X11_packsOn_4
    simp (disch := first | assumption | omega) only [h20, l0, l1, l2, l3, l4, l5, l6, l7, l8, l9, l10, l20, l60, l61, l62, bb_t, bb_f, l100, l120, l512, l400, l401, l700, l9999, nm1, lm1, nlt, nle, neq, glt, gle, lgt, lge, geq, egq, mI_l, mI_e, e_mI, l_mI, le_mI, mI_le, bI_z, nC, vnI, nI_add, nI_sb, nI_mul, a1m, qs_eq, qs_nc, qs_ni, qs_nk, bq_l, bq_r, bq_l', bq_r', bq_t, bq_f, bq_t', bq_f', bq_n, bq_m, iT, iS, iN, true_and, and_true, eq_self, not_true_eq_false, not_false_eq_true, forall_const, bx_t, bx_f, reduceCtorEq, Option.some.injEq, forall_eq', ite_true, ite_false]
    refine ⟨fun c => ?_, fun c => ⟨fun d => ?_, fun d => ?_⟩⟩
    · rw [if_neg (fun q => c q.1), az] at ih'
      exact ih'
    · rw [if_neg (fun q => d q.2), az] at ih'
      exact ih'
    · rw [if_pos ⟨c, d⟩] at ih'
      exact ih'
theorem sp_X11_packsOn {t p i : Nat} {a : qa} {post : Int32 → qa → Prop} (hp : p ≤ 100) (h20 : a 11 0 20 = nI p) (kk : post (sumN (ldT a i) p) a) : wp_X11_packsOn t p (nI i) a post :=
  ⟨p + 1, sl_X11_packsOn hp h20 kk p 0 (by omega)⟩
theorem sl_X11_many {t p : Nat} {x : Int32} {a : qa} {post : Int32 → qa → Prop} (hp : p ≤ 100) (h20 : a 11 0 20 = nI p) (kk : post (sumN (stN a x) p) a) : ∀ (m j : Nat), j + m = p → wl_X11_many_4 t p post (m + 1) x (sumN (stN a x) j) (nI j) a := by
  intro m
  induction m with
  | zero =>
    intro j hj
    obtain rfl : j = p := by omega
    simp (disch := first | assumption | omega) only [wl_X11_many_4, h20, l0, l1, l2, l3, l4, l5, l6, l7, l8, l9, l10, l20, l60, l61, l62, bb_t, bb_f, l100, l120, l512, l400, l401, l700, l9999, nm1, lm1, nlt, nle, neq, glt, gle, lgt, lge, geq, egq, mI_l, mI_e, e_mI, l_mI, le_mI, mI_le, bI_z, nC, vnI, nI_add, nI_sb, nI_mul, a1m, qs_eq, qs_nc, qs_ni, qs_nk, bq_l, bq_r, bq_l', bq_r', bq_t, bq_f, bq_t', bq_f', bq_n, bq_m, iT, iS, iN, true_and, and_true, eq_self, not_true_eq_false, not_false_eq_true, forall_const, bx_t, bx_f, reduceCtorEq, Option.some.injEq, forall_eq', ite_true, ite_false]
    exact kk
  | succ m ih =>
    intro j hj
    have ih' := ih (j + 1) (by omega)
    simp only [sumN, stN] at ih'
    unfold wl_X11_many_4
    simp (disch := first | assumption | omega) only [h20, l0, l1, l2, l3, l4, l5, l6, l7, l8, l9, l10, l20, l60, l61, l62, bb_t, bb_f, l100, l120, l512, l400, l401, l700, l9999, nm1, lm1, nlt, nle, neq, glt, gle, lgt, lge, geq, egq, mI_l, mI_e, e_mI, l_mI, le_mI, mI_le, bI_z, nC, vnI, nI_add, nI_sb, nI_mul, a1m, qs_eq, qs_nc, qs_ni, qs_nk, bq_l, bq_r, bq_l', bq_r', bq_t, bq_f, bq_t', bq_f', bq_n, bq_m, iT, iS, iN, true_and, and_true, eq_self, not_true_eq_false, not_false_eq_true, forall_const, bx_t, bx_f, reduceCtorEq, Option.some.injEq, forall_eq', ite_true, ite_false]
    refine ⟨fun c => ?_, fun c => ?_⟩
    · rw [if_neg c, az] at ih'
      exact ih'
    · rw [if_pos c] at ih'
      exact ih'
theorem sp_X11_many {t p : Nat} {x : Int32} {a : qa} {post : Int32 → qa → Prop} (hp : p ≤ 100) (h20 : a 11 0 20 = nI p) (kk : post (sumN (stN a x) p) a) : wp_X11_many t p x a post :=
  ⟨p + 1, sl_X11_many hp h20 kk p 0 (by omega)⟩
theorem sl_X11_loadA {t p i : Nat} {a : qa} {post : Int32 → qa → Prop} (hp : p ≤ 100) (h20 : a 11 0 20 = nI p) (kk : post (sumN (ldA a i) p) a) : ∀ (m j : Nat), j + m = p → wl_X11_load_5 t p post (m + 1) (nI i) (nI 3) (sumN (ldA a i) j) (nI j) a := by
  intro m
  induction m with
  | zero =>
    intro j hj
    obtain rfl : j = p := by omega
    simp (disch := first | assumption | omega) only [wl_X11_load_5, h20, l0, l1, l2, l3, l4, l5, l6, l7, l8, l9, l10, l20, l60, l61, l62, bb_t, bb_f, l100, l120, l512, l400, l401, l700, l9999, nm1, lm1, nlt, nle, neq, glt, gle, lgt, lge, geq, egq, mI_l, mI_e, e_mI, l_mI, le_mI, mI_le, bI_z, nC, vnI, nI_add, nI_sb, nI_mul, a1m, qs_eq, qs_nc, qs_ni, qs_nk, bq_l, bq_r, bq_l', bq_r', bq_t, bq_f, bq_t', bq_f', bq_n, bq_m, iT, iS, iN, true_and, and_true, eq_self, not_true_eq_false, not_false_eq_true, forall_const, bx_t, bx_f, reduceCtorEq, Option.some.injEq, forall_eq', ite_true, ite_false]
    exact kk
  | succ m ih =>
    intro j hj
    have ih' := ih (j + 1) (by omega)
    simp only [sumN, ldA] at ih'
    unfold wl_X11_load_5
    simp (disch := first | assumption | omega) only [h20, wl_X11_load_52, l0, l1, l2, l3, l4, l5, l6, l7, l8, l9, l10, l20, l60, l61, l62, bb_t, bb_f, l100, l120, l512, l400, l401, l700, l9999, nm1, lm1, nlt, nle, neq, glt, gle, lgt, lge, geq, egq, mI_l, mI_e, e_mI, l_mI, le_mI, mI_le, bI_z, nC, vnI, nI_add, nI_sb, nI_mul, a1m, qs_eq, qs_nc, qs_ni, qs_nk, bq_l, bq_r, bq_l', bq_r', bq_t, bq_f, bq_t', bq_f', bq_n, bq_m, iT, iS, iN, true_and, and_true, eq_self, not_true_eq_false, not_false_eq_true, forall_const, bx_t, bx_f, reduceCtorEq, Option.some.injEq, forall_eq', ite_true, ite_false]
    refine ⟨fun c => ?_, fun c => ⟨fun d => ?_, fun d => ?_⟩⟩
    · rw [if_neg (fun q => c q.1), az] at ih'
      exact ih'
    · rw [if_neg (fun q => d q.2), az] at ih'
      exact ih'
    · rw [if_pos ⟨c, d⟩] at ih'
      exact ih'
theorem sp_X11_loadA {t p i : Nat} {a : qa} {post : Int32 → qa → Prop} (hp : p ≤ 100) (h20 : a 11 0 20 = nI p) (kk : post (sumN (ldA a i) p) a) : wp_X11_load t p (nI i) (nI 3) a post :=
  ⟨p + 1, sl_X11_loadA hp h20 kk p 0 (by omega)⟩
theorem sl_X11_loadS {t p i : Nat} {x : Int32} {a : qa} {post : Int32 → qa → Prop} (hx : ¬ x = nI 3) (hp : p ≤ 100) (h20 : a 11 0 20 = nI p) (kk : post (sumN (ldW a i x) p) a) : ∀ (m j : Nat), j + m = p → wl_X11_load_5 t p post (m + 1) (nI i) x (sumN (ldW a i x) j) (nI j) a := by
  intro m
  induction m with
  | zero =>
    intro j hj
    obtain rfl : j = p := by omega
    simp (disch := first | assumption | omega) only [wl_X11_load_5, h20, l0, l1, l2, l3, l4, l5, l6, l7, l8, l9, l10, l20, l60, l61, l62, bb_t, bb_f, l100, l120, l512, l400, l401, l700, l9999, nm1, lm1, nlt, nle, neq, glt, gle, lgt, lge, geq, egq, mI_l, mI_e, e_mI, l_mI, le_mI, mI_le, bI_z, nC, vnI, nI_add, nI_sb, nI_mul, a1m, qs_eq, qs_nc, qs_ni, qs_nk, bq_l, bq_r, bq_l', bq_r', bq_t, bq_f, bq_t', bq_f', bq_n, bq_m, iT, iS, iN, true_and, and_true, eq_self, not_true_eq_false, not_false_eq_true, forall_const, bx_t, bx_f, reduceCtorEq, Option.some.injEq, forall_eq', ite_true, ite_false]
    exact kk
  | succ m ih =>
    intro j hj
    have ih' := ih (j + 1) (by omega)
    simp only [sumN, ldW] at ih'
    unfold wl_X11_load_5
    simp (disch := first | assumption | omega) only [h20, wl_X11_load_52, l0, l1, l2, l3, l4, l5, l6, l7, l8, l9, l10, l20, l60, l61, l62, bb_t, bb_f, l100, l120, l512, l400, l401, l700, l9999, nm1, lm1, nlt, nle, neq, glt, gle, lgt, lge, geq, egq, mI_l, mI_e, e_mI, l_mI, le_mI, mI_le, bI_z, nC, vnI, nI_add, nI_sb, nI_mul, a1m, qs_eq, qs_nc, qs_ni, qs_nk, bq_l, bq_r, bq_l', bq_r', bq_t, bq_f, bq_t', bq_f', bq_n, bq_m, iT, iS, iN, true_and, and_true, eq_self, not_true_eq_false, not_false_eq_true, forall_const, bx_t, bx_f, reduceCtorEq, Option.some.injEq, forall_eq', ite_true, ite_false]
    refine ⟨fun c => ?_, fun c => ⟨fun d => ?_, fun d => ⟨fun e => ?_, fun e => ?_⟩⟩⟩
    · rw [if_neg (fun q => c q.1), az] at ih'
      exact ih'
    · rw [if_neg (fun q => d q.2.1), az] at ih'
      exact ih'
    · rw [if_neg (fun q => e q.2.2), az] at ih'
      exact ih'
    · rw [if_pos ⟨c, d, e⟩] at ih'
      exact ih'
theorem sp_X11_loadS {t p i : Nat} {x : Int32} {a : qa} {post : Int32 → qa → Prop} (hx : ¬ x = nI 3) (hp : p ≤ 100) (h20 : a 11 0 20 = nI p) (kk : post (sumN (ldW a i x) p) a) : wp_X11_load t p (nI i) x a post :=
  ⟨p + 1, sl_X11_loadS hx hp h20 kk p 0 (by omega)⟩
theorem sl_X11_top {t p i : Nat} {a : qa} {post : Int32 → qa → Prop} (hp : p ≤ 100) (h20 : a 11 0 20 = nI p) (k1 : ∀ q, q < p → onM a i 2 q → post (nI q) a) (k0 : (∀ q, q < p → ¬ onM a i 2 q) → post mI a) : ∀ (m j : Nat), j + m = p → (∀ q, q < j → ¬ onM a i 2 q) → wl_X11_top_2 t p post (m + 1) (nI i) (nI j) a := by
  intro m
  induction m with
  | zero =>
    intro j hj hn
    obtain rfl : j = p := by omega
    simp (disch := first | assumption | omega) only [wl_X11_top_2, h20, l0, l1, l2, l3, l4, l5, l6, l7, l8, l9, l10, l20, l60, l61, l62, bb_t, bb_f, l100, l120, l512, l400, l401, l700, l9999, nm1, lm1, nlt, nle, neq, glt, gle, lgt, lge, geq, egq, mI_l, mI_e, e_mI, l_mI, le_mI, mI_le, bI_z, nC, vnI, nI_add, nI_sb, nI_mul, a1m, qs_eq, qs_nc, qs_ni, qs_nk, bq_l, bq_r, bq_l', bq_r', bq_t, bq_f, bq_t', bq_f', bq_n, bq_m, iT, iS, iN, true_and, and_true, eq_self, not_true_eq_false, not_false_eq_true, forall_const, bx_t, bx_f, reduceCtorEq, Option.some.injEq, forall_eq', ite_true, ite_false]
    exact k0 hn
  | succ m ih =>
    intro j hj hn
    by_cases hP : onM a i 2 j
    · have h1 := k1 j (by omega) hP
      obtain ⟨p1, p2, p3⟩ := hP
      simp only [l1, l2] at p1 p2 p3
      unfold wl_X11_top_2
      simp (disch := first | assumption | omega) only [h20, l0, l1, l2, l3, l4, l5, l6, l7, l8, l9, l10, l20, l60, l61, l62, bb_t, bb_f, l100, l120, l512, l400, l401, l700, l9999, nm1, lm1, nlt, nle, neq, glt, gle, lgt, lge, geq, egq, mI_l, mI_e, e_mI, l_mI, le_mI, mI_le, bI_z, nC, vnI, nI_add, nI_sb, nI_mul, a1m, qs_eq, qs_nc, qs_ni, qs_nk, bq_l, bq_r, bq_l', bq_r', bq_t, bq_f, bq_t', bq_f', bq_n, bq_m, iT, iS, iN, true_and, and_true, eq_self, not_true_eq_false, not_false_eq_true, forall_const, bx_t, bx_f, reduceCtorEq, Option.some.injEq, forall_eq', ite_true, ite_false]
      exact h1
    · have ih' := ih (j + 1) (by omega) (fun i hi => by
        by_cases q : i = j
        · subst q
          exact hP
        · exact hn i (by omega))
      unfold wl_X11_top_2
      simp (disch := first | assumption | omega) only [h20, l0, l1, l2, l3, l4, l5, l6, l7, l8, l9, l10, l20, l60, l61, l62, bb_t, bb_f, l100, l120, l512, l400, l401, l700, l9999, nm1, lm1, nlt, nle, neq, glt, gle, lgt, lge, geq, egq, mI_l, mI_e, e_mI, l_mI, le_mI, mI_le, bI_z, nC, vnI, nI_add, nI_sb, nI_mul, a1m, qs_eq, qs_nc, qs_ni, qs_nk, bq_l, bq_r, bq_l', bq_r', bq_t, bq_f, bq_t', bq_f', bq_n, bq_m, iT, iS, iN, true_and, and_true, eq_self, not_true_eq_false, not_false_eq_true, forall_const, bx_t, bx_f, reduceCtorEq, Option.some.injEq, forall_eq', ite_true, ite_false]
      refine ⟨fun _ => ih', fun p1 => ⟨fun _ => ih', fun p2 => ⟨fun _ => ih', fun p3 => absurd ⟨p1, p2, p3⟩ hP⟩⟩⟩
theorem sp_X11_top {t p i : Nat} {a : qa} {post : Int32 → qa → Prop} (hp : p ≤ 100) (h20 : a 11 0 20 = nI p) (k1 : ∀ q, q < p → onM a i 2 q → post (nI q) a) (k0 : (∀ q, q < p → ¬ onM a i 2 q) → post mI a) : wp_X11_top t p (nI i) a post :=
  ⟨p + 1, sl_X11_top hp h20 k1 k0 p 0 (by omega) (fun q h => by omega)⟩
theorem sl_X11_bargainOf {t p B q : Nat} {a : qa} {post : Int32 → qa → Prop} (hq : q < 100) (hB : B ≤ 10) (h50 : a 11 0 50 = nI B) (kk : post (bgO a (a 62 0 q) B) a) : ∀ (m j : Nat), j + m = B → wl_X11_bargainOf_4 t p post (m + 1) (nI q) (bgO a (a 62 0 q) j) (nI j) a := by
  intro m
  induction m with
  | zero =>
    intro j hj
    obtain rfl : j = B := by omega
    simp (disch := first | assumption | omega) only [wl_X11_bargainOf_4, h50, l0, l1, l2, l3, l4, l5, l6, l7, l8, l9, l10, l20, l60, l61, l62, bb_t, bb_f, l100, l120, l512, l400, l401, l700, l9999, nm1, lm1, nlt, nle, neq, glt, gle, lgt, lge, geq, egq, mI_l, mI_e, e_mI, l_mI, le_mI, mI_le, bI_z, nC, vnI, nI_add, nI_sb, nI_mul, a1m, qs_eq, qs_nc, qs_ni, qs_nk, bq_l, bq_r, bq_l', bq_r', bq_t, bq_f, bq_t', bq_f', bq_n, bq_m, iT, iS, iN, true_and, and_true, eq_self, not_true_eq_false, not_false_eq_true, forall_const, bx_t, bx_f, reduceCtorEq, Option.some.injEq, forall_eq', ite_true, ite_false]
    exact kk
  | succ m ih =>
    intro j hj
    have ih' := ih (j + 1) (by omega)
    simp only [bgO, lstN] at ih'
    unfold wl_X11_bargainOf_4
    simp (disch := first | assumption | omega) only [h50, l0, l1, l2, l3, l4, l5, l6, l7, l8, l9, l10, l20, l60, l61, l62, bb_t, bb_f, l100, l120, l512, l400, l401, l700, l9999, nm1, lm1, nlt, nle, neq, glt, gle, lgt, lge, geq, egq, mI_l, mI_e, e_mI, l_mI, le_mI, mI_le, bI_z, nC, vnI, nI_add, nI_sb, nI_mul, a1m, qs_eq, qs_nc, qs_ni, qs_nk, bq_l, bq_r, bq_l', bq_r', bq_t, bq_f, bq_t', bq_f', bq_n, bq_m, iT, iS, iN, true_and, and_true, eq_self, not_true_eq_false, not_false_eq_true, forall_const, bx_t, bx_f, reduceCtorEq, Option.some.injEq, forall_eq', ite_true, ite_false]
    refine ⟨fun c => ?_, fun c => ?_⟩
    · rw [if_neg (by rw [decide_eq_true_eq]; exact fun d => absurd c (Int32.not_lt.mpr d))] at ih'
      exact ih'
    · rw [if_pos (by rw [decide_eq_true_eq]; exact Int32.not_lt.mp c)] at ih'
      exact ih'
theorem sp_X11_bargainOf {t p B q : Nat} {a : qa} {post : Int32 → qa → Prop} (hq : q < 100) (hB : B ≤ 10) (h50 : a 11 0 50 = nI B) (kk : post (bgO a (a 62 0 q) B) a) : wp_X11_bargainOf t p (nI q) a post :=
  ⟨B + 1, sl_X11_bargainOf hq hB h50 kk B 0 (by omega)⟩
theorem nm (j : Nat) : nI (j + 1) + mI = nI j := by
  have : nI (j + 1) = nI j + nI 1 := (nI_add j 1).symm
  rw [this, Int32.add_assoc]
  exact Int32.add_zero _
theorem z1 : nI 0 - nI 1 = mI := rfl
theorem sl_X10_bargainIn {t p B : Nat} {x : Int32} {a : qa} {post : Int32 → qa → Prop} (hB : B ≤ 10) (e7 : ∀ b, b < B → a 0 b 7 = a 72 0 b) (kk : post (bgO a x B) a) : ∀ (m : Nat), m ≤ B → bgO a x m = bgO a x B → wl_X10_bargainIn_7 t p post (m + 1) x (nI m - nI 1) a := by
  intro m
  induction m with
  | zero =>
    intro hj he
    unfold wl_X10_bargainIn_7
    simp (disch := first | assumption | omega) only [z1, l0, l1, l2, l3, l4, l5, l6, l7, l8, l9, l10, l20, l60, l61, l62, bb_t, bb_f, l100, l120, l512, l400, l401, l700, l9999, nm1, lm1, nlt, nle, neq, glt, gle, lgt, lge, geq, egq, mI_l, mI_e, e_mI, l_mI, le_mI, mI_le, bI_z, nC, vnI, nI_add, nI_sb, nI_mul, a1m, qs_eq, qs_nc, qs_ni, qs_nk, bq_l, bq_r, bq_l', bq_r', bq_t, bq_f, bq_t', bq_f', bq_n, bq_m, iT, iS, iN, true_and, and_true, eq_self, not_true_eq_false, not_false_eq_true, forall_const, bx_t, bx_f, reduceCtorEq, Option.some.injEq, forall_eq', ite_true, ite_false]
    rw [← he] at kk
    exact kk
  | succ m ih =>
    intro hj he
    simp only [bgO, lstN] at he
    unfold wl_X10_bargainIn_7
    have e0 : nI (m + 1) - nI 1 = nI m := nI_pred m
    have em : nI m + mI = nI m - nI 1 := (Int32.sub_eq_add_neg (nI m) (nI 1)).symm
    rw [e0]
    simp (disch := first | assumption | omega) only [e7, l0, l1, l2, l3, l4, l5, l6, l7, l8, l9, l10, l20, l60, l61, l62, bb_t, bb_f, l100, l120, l512, l400, l401, l700, l9999, nm1, lm1, nlt, nle, neq, glt, gle, lgt, lge, geq, egq, mI_l, mI_e, e_mI, l_mI, le_mI, mI_le, bI_z, nC, vnI, nI_add, nI_sb, nI_mul, a1m, qs_eq, qs_nc, qs_ni, qs_nk, bq_l, bq_r, bq_l', bq_r', bq_t, bq_f, bq_t', bq_f', bq_n, bq_m, iT, iS, iN, true_and, and_true, eq_self, not_true_eq_false, not_false_eq_true, forall_const, bx_t, bx_f, reduceCtorEq, Option.some.injEq, forall_eq', ite_true, ite_false]
    refine ⟨fun c => ?_, fun c => ?_⟩
    · rw [if_neg (by rw [decide_eq_true_eq]; exact fun d => absurd c (Int32.not_lt.mpr d))] at he
      rw [em]
      exact ih (by omega) he
    · rw [if_pos (by rw [decide_eq_true_eq]; exact Int32.not_lt.mp c)] at he
      rw [he]
      exact kk
theorem sp_X10_bargainIn {t p B Hh : Nat} {x : Int32} {a : qa} {post : Int32 → qa → Prop} (hH : iH Hh B a) (kk : post (bgO a x B) a) : wp_X10_bargainIn t p x a post := by
  refine ⟨B + 1, ?_⟩
  rw [hH.2.1]
  exact sl_X10_bargainIn hH.1 (fun b hb => (hH.2.2.2 b hb).1) kk B (by omega) rfl
theorem sl_X10_packsThatAre {t p : Nat} {x : Int32} {a : qa} {post : Int32 → qa → Prop} (hp : p ≤ 100) (e4 : ∀ q, q < p → a 4 q 4 = a 58 0 q) (kk : post (sumN (stN a x) p) a) : ∀ (m j : Nat), j + m = 100 → wl_X10_packsThatAre_4 t p post (m + 1) x (sumN (stN a x) (min j p)) (nI j) a := by
  intro m
  induction m with
  | zero =>
    intro j hj
    have e : min j p = p := by omega
    rw [e]
    simp (disch := first | assumption | omega) only [wl_X10_packsThatAre_4, l0, l1, l2, l3, l4, l5, l6, l7, l8, l9, l10, l20, l60, l61, l62, bb_t, bb_f, l100, l120, l512, l400, l401, l700, l9999, nm1, lm1, nlt, nle, neq, glt, gle, lgt, lge, geq, egq, mI_l, mI_e, e_mI, l_mI, le_mI, mI_le, bI_z, nC, vnI, nI_add, nI_sb, nI_mul, a1m, qs_eq, qs_nc, qs_ni, qs_nk, bq_l, bq_r, bq_l', bq_r', bq_t, bq_f, bq_t', bq_f', bq_n, bq_m, iT, iS, iN, true_and, and_true, eq_self, not_true_eq_false, not_false_eq_true, forall_const, bx_t, bx_f, reduceCtorEq, Option.some.injEq, forall_eq', ite_true, ite_false]
    exact kk
  | succ m ih =>
    intro j hj
    have ih' := ih (j + 1) (by omega)
    unfold wl_X10_packsThatAre_4
    by_cases hjp : j < p
    · have e : min (j + 1) p = j + 1 := by omega
      have e' : min j p = j := by omega
      rw [e] at ih'
      rw [e']
      simp only [sumN, stN] at ih'
      simp (disch := first | assumption | omega) only [if_pos, e4, l0, l1, l2, l3, l4, l5, l6, l7, l8, l9, l10, l20, l60, l61, l62, bb_t, bb_f, l100, l120, l512, l400, l401, l700, l9999, nm1, lm1, nlt, nle, neq, glt, gle, lgt, lge, geq, egq, mI_l, mI_e, e_mI, l_mI, le_mI, mI_le, bI_z, nC, vnI, nI_add, nI_sb, nI_mul, a1m, qs_eq, qs_nc, qs_ni, qs_nk, bq_l, bq_r, bq_l', bq_r', bq_t, bq_f, bq_t', bq_f', bq_n, bq_m, iT, iS, iN, true_and, and_true, eq_self, not_true_eq_false, not_false_eq_true, forall_const, bx_t, bx_f, reduceCtorEq, Option.some.injEq, forall_eq', ite_true, ite_false]
      refine ⟨fun c => ?_, fun c => ?_⟩
      · rw [if_neg c, az] at ih'
        exact ih'
      · rw [if_pos c] at ih'
        exact ih'
    · have e : min (j + 1) p = p := by omega
      have e' : min j p = p := by omega
      rw [e] at ih'
      rw [e']
      simp (disch := first | assumption | omega) only [if_neg, l0, l1, l2, l3, l4, l5, l6, l7, l8, l9, l10, l20, l60, l61, l62, bb_t, bb_f, l100, l120, l512, l400, l401, l700, l9999, nm1, lm1, nlt, nle, neq, glt, gle, lgt, lge, geq, egq, mI_l, mI_e, e_mI, l_mI, le_mI, mI_le, bI_z, nC, vnI, nI_add, nI_sb, nI_mul, a1m, qs_eq, qs_nc, qs_ni, qs_nk, bq_l, bq_r, bq_l', bq_r', bq_t, bq_f, bq_t', bq_f', bq_n, bq_m, iT, iS, iN, true_and, and_true, eq_self, not_true_eq_false, not_false_eq_true, forall_const, bx_t, bx_f, reduceCtorEq, Option.some.injEq, forall_eq', ite_true, ite_false]
      exact ih'
theorem sp_X10_packsThatAre {t p : Nat} {x : Int32} {a : qa} {post : Int32 → qa → Prop} (hp : p ≤ 100) (e4 : ∀ q, q < p → a 4 q 4 = a 58 0 q) (kk : post (sumN (stN a x) p) a) : wp_X10_packsThatAre t p x a post := by
  refine ⟨101, ?_⟩
  have := sl_X10_packsThatAre (t := t) hp e4 kk 100 0 (by omega)
  rw [Nat.zero_min] at this
  exact this
theorem sl_X10_payOfAll {t p : Nat} {a : qa} {post : Int32 → qa → Prop} (hp : p ≤ 100) (kk : post (sumN (fun q => a 4 q 9) p) a) : ∀ (m j : Nat), j + m = 100 → wl_X10_payOfAll_4 t p post (m + 1) (sumN (fun q => a 4 q 9) (min j p)) (nI j) a := by
  intro m
  induction m with
  | zero =>
    intro j hj
    have e : min j p = p := by omega
    rw [e]
    simp (disch := first | assumption | omega) only [wl_X10_payOfAll_4, l0, l1, l2, l3, l4, l5, l6, l7, l8, l9, l10, l20, l60, l61, l62, bb_t, bb_f, l100, l120, l512, l400, l401, l700, l9999, nm1, lm1, nlt, nle, neq, glt, gle, lgt, lge, geq, egq, mI_l, mI_e, e_mI, l_mI, le_mI, mI_le, bI_z, nC, vnI, nI_add, nI_sb, nI_mul, a1m, qs_eq, qs_nc, qs_ni, qs_nk, bq_l, bq_r, bq_l', bq_r', bq_t, bq_f, bq_t', bq_f', bq_n, bq_m, iT, iS, iN, true_and, and_true, eq_self, not_true_eq_false, not_false_eq_true, forall_const, bx_t, bx_f, reduceCtorEq, Option.some.injEq, forall_eq', ite_true, ite_false]
    exact kk
  | succ m ih =>
    intro j hj
    have ih' := ih (j + 1) (by omega)
    unfold wl_X10_payOfAll_4
    by_cases hjp : j < p
    · have e : min (j + 1) p = j + 1 := by omega
      have e' : min j p = j := by omega
      rw [e] at ih'
      rw [e']
      simp only [sumN] at ih'
      simp (disch := first | assumption | omega) only [if_pos, l0, l1, l2, l3, l4, l5, l6, l7, l8, l9, l10, l20, l60, l61, l62, bb_t, bb_f, l100, l120, l512, l400, l401, l700, l9999, nm1, lm1, nlt, nle, neq, glt, gle, lgt, lge, geq, egq, mI_l, mI_e, e_mI, l_mI, le_mI, mI_le, bI_z, nC, vnI, nI_add, nI_sb, nI_mul, a1m, qs_eq, qs_nc, qs_ni, qs_nk, bq_l, bq_r, bq_l', bq_r', bq_t, bq_f, bq_t', bq_f', bq_n, bq_m, iT, iS, iN, true_and, and_true, eq_self, not_true_eq_false, not_false_eq_true, forall_const, bx_t, bx_f, reduceCtorEq, Option.some.injEq, forall_eq', ite_true, ite_false]
      exact ih'
    · have e : min (j + 1) p = p := by omega
      have e' : min j p = p := by omega
      rw [e] at ih'
      rw [e']
      simp (disch := first | assumption | omega) only [if_neg, l0, l1, l2, l3, l4, l5, l6, l7, l8, l9, l10, l20, l60, l61, l62, bb_t, bb_f, l100, l120, l512, l400, l401, l700, l9999, nm1, lm1, nlt, nle, neq, glt, gle, lgt, lge, geq, egq, mI_l, mI_e, e_mI, l_mI, le_mI, mI_le, bI_z, nC, vnI, nI_add, nI_sb, nI_mul, a1m, qs_eq, qs_nc, qs_ni, qs_nk, bq_l, bq_r, bq_l', bq_r', bq_t, bq_f, bq_t', bq_f', bq_n, bq_m, iT, iS, iN, true_and, and_true, eq_self, not_true_eq_false, not_false_eq_true, forall_const, bx_t, bx_f, reduceCtorEq, Option.some.injEq, forall_eq', ite_true, ite_false]
      exact ih'
theorem sp_X10_payOfAll {t p : Nat} {a : qa} {post : Int32 → qa → Prop} (hp : p ≤ 100) (kk : post (sumN (fun q => a 4 q 9) p) a) : wp_X10_payOfAll t p a post := by
  refine ⟨101, ?_⟩
  have := sl_X10_payOfAll (t := t) hp kk 100 0 (by omega)
  rw [Nat.zero_min] at this
  exact this
