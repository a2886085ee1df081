set_option maxHeartbeats 8000000 in
theorem go_last {I S Hh B T M t p k : Nat} {a : qa} {i L : Nat} {x2 : Int32} (ht : t ≤ 4) (hp : p ≤ 100) (hA : iA I a) (hB : iB I S Hh a) (hC : iC Hh a) (hD : iD I t p a) (hE : iE t p a) (hF : iF I Hh t p B a) (hG : iG Hh p k M a) (hH : iH Hh B a) (hT : iI T a) (hJ : a 10 0 11 = a 11 0 49) (no : Inv t p (k + 1) (qs a 11 0 0 0)) (hi : i < t) (hb : q_isb x2) (hI0 : 1 ≤ I) (href : ∀ (a1 : qa) (post : Int32 → qa → Prop), a1 11 = a 11 → a1 47 = a 47 → wl_X11_go_49 t p post (nI i) x2 (nI L) (qs a1 11 0 0 (nI 0)) → wp_X11_go t p (nI i) x2 a1 post) (hL : L < 2147483648) :
    wl_X10_go_40 t p (fun r a1 => wp_X11_go t p (nI i) x2 a1 fun r' a2 => r = r' ∧ Inv t p (k + 1) a2) x2 i (nI L) a := by
  obtain ⟨a1, a2, a3, a4, a5, a6, a7, a8, a9⟩ := id hA
  obtain ⟨c1, c2, c3⟩ := id hC
  have hB' : iB I S Hh (qs a 11 0 0 (nI 0)) := hB
  have hE' : iE t p (qs a 11 0 0 (nI 0)) := hE
  have hF' : iF I Hh t p B (qs a 11 0 0 (nI 0)) := hF
  have h11' : (qs a 11 0 0 (nI 0)) 11 0 11 = nI t := hD.2.1
  by_cases d0 : I - 1 ≤ L
  · simp (disch := first | assumption | omega) only [wl_X10_go_40, wp_X6_hasLeg, a2, a3, c2, c3, wl_X11_go_49, wp_X11_isLeg, l0, l1, l2, l3, l4, l5, l6, l7, l8, l9, l10, l20, l60, l61, l62, bb_t, bb_f, l100, l120, l512, l400, l401, l700, l9999, nm1, lm1, nlt, nle, neq, glt, gle, lgt, lge, geq, egq, mI_l, mI_e, e_mI, l_mI, le_mI, mI_le, bI_z, nC, vnI, nI_add, nI_sb, nI_mul, a1m, qs_eq, qs_nc, qs_ni, qs_nk, bq_l, bq_r, bq_l', bq_r', bq_t, bq_f, bq_t', bq_f', bq_n, bq_m, iT, iS, iN, true_and, and_true, eq_self, not_true_eq_false, not_false_eq_true, forall_const, bx_t, bx_f, reduceCtorEq, Option.some.injEq, forall_eq', ite_true, ite_false]
    refine href a _ rfl rfl ?_
    simp (disch := first | assumption | omega) only [wl_X10_go_40, wp_X6_hasLeg, a2, a3, c2, c3, wl_X11_go_49, wp_X11_isLeg, l0, l1, l2, l3, l4, l5, l6, l7, l8, l9, l10, l20, l60, l61, l62, bb_t, bb_f, l100, l120, l512, l400, l401, l700, l9999, nm1, lm1, nlt, nle, neq, glt, gle, lgt, lge, geq, egq, mI_l, mI_e, e_mI, l_mI, le_mI, mI_le, bI_z, nC, vnI, nI_add, nI_sb, nI_mul, a1m, qs_eq, qs_nc, qs_ni, qs_nk, bq_l, bq_r, bq_l', bq_r', bq_t, bq_f, bq_t', bq_f', bq_n, bq_m, iT, iS, iN, true_and, and_true, eq_self, not_true_eq_false, not_false_eq_true, forall_const, bx_t, bx_f, reduceCtorEq, Option.some.injEq, forall_eq', ite_true, ite_false]
    exact no
  simp (disch := first | assumption | omega) only [wl_X10_go_40, wp_X6_hasLeg, a2, a3, c2, c3, wl_X11_go_49, wp_X11_isLeg, l0, l1, l2, l3, l4, l5, l6, l7, l8, l9, l10, l20, l60, l61, l62, bb_t, bb_f, l100, l120, l512, l400, l401, l700, l9999, nm1, lm1, nlt, nle, neq, glt, gle, lgt, lge, geq, egq, mI_l, mI_e, e_mI, l_mI, le_mI, mI_le, bI_z, nC, vnI, nI_add, nI_sb, nI_mul, a1m, qs_eq, qs_nc, qs_ni, qs_nk, bq_l, bq_r, bq_l', bq_r', bq_t, bq_f, bq_t', bq_f', bq_n, bq_m, iT, iS, iN, true_and, and_true, eq_self, not_true_eq_false, not_false_eq_true, forall_const, bx_t, bx_f, reduceCtorEq, Option.some.injEq, forall_eq', ite_true, ite_false]
  refine sp_X9_isFit hi hE (fun hf => ?_) (fun hf => ?_)
  rotate_left 1
  · simp (disch := first | assumption | omega) only [l0, l1, l2, l3, l4, l5, l6, l7, l8, l9, l10, l20, l60, l61, l62, bb_t, bb_f, l100, l120, l512, l400, l401, l700, l9999, nm1, lm1, nlt, nle, neq, glt, gle, lgt, lge, geq, egq, mI_l, mI_e, e_mI, l_mI, le_mI, mI_le, bI_z, nC, vnI, nI_add, nI_sb, nI_mul, a1m, qs_eq, qs_nc, qs_ni, qs_nk, bq_l, bq_r, bq_l', bq_r', bq_t, bq_f, bq_t', bq_f', bq_n, bq_m, iT, iS, iN, true_and, and_true, eq_self, not_true_eq_false, not_false_eq_true, forall_const, bx_t, bx_f, reduceCtorEq, Option.some.injEq, forall_eq', ite_true, ite_false]
    refine href a _ rfl rfl ?_
    simp (disch := first | assumption | omega) only [wl_X10_go_40, wp_X6_hasLeg, a2, a3, c2, c3, wl_X11_go_49, wp_X11_isLeg, l0, l1, l2, l3, l4, l5, l6, l7, l8, l9, l10, l20, l60, l61, l62, bb_t, bb_f, l100, l120, l512, l400, l401, l700, l9999, nm1, lm1, nlt, nle, neq, glt, gle, lgt, lge, geq, egq, mI_l, mI_e, e_mI, l_mI, le_mI, mI_le, bI_z, nC, vnI, nI_add, nI_sb, nI_mul, a1m, qs_eq, qs_nc, qs_ni, qs_nk, bq_l, bq_r, bq_l', bq_r', bq_t, bq_f, bq_t', bq_f', bq_n, bq_m, iT, iS, iN, true_and, and_true, eq_self, not_true_eq_false, not_false_eq_true, forall_const, bx_t, bx_f, reduceCtorEq, Option.some.injEq, forall_eq', ite_true, ite_false]
    refine ⟨4, ?_⟩
    exact sl_X11_go66 ht hp hi hE' hF' (fun h => absurd h hf) (fun _ => ⟨rfl, no⟩) 3 0 (by omega) (fun j hj => by omega)
  simp (disch := first | assumption | omega) only [wl_X10_go_40, wp_X6_hasLeg, a2, a3, c2, c3, wl_X11_go_49, wp_X11_isLeg, l0, l1, l2, l3, l4, l5, l6, l7, l8, l9, l10, l20, l60, l61, l62, bb_t, bb_f, l100, l120, l512, l400, l401, l700, l9999, nm1, lm1, nlt, nle, neq, glt, gle, lgt, lge, geq, egq, mI_l, mI_e, e_mI, l_mI, le_mI, mI_le, bI_z, nC, vnI, nI_add, nI_sb, nI_mul, a1m, qs_eq, qs_nc, qs_ni, qs_nk, bq_l, bq_r, bq_l', bq_r', bq_t, bq_f, bq_t', bq_f', bq_n, bq_m, iT, iS, iN, true_and, and_true, eq_self, not_true_eq_false, not_false_eq_true, forall_const, bx_t, bx_f, reduceCtorEq, Option.some.injEq, forall_eq', ite_true, ite_false]
  refine sp_X6_isShut hB (fun q => ?_) (fun q => ?_)
  · simp (disch := first | assumption | omega) only [l0, l1, l2, l3, l4, l5, l6, l7, l8, l9, l10, l20, l60, l61, l62, bb_t, bb_f, l100, l120, l512, l400, l401, l700, l9999, nm1, lm1, nlt, nle, neq, glt, gle, lgt, lge, geq, egq, mI_l, mI_e, e_mI, l_mI, le_mI, mI_le, bI_z, nC, vnI, nI_add, nI_sb, nI_mul, a1m, qs_eq, qs_nc, qs_ni, qs_nk, bq_l, bq_r, bq_l', bq_r', bq_t, bq_f, bq_t', bq_f', bq_n, bq_m, iT, iS, iN, true_and, and_true, eq_self, not_true_eq_false, not_false_eq_true, forall_const, bx_t, bx_f, reduceCtorEq, Option.some.injEq, forall_eq', ite_true, ite_false]
    refine href a _ rfl rfl ?_
    simp (disch := first | assumption | omega) only [wl_X10_go_40, wp_X6_hasLeg, a2, a3, c2, c3, wl_X11_go_49, wp_X11_isLeg, l0, l1, l2, l3, l4, l5, l6, l7, l8, l9, l10, l20, l60, l61, l62, bb_t, bb_f, l100, l120, l512, l400, l401, l700, l9999, nm1, lm1, nlt, nle, neq, glt, gle, lgt, lge, geq, egq, mI_l, mI_e, e_mI, l_mI, le_mI, mI_le, bI_z, nC, vnI, nI_add, nI_sb, nI_mul, a1m, qs_eq, qs_nc, qs_ni, qs_nk, bq_l, bq_r, bq_l', bq_r', bq_t, bq_f, bq_t', bq_f', bq_n, bq_m, iT, iS, iN, true_and, and_true, eq_self, not_true_eq_false, not_false_eq_true, forall_const, bx_t, bx_f, reduceCtorEq, Option.some.injEq, forall_eq', ite_true, ite_false]
    refine ⟨4, ?_⟩
    refine sl_X11_go66 ht hp hi hE' hF' (fun _ => ?_) (fun h => absurd hf h) 3 0 (by omega) (fun j hj => by omega)
    simp (disch := first | assumption | omega) only [wl_X10_go_40, wp_X6_hasLeg, a2, a3, c2, c3, wl_X11_go_49, wp_X11_isLeg, l0, l1, l2, l3, l4, l5, l6, l7, l8, l9, l10, l20, l60, l61, l62, bb_t, bb_f, l100, l120, l512, l400, l401, l700, l9999, nm1, lm1, nlt, nle, neq, glt, gle, lgt, lge, geq, egq, mI_l, mI_e, e_mI, l_mI, le_mI, mI_le, bI_z, nC, vnI, nI_add, nI_sb, nI_mul, a1m, qs_eq, qs_nc, qs_ni, qs_nk, bq_l, bq_r, bq_l', bq_r', bq_t, bq_f, bq_t', bq_f', bq_n, bq_m, iT, iS, iN, true_and, and_true, eq_self, not_true_eq_false, not_false_eq_true, forall_const, bx_t, bx_f, reduceCtorEq, Option.some.injEq, forall_eq', ite_true, ite_false]
    refine sp_X11_isShut hB' (fun q' => ?_) (fun q' => absurd q q')
    simp (disch := first | assumption | omega) only [l0, l1, l2, l3, l4, l5, l6, l7, l8, l9, l10, l20, l60, l61, l62, bb_t, bb_f, l100, l120, l512, l400, l401, l700, l9999, nm1, lm1, nlt, nle, neq, glt, gle, lgt, lge, geq, egq, mI_l, mI_e, e_mI, l_mI, le_mI, mI_le, bI_z, nC, vnI, nI_add, nI_sb, nI_mul, a1m, qs_eq, qs_nc, qs_ni, qs_nk, bq_l, bq_r, bq_l', bq_r', bq_t, bq_f, bq_t', bq_f', bq_n, bq_m, iT, iS, iN, true_and, and_true, eq_self, not_true_eq_false, not_false_eq_true, forall_const, bx_t, bx_f, reduceCtorEq, Option.some.injEq, forall_eq', ite_true, ite_false]
    exact no
  have hn := q_ib hb
  have fin : ∀ (a1 : qa), (∀ c, c ≠ 9 → a1 c = a c) → (¬ a 42 0 L = nI 0 → ¬ tkn a t (nI L)) → (∀ m n, ¬ (m = i ∧ 1 ≤ n ∧ n ≤ 4) → a1 9 m n = a 9 m n) → a1 9 i 1 = mI → a1 9 i 2 = nI L → a1 9 i 3 = x2 → a1 9 i 4 = nI Hh + a 40 0 L → wp_X11_go t p (nI i) x2 a1 fun r' a2 => nI Hh + a 40 0 L = r' ∧ Inv t p (k + 1) a2 := by
    intro a1 ua htk u9 v1 v2 v3 v4
    refine href a1 _ (ua 11 (by decide)) (ua 47 (by decide)) ?_
    have a3' : a1 11 0 2 = nI I := by rw [ua 11 (by decide)]; exact a3
    have c3' : a1 11 0 1 = nI Hh := by rw [ua 11 (by decide)]; exact c3
    have hE1 : iE t p (qs a1 11 0 0 (nI 0)) := hE.cg (ua 3 (by decide)) (ua 51 (by decide)) (ua 52 (by decide)) (ua 53 (by decide)) (ua 54 (by decide)) (ua 56 (by decide)) (ua 58 (by decide)) (ua 60 (by decide)) (ua 61 (by decide))
    have hF1 : iF I Hh t p B (qs a1 11 0 0 (nI 0)) := hF.cg (congrFun (congrFun (ua 10 (by decide)) 0) 9) (congrFun (congrFun (ua 11 (by decide)) 0) 20) (ua 4 (by decide)) (ua 47 (by decide)) (ua 55 (by decide)) (ua 56 (by decide)) (ua 57 (by decide)) (ua 58 (by decide)) (ua 59 (by decide)) (ua 60 (by decide)) (ua 61 (by decide)) (ua 62 (by decide)) (ua 63 (by decide)) (ua 64 (by decide)) (ua 72 (by decide)) (ua 73 (by decide)) (ua 74 (by decide)) (ua 75 (by decide)) (ua 76 (by decide)) (ua 77 (by decide)) (ua 78 (by decide))
    have hB1 : iB I S Hh (qs a1 11 0 0 (nI 0)) := hB.cg (congrFun (congrFun (ua 6 (by decide)) 0) 8) (congrFun (congrFun (ua 11 (by decide)) 0) 6) (ua 28 (by decide)) (ua 29 (by decide)) (ua 30 (by decide)) (ua 31 (by decide)) (ua 43 (by decide)) (ua 44 (by decide)) (ua 45 (by decide)) (ua 46 (by decide))
    have h11 : (qs a1 11 0 0 (nI 0)) 11 0 11 = nI t := (congrFun (congrFun (ua 11 (by decide)) 0) 11).trans hD.2.1
    have e3 : (qs a1 11 0 0 (nI 0)) 3 = a 3 := ua 3 (by decide)
    have e53 : (qs a1 11 0 0 (nI 0)) 53 = a 53 := ua 53 (by decide)
    have hf' : ∀ j, j < 3 → fitM (qs a1 11 0 0 (nI 0)) (3 * i + j) := by
      intro j hj
      have := hf j hj
      unfold fitM at this ⊢
      rw [e3, e53]
      exact this
    have es : ∀ x y z, shE (qs a1 11 0 0 (nI 0)) S x y z = shE a S x y z := fun x y z => shE_cg (ua 43 (by decide)) (ua 44 (by decide)) (ua 45 (by decide)) (ua 46 (by decide))
    have e48 : (qs a1 11 0 0 (nI 0)) 48 = a 48 := ua 48 (by decide)
    have e42 : (qs a1 11 0 0 (nI 0)) 42 = a 42 := ua 42 (by decide)
    have e40 : (qs a1 11 0 0 (nI 0)) 40 = a 40 := ua 40 (by decide)
    have e11 : (qs a1 11 0 0 (nI 0)) 11 0 1 = nI Hh := c3'
    have et : tkn (qs a1 11 0 0 (nI 0)) t (nI L) = tkn a t (nI L) := by
      unfold tkn
      rw [e48]
    simp (disch := first | assumption | omega) only [wl_X11_go_49, wp_X11_isLeg, a3', l0, l1, l2, l3, l4, l5, l6, l7, l8, l9, l10, l20, l60, l61, l62, bb_t, bb_f, l100, l120, l512, l400, l401, l700, l9999, nm1, lm1, nlt, nle, neq, glt, gle, lgt, lge, geq, egq, mI_l, mI_e, e_mI, l_mI, le_mI, mI_le, bI_z, nC, vnI, nI_add, nI_sb, nI_mul, a1m, qs_eq, qs_nc, qs_ni, qs_nk, bq_l, bq_r, bq_l', bq_r', bq_t, bq_f, bq_t', bq_f', bq_n, bq_m, iT, iS, iN, true_and, and_true, eq_self, not_true_eq_false, not_false_eq_true, forall_const, bx_t, bx_f, reduceCtorEq, Option.some.injEq, forall_eq', ite_true, ite_false]
    refine ⟨4, ?_⟩
    refine sl_X11_go66 ht hp hi hE1 hF1 (fun _ => ?_) (fun h => absurd hf' h) 3 0 (by omega) (fun j hj => by omega)
    rw [e11]
    refine sp_X11_isShut hB1 (fun q' => absurd ((es _ _ _).mp q') q) (fun q' => ?_)
    simp (disch := first | assumption | omega) only [l0, l1, l2, l3, l4, l5, l6, l7, l8, l9, l10, l20, l60, l61, l62, bb_t, bb_f, l100, l120, l512, l400, l401, l700, l9999, nm1, lm1, nlt, nle, neq, glt, gle, lgt, lge, geq, egq, mI_l, mI_e, e_mI, l_mI, le_mI, mI_le, bI_z, nC, vnI, nI_add, nI_sb, nI_mul, a1m, qs_eq, qs_nc, qs_ni, qs_nk, bq_l, bq_r, bq_l', bq_r', bq_t, bq_f, bq_t', bq_f', bq_n, bq_m, iT, iS, iN, true_and, and_true, eq_self, not_true_eq_false, not_false_eq_true, forall_const, bx_t, bx_f, reduceCtorEq, Option.some.injEq, forall_eq', ite_true, ite_false]
    refine ⟨t + 1, ?_⟩
    refine sl_X11_go136 ht hi (by omega) h11 (fun z1 z2 => ?_) (fun z => ?_) t 0 (by omega) (fun _ s hs => by omega)
    · rw [e42] at z1
      rw [et] at z2
      exact absurd z2 (htk z1)
    · rw [e11, e40, hn]
      refine ⟨rfl, ?_⟩
      refine go_inv (a := a) (i := i) (L := L) (x2 := x2) (v := nI Hh + a 40 0 L) hA hB hC hD hE hF hG hH hT hJ hb (by omega) ?_ ?_ ?_ ?_ ?_ ?_ ?_ ?_ ?_ ?_ ?_
      · intro c h9 h11 h47 h48 h49 h50
        rw [← ua c h9]
        funext m n
        rw [qs_nc h50, qs_nc h49, qs_nc h48, qs_nc h47, qs_nc h11]
      · intro n hn0
        rw [← ua 11 (by decide)]
        rw [qs_nc (by decide), qs_nc (by decide), qs_nc (by decide), qs_nc (by decide), qs_nk hn0]
      · intro m n h
        rw [← u9 m n h]
        rw [qs_nc (by decide), qs_nc (by decide), qs_nc (by decide), qs_nc (by decide), qs_nc (by decide)]
      · exact v1
      · exact v2
      · exact v3
      · exact v4
      · intro m
        rw [← ua 47 (by decide)]
        rw [qs_nc (by decide), qs_nc (by decide), qs_nc (by decide), qsr, qs_nc (by decide)]
      · intro m
        rw [← ua 48 (by decide)]
        rw [qs_nc (by decide), qs_nc (by decide), qsr, qs_nc (by decide), qs_nc (by decide)]
      · intro m
        rw [← ua 49 (by decide)]
        rw [qs_nc (by decide), qsr, qs_nc (by decide), qs_nc (by decide), qs_nc (by decide)]
      · intro m
        rw [← ua 50 (by decide)]
        rw [qsr, qs_nc (by decide), qs_nc (by decide), qs_nc (by decide), qs_nc (by decide)]
  have fin' : (¬ a 42 0 L = nI 0 → ¬ tkn a t (nI L)) → wl_X10_go_114 t p (fun r a1 => wp_X11_go t p (nI i) x2 a1 fun r' a2 => r = r' ∧ Inv t p (k + 1) a2) x2 i (nI L) a := by
    intro htk
    simp (disch := first | assumption | omega) only [wl_X10_go_114, wp_X6_hoursOf, wp_X6_hasLeg, wp_X9_leave, a2, a4, c2, l0, l1, l2, l3, l4, l5, l6, l7, l8, l9, l10, l20, l60, l61, l62, bb_t, bb_f, l100, l120, l512, l400, l401, l700, l9999, nm1, lm1, nlt, nle, neq, glt, gle, lgt, lge, geq, egq, mI_l, mI_e, e_mI, l_mI, le_mI, mI_le, bI_z, nC, vnI, nI_add, nI_sb, nI_mul, a1m, qs_eq, qs_nc, qs_ni, qs_nk, bq_l, bq_r, bq_l', bq_r', bq_t, bq_f, bq_t', bq_f', bq_n, bq_m, iT, iS, iN, true_and, and_true, eq_self, not_true_eq_false, not_false_eq_true, forall_const, bx_t, bx_f, reduceCtorEq, Option.some.injEq, forall_eq', ite_true, ite_false]
    refine ⟨hb, ?_⟩
    refine fin _ ?_ htk ?_ ?_ ?_ ?_ ?_
    · intro c hc
      funext m n
      rw [qs_nc hc, qs_nc hc, qs_nc hc, qs_nc hc]
    · intro m n h
      by_cases e : m = i
      · rw [qs_nk (by omega), qs_nk (by omega), qs_nk (by omega), qs_nk (by omega)]
      · rw [qs_ni e, qs_ni e, qs_ni e, qs_ni e]
    · rw [qs_nk (by decide), qs_nk (by decide), qs_nk (by decide), qs_eq]
    · rw [qs_nk (by decide), qs_nk (by decide), qs_eq]
    · rw [qs_nk (by decide), qs_eq]
    · rw [qs_eq]
  have e2 : ∀ s, s < t → a 9 s 2 = a 48 0 s := fun s hs => (hD.2.2 s hs).2.1
  by_cases d1 : a 42 0 L = nI 0
  · have := fin' (fun h => absurd d1 h)
    simp (disch := first | assumption | omega) only [wp_X6_isLedge, wp_X6_hasLeg, a2, a6, l0, l1, l2, l3, l4, l5, l6, l7, l8, l9, l10, l20, l60, l61, l62, bb_t, bb_f, l100, l120, l512, l400, l401, l700, l9999, nm1, lm1, nlt, nle, neq, glt, gle, lgt, lge, geq, egq, mI_l, mI_e, e_mI, l_mI, le_mI, mI_le, bI_z, nC, vnI, nI_add, nI_sb, nI_mul, a1m, qs_eq, qs_nc, qs_ni, qs_nk, bq_l, bq_r, bq_l', bq_r', bq_t, bq_f, bq_t', bq_f', bq_n, bq_m, iT, iS, iN, true_and, and_true, eq_self, not_true_eq_false, not_false_eq_true, forall_const, bx_t, bx_f, reduceCtorEq, Option.some.injEq, forall_eq', ite_true, ite_false]
    exact this
  simp (disch := first | assumption | omega) only [wp_X6_isLedge, wp_X6_hasLeg, a2, a6, wp_X10_isTaken, l0, l1, l2, l3, l4, l5, l6, l7, l8, l9, l10, l20, l60, l61, l62, bb_t, bb_f, l100, l120, l512, l400, l401, l700, l9999, nm1, lm1, nlt, nle, neq, glt, gle, lgt, lge, geq, egq, mI_l, mI_e, e_mI, l_mI, le_mI, mI_le, bI_z, nC, vnI, nI_add, nI_sb, nI_mul, a1m, qs_eq, qs_nc, qs_ni, qs_nk, bq_l, bq_r, bq_l', bq_r', bq_t, bq_f, bq_t', bq_f', bq_n, bq_m, iT, iS, iN, true_and, and_true, eq_self, not_true_eq_false, not_false_eq_true, forall_const, bx_t, bx_f, reduceCtorEq, Option.some.injEq, forall_eq', ite_true, ite_false]
  refine ⟨5, ?_⟩
  refine sl_X10_isTaken ht e2 (fun q2 => ?_) (fun q2 => ?_) 4 0 (by omega) (fun s hs => by omega)
  · simp (disch := first | assumption | omega) only [l0, l1, l2, l3, l4, l5, l6, l7, l8, l9, l10, l20, l60, l61, l62, bb_t, bb_f, l100, l120, l512, l400, l401, l700, l9999, nm1, lm1, nlt, nle, neq, glt, gle, lgt, lge, geq, egq, mI_l, mI_e, e_mI, l_mI, le_mI, mI_le, bI_z, nC, vnI, nI_add, nI_sb, nI_mul, a1m, qs_eq, qs_nc, qs_ni, qs_nk, bq_l, bq_r, bq_l', bq_r', bq_t, bq_f, bq_t', bq_f', bq_n, bq_m, iT, iS, iN, true_and, and_true, eq_self, not_true_eq_false, not_false_eq_true, forall_const, bx_t, bx_f, reduceCtorEq, Option.some.injEq, forall_eq', ite_true, ite_false]
    refine href a _ rfl rfl ?_
    simp (disch := first | assumption | omega) only [wl_X11_go_49, wp_X11_isLeg, a3, l0, l1, l2, l3, l4, l5, l6, l7, l8, l9, l10, l20, l60, l61, l62, bb_t, bb_f, l100, l120, l512, l400, l401, l700, l9999, nm1, lm1, nlt, nle, neq, glt, gle, lgt, lge, geq, egq, mI_l, mI_e, e_mI, l_mI, le_mI, mI_le, bI_z, nC, vnI, nI_add, nI_sb, nI_mul, a1m, qs_eq, qs_nc, qs_ni, qs_nk, bq_l, bq_r, bq_l', bq_r', bq_t, bq_f, bq_t', bq_f', bq_n, bq_m, iT, iS, iN, true_and, and_true, eq_self, not_true_eq_false, not_false_eq_true, forall_const, bx_t, bx_f, reduceCtorEq, Option.some.injEq, forall_eq', ite_true, ite_false]
    refine ⟨4, ?_⟩
    refine sl_X11_go66 ht hp hi hE' hF' (fun _ => ?_) (fun h => absurd hf h) 3 0 (by omega) (fun j hj => by omega)
    simp (disch := first | assumption | omega) only [c3, l0, l1, l2, l3, l4, l5, l6, l7, l8, l9, l10, l20, l60, l61, l62, bb_t, bb_f, l100, l120, l512, l400, l401, l700, l9999, nm1, lm1, nlt, nle, neq, glt, gle, lgt, lge, geq, egq, mI_l, mI_e, e_mI, l_mI, le_mI, mI_le, bI_z, nC, vnI, nI_add, nI_sb, nI_mul, a1m, qs_eq, qs_nc, qs_ni, qs_nk, bq_l, bq_r, bq_l', bq_r', bq_t, bq_f, bq_t', bq_f', bq_n, bq_m, iT, iS, iN, true_and, and_true, eq_self, not_true_eq_false, not_false_eq_true, forall_const, bx_t, bx_f, reduceCtorEq, Option.some.injEq, forall_eq', ite_true, ite_false]
    refine sp_X11_isShut hB' (fun q' => absurd q' q) (fun q' => ?_)
    simp (disch := first | assumption | omega) only [l0, l1, l2, l3, l4, l5, l6, l7, l8, l9, l10, l20, l60, l61, l62, bb_t, bb_f, l100, l120, l512, l400, l401, l700, l9999, nm1, lm1, nlt, nle, neq, glt, gle, lgt, lge, geq, egq, mI_l, mI_e, e_mI, l_mI, le_mI, mI_le, bI_z, nC, vnI, nI_add, nI_sb, nI_mul, a1m, qs_eq, qs_nc, qs_ni, qs_nk, bq_l, bq_r, bq_l', bq_r', bq_t, bq_f, bq_t', bq_f', bq_n, bq_m, iT, iS, iN, true_and, and_true, eq_self, not_true_eq_false, not_false_eq_true, forall_const, bx_t, bx_f, reduceCtorEq, Option.some.injEq, forall_eq', ite_true, ite_false]
    refine ⟨t + 1, ?_⟩
    refine sl_X11_go136 ht hi (by omega) h11' (fun z1 z2 => ?_) (fun z => absurd q2 (z d1)) t 0 (by omega) (fun _ s hs => by omega)
    exact ⟨rfl, no⟩
  · have := fin' (fun _ => q2)
    simp (disch := first | assumption | omega) only [l0, l1, l2, l3, l4, l5, l6, l7, l8, l9, l10, l20, l60, l61, l62, bb_t, bb_f, l100, l120, l512, l400, l401, l700, l9999, nm1, lm1, nlt, nle, neq, glt, gle, lgt, lge, geq, egq, mI_l, mI_e, e_mI, l_mI, le_mI, mI_le, bI_z, nC, vnI, nI_add, nI_sb, nI_mul, a1m, qs_eq, qs_nc, qs_ni, qs_nk, bq_l, bq_r, bq_l', bq_r', bq_t, bq_f, bq_t', bq_f', bq_n, bq_m, iT, iS, iN, true_and, and_true, eq_self, not_true_eq_false, not_false_eq_true, forall_const, bx_t, bx_f, reduceCtorEq, Option.some.injEq, forall_eq', ite_true, ite_false]
    exact this
set_option maxHeartbeats 4000000 in
theorem pr_go : ob_go Inv := by
  intro t p k a x1 x2 hk ht hp hb hI
  obtain ⟨I, S, Hh, B, T, M, hA, hB, hC, hD, hE, hF, hG, hH, hT, hJ⟩ := id hI
  have no : Inv t p (k + 1) (qs a 11 0 0 0) := hI.th 0
  have h11' : (qs a 11 0 0 (nI 0)) 11 0 11 = nI t := hD.2.1
  have hI6 := hA.1
  have a2 := hA.2.1
  have a3 := hA.2.2.1
  unfold wp_X10_go
  rcases inN x1 t with ⟨i, hi, rfl⟩ | hx
  rotate_left 1
  · refine sp_trainAt0 ht hx hD.1 ?_
    simp (disch := first | assumption | omega) only [wp_X11_go, l0, l1, l2, l3, l4, l5, l6, l7, l8, l9, l10, l20, l60, l61, l62, bb_t, bb_f, l100, l120, l512, l400, l401, l700, l9999, nm1, lm1, nlt, nle, neq, glt, gle, lgt, lge, geq, egq, mI_l, mI_e, e_mI, l_mI, le_mI, mI_le, bI_z, nC, vnI, nI_add, nI_sb, nI_mul, a1m, qs_eq, qs_nc, qs_ni, qs_nk, bq_l, bq_r, bq_l', bq_r', bq_t, bq_f, bq_t', bq_f', bq_n, bq_m, iT, iS, iN, true_and, and_true, eq_self, not_true_eq_false, not_false_eq_true, forall_const, bx_t, bx_f, reduceCtorEq, Option.some.injEq, forall_eq', ite_true, ite_false]
    refine sp_isString0 ht hx h11' ?_
    simp (disch := first | assumption | omega) only [l0, l1, l2, l3, l4, l5, l6, l7, l8, l9, l10, l20, l60, l61, l62, bb_t, bb_f, l100, l120, l512, l400, l401, l700, l9999, nm1, lm1, nlt, nle, neq, glt, gle, lgt, lge, geq, egq, mI_l, mI_e, e_mI, l_mI, le_mI, mI_le, bI_z, nC, vnI, nI_add, nI_sb, nI_mul, a1m, qs_eq, qs_nc, qs_ni, qs_nk, bq_l, bq_r, bq_l', bq_r', bq_t, bq_f, bq_t', bq_f', bq_n, bq_m, iT, iS, iN, true_and, and_true, eq_self, not_true_eq_false, not_false_eq_true, forall_const, bx_t, bx_f, reduceCtorEq, Option.some.injEq, forall_eq', ite_true, ite_false]
    exact no
  refine sp_trainAt ht hi hD.1 ?_
  obtain ⟨t1, t2, t3, t4⟩ := hD.2.2 i hi
  rcases t4 with ⟨r0, hr0, q1, q2, q3⟩ | ⟨q1, _⟩
  · by_cases cx : x2 = nI 0
    · by_cases r00 : r0 = 0
      · subst r00
        have em : nI 0 - nI 1 = mI := rfl
        have eml : mI < nI 0 := by decide
        simp (disch := first | assumption | omega) only [t1, q1, em, wl_X10_go_40, wp_X6_hasLeg, l0, l1, l2, l3, l4, l5, l6, l7, l8, l9, l10, l20, l60, l61, l62, bb_t, bb_f, l100, l120, l512, l400, l401, l700, l9999, nm1, lm1, nlt, nle, neq, glt, gle, lgt, lge, geq, egq, mI_l, mI_e, e_mI, l_mI, le_mI, mI_le, bI_z, nC, vnI, nI_add, nI_sb, nI_mul, a1m, qs_eq, qs_nc, qs_ni, qs_nk, bq_l, bq_r, bq_l', bq_r', bq_t, bq_f, bq_t', bq_f', bq_n, bq_m, iT, iS, iN, true_and, and_true, eq_self, not_true_eq_false, not_false_eq_true, forall_const, bx_t, bx_f, reduceCtorEq, Option.some.injEq, forall_eq', ite_true, ite_false]
        simp (disch := first | assumption | omega) only [wp_X11_go, wp_X11_isString, hD.2.1, q1, em, wl_X11_go_49, wp_X11_isLeg, l0, l1, l2, l3, l4, l5, l6, l7, l8, l9, l10, l20, l60, l61, l62, bb_t, bb_f, l100, l120, l512, l400, l401, l700, l9999, nm1, lm1, nlt, nle, neq, glt, gle, lgt, lge, geq, egq, mI_l, mI_e, e_mI, l_mI, le_mI, mI_le, bI_z, nC, vnI, nI_add, nI_sb, nI_mul, a1m, qs_eq, qs_nc, qs_ni, qs_nk, bq_l, bq_r, bq_l', bq_r', bq_t, bq_f, bq_t', bq_f', bq_n, bq_m, iT, iS, iN, true_and, and_true, eq_self, not_true_eq_false, not_false_eq_true, forall_const, bx_t, bx_f, reduceCtorEq, Option.some.injEq, forall_eq', ite_true, ite_false]
        exact no
      · have := go_last (i := i) (L := r0 - 1) (x2 := x2) ht hp hA hB hC hD hE hF hG hH hT hJ no hi hb (by omega) (fun a1 post h1 h47 hw => by
          have z1 : a1 11 0 11 = nI t := by rw [h1]; exact hD.2.1
          have z2 : a1 47 0 i = nI r0 := by rw [h47]; exact q1
          simp (disch := first | assumption | omega) only [wp_X11_go, wp_X11_isString, z1, z2, l0, l1, l2, l3, l4, l5, l6, l7, l8, l9, l10, l20, l60, l61, l62, bb_t, bb_f, l100, l120, l512, l400, l401, l700, l9999, nm1, lm1, nlt, nle, neq, glt, gle, lgt, lge, geq, egq, mI_l, mI_e, e_mI, l_mI, le_mI, mI_le, bI_z, nC, vnI, nI_add, nI_sb, nI_mul, a1m, qs_eq, qs_nc, qs_ni, qs_nk, bq_l, bq_r, bq_l', bq_r', bq_t, bq_f, bq_t', bq_f', bq_n, bq_m, iT, iS, iN, true_and, and_true, eq_self, not_true_eq_false, not_false_eq_true, forall_const, bx_t, bx_f, reduceCtorEq, Option.some.injEq, forall_eq', ite_true, ite_false]
          exact hw) (by omega)
        simp (disch := first | assumption | omega) only [t1, q1, l0, l1, l2, l3, l4, l5, l6, l7, l8, l9, l10, l20, l60, l61, l62, bb_t, bb_f, l100, l120, l512, l400, l401, l700, l9999, nm1, lm1, nlt, nle, neq, glt, gle, lgt, lge, geq, egq, mI_l, mI_e, e_mI, l_mI, le_mI, mI_le, bI_z, nC, vnI, nI_add, nI_sb, nI_mul, a1m, qs_eq, qs_nc, qs_ni, qs_nk, bq_l, bq_r, bq_l', bq_r', bq_t, bq_f, bq_t', bq_f', bq_n, bq_m, iT, iS, iN, true_and, and_true, eq_self, not_true_eq_false, not_false_eq_true, forall_const, bx_t, bx_f, reduceCtorEq, Option.some.injEq, forall_eq', ite_true, ite_false]
        exact this
    · have := go_last (i := i) (L := r0) (x2 := x2) ht hp hA hB hC hD hE hF hG hH hT hJ no hi hb (by omega) (fun a1 post h1 h47 hw => by
          have z1 : a1 11 0 11 = nI t := by rw [h1]; exact hD.2.1
          have z2 : a1 47 0 i = nI r0 := by rw [h47]; exact q1
          simp (disch := first | assumption | omega) only [wp_X11_go, wp_X11_isString, z1, z2, l0, l1, l2, l3, l4, l5, l6, l7, l8, l9, l10, l20, l60, l61, l62, bb_t, bb_f, l100, l120, l512, l400, l401, l700, l9999, nm1, lm1, nlt, nle, neq, glt, gle, lgt, lge, geq, egq, mI_l, mI_e, e_mI, l_mI, le_mI, mI_le, bI_z, nC, vnI, nI_add, nI_sb, nI_mul, a1m, qs_eq, qs_nc, qs_ni, qs_nk, bq_l, bq_r, bq_l', bq_r', bq_t, bq_f, bq_t', bq_f', bq_n, bq_m, iT, iS, iN, true_and, and_true, eq_self, not_true_eq_false, not_false_eq_true, forall_const, bx_t, bx_f, reduceCtorEq, Option.some.injEq, forall_eq', ite_true, ite_false]
          exact hw) (by omega)
      simp (disch := first | assumption | omega) only [t1, q1, l0, l1, l2, l3, l4, l5, l6, l7, l8, l9, l10, l20, l60, l61, l62, bb_t, bb_f, l100, l120, l512, l400, l401, l700, l9999, nm1, lm1, nlt, nle, neq, glt, gle, lgt, lge, geq, egq, mI_l, mI_e, e_mI, l_mI, le_mI, mI_le, bI_z, nC, vnI, nI_add, nI_sb, nI_mul, a1m, qs_eq, qs_nc, qs_ni, qs_nk, bq_l, bq_r, bq_l', bq_r', bq_t, bq_f, bq_t', bq_f', bq_n, bq_m, iT, iS, iN, true_and, and_true, eq_self, not_true_eq_false, not_false_eq_true, forall_const, bx_t, bx_f, reduceCtorEq, Option.some.injEq, forall_eq', ite_true, ite_false]
      exact this
  · simp (disch := first | assumption | omega) only [t1, q1, l0, l1, l2, l3, l4, l5, l6, l7, l8, l9, l10, l20, l60, l61, l62, bb_t, bb_f, l100, l120, l512, l400, l401, l700, l9999, nm1, lm1, nlt, nle, neq, glt, gle, lgt, lge, geq, egq, mI_l, mI_e, e_mI, l_mI, le_mI, mI_le, bI_z, nC, vnI, nI_add, nI_sb, nI_mul, a1m, qs_eq, qs_nc, qs_ni, qs_nk, bq_l, bq_r, bq_l', bq_r', bq_t, bq_f, bq_t', bq_f', bq_n, bq_m, iT, iS, iN, true_and, and_true, eq_self, not_true_eq_false, not_false_eq_true, forall_const, bx_t, bx_f, reduceCtorEq, Option.some.injEq, forall_eq', ite_true, ite_false]
    simp (disch := first | assumption | omega) only [wp_X11_go, wp_X11_isString, hD.2.1, q1, l0, l1, l2, l3, l4, l5, l6, l7, l8, l9, l10, l20, l60, l61, l62, bb_t, bb_f, l100, l120, l512, l400, l401, l700, l9999, nm1, lm1, nlt, nle, neq, glt, gle, lgt, lge, geq, egq, mI_l, mI_e, e_mI, l_mI, le_mI, mI_le, bI_z, nC, vnI, nI_add, nI_sb, nI_mul, a1m, qs_eq, qs_nc, qs_ni, qs_nk, bq_l, bq_r, bq_l', bq_r', bq_t, bq_f, bq_t', bq_f', bq_n, bq_m, iT, iS, iN, true_and, and_true, eq_self, not_true_eq_false, not_false_eq_true, forall_const, bx_t, bx_f, reduceCtorEq, Option.some.injEq, forall_eq', ite_true, ite_false]
    exact no
set_option maxHeartbeats 4000000 in
theorem pr_end : ob_end Inv := by
  intro t p k a x1 hk ht hp hI
  obtain ⟨I, S, Hh, B, T, M, hA, hB, hC, hD, hE, hF, hG, hH, ⟨t1, t2, t3, t4⟩, hJ⟩ := id hI
  have no : Inv t p (k + 1) (qs a 11 0 0 0) := hI.th 0
  rcases i32c x1 with g1 | ⟨y1, h1, rfl⟩
  · simp (disch := first | assumption | omega) only [wp_X10_end, wp_X11_end, l0, l1, l2, l3, l4, l5, l6, l7, l8, l9, l10, l20, l60, l61, l62, bb_t, bb_f, l100, l120, l512, l400, l401, l700, l9999, nm1, lm1, nlt, nle, neq, glt, gle, lgt, lge, geq, egq, mI_l, mI_e, e_mI, l_mI, le_mI, mI_le, bI_z, nC, vnI, nI_add, nI_sb, nI_mul, a1m, qs_eq, qs_nc, qs_ni, qs_nk, bq_l, bq_r, bq_l', bq_r', bq_t, bq_f, bq_t', bq_f', bq_n, bq_m, iT, iS, iN, true_and, and_true, eq_self, not_true_eq_false, not_false_eq_true, forall_const, bx_t, bx_f, reduceCtorEq, Option.some.injEq, forall_eq', ite_true, ite_false]
    exact no
  by_cases c : T < y1
  · simp (disch := first | assumption | omega) only [wp_X10_end, wp_X11_end, t2, t3, l0, l1, l2, l3, l4, l5, l6, l7, l8, l9, l10, l20, l60, l61, l62, bb_t, bb_f, l100, l120, l512, l400, l401, l700, l9999, nm1, lm1, nlt, nle, neq, glt, gle, lgt, lge, geq, egq, mI_l, mI_e, e_mI, l_mI, le_mI, mI_le, bI_z, nC, vnI, nI_add, nI_sb, nI_mul, a1m, qs_eq, qs_nc, qs_ni, qs_nk, bq_l, bq_r, bq_l', bq_r', bq_t, bq_f, bq_t', bq_f', bq_n, bq_m, iT, iS, iN, true_and, and_true, eq_self, not_true_eq_false, not_false_eq_true, forall_const, bx_t, bx_f, reduceCtorEq, Option.some.injEq, forall_eq', ite_true, ite_false]
    exact no
  simp (disch := first | assumption | omega) only [wp_X10_end, wp_X11_end, t2, t3, l0, l1, l2, l3, l4, l5, l6, l7, l8, l9, l10, l20, l60, l61, l62, bb_t, bb_f, l100, l120, l512, l400, l401, l700, l9999, nm1, lm1, nlt, nle, neq, glt, gle, lgt, lge, geq, egq, mI_l, mI_e, e_mI, l_mI, le_mI, mI_le, bI_z, nC, vnI, nI_add, nI_sb, nI_mul, a1m, qs_eq, qs_nc, qs_ni, qs_nk, bq_l, bq_r, bq_l', bq_r', bq_t, bq_f, bq_t', bq_f', bq_n, bq_m, iT, iS, iN, true_and, and_true, eq_self, not_true_eq_false, not_false_eq_true, forall_const, bx_t, bx_f, reduceCtorEq, Option.some.injEq, forall_eq', ite_true, ite_false]
  exact ⟨I, S, Hh, B, y1, M, hA, hB, hC, hD, hE, hF, hG.k, hH, ⟨by omega, rfl, rfl, fun j hj => t4 j (by omega)⟩, hJ⟩
