set_option maxHeartbeats 4000000 in
theorem sp_walkC {I Hh B t p m s : Nat} {a b : qa} {cl : Int32} {post : qa → Prop} (hE : iE t p a) (hF : iF I Hh t p B a) (hm : m < 3 * t) (hl : a 47 0 (m / 3) = mI) (hc : cl = clO a m) (kk : post (mix (tS a p Hh (m + 1) s) b)) : wp_X3_walk t p m cl (nI Hh) (mix (tS a p Hh m s) b) post := by
  have k3 : post (qs (qs (qs (mix (tS a p Hh m s) b) 3 m 1 (nTi a p m)) 3 m 2 (nLa a p m)) 3 m 3 (nWe a p Hh m)) := by
    rw [tS_mc rfl rfl rfl]
    exact kk
  have x : ∀ k, mix (tS a p Hh m s) b 3 m k = a 3 m k := by
    intro k
    rw [mx_3, tS_3, vC_n (Nat.le_refl _)]
  obtain ⟨f0, f1, f2, f3, f4, f5, f6, f7, f8⟩ := hE m hm
  have ld : a 3 m 4 + a 3 m 5 + a 3 m 7 = ldO a p m := ld_eq hE hF hm
  generalize mix (tS a p Hh m s) b = X at *
  have e1 : nTi a p m = if a 53 0 m = 0 then wkT (a 52 0 m) (ldO a p m) cl else a 52 0 m := by
    unfold nTi
    rw [if_pos hl, hc]
  have e2 : nLa a p m = if a 53 0 m = 0 then (if wkT (a 52 0 m) (ldO a p m) cl = 100 then 1 else 0) else a 53 0 m := by
    unfold nLa
    rw [if_pos hl, hc]
  have e3 : nWe a p Hh m = if a 53 0 m = 0 ∧ wkT (a 52 0 m) (ldO a p m) cl = 100 then nI Hh else a 54 0 m := by
    unfold nWe
    rw [hc]
    by_cases c : a 53 0 m = 0 ∧ wkT (a 52 0 m) (ldO a p m) (clO a m) = 100
    · rw [if_pos c, if_pos ⟨hl, c⟩]
    · rw [if_neg c, if_neg (fun h => c h.2)]
  rw [e1, e2, e3] at k3
  unfold wp_X3_walk wp_X3_load
  dsimp only
  rw [x 1, x 2, x 4, x 5, x 7, ld, f1, f2]
  have hW : (if a 52 0 m + 2 + ldO a p m * cl / 100 < 100 then a 52 0 m + 2 + ldO a p m * cl / 100 else 100) = wkT (a 52 0 m) (ldO a p m) cl := rfl
  rw [hW, qs_eq]
  by_cases c : a 53 0 m = 0
  · refine ⟨fun _ => ?_, fun h => absurd c h⟩
    rw [if_pos c, if_pos c] at k3
    by_cases d : wkT (a 52 0 m) (ldO a p m) cl = 100
    · refine ⟨fun h => absurd d h, fun _ => ?_⟩
      rw [if_pos d, if_pos ⟨c, d⟩] at k3
      exact k3
    · refine ⟨fun _ => ?_, fun h => absurd h d⟩
      rw [if_neg d, if_neg (fun h => d h.2)] at k3
      have r2 : qs (qs X 3 m 1 (wkT (a 52 0 m) (ldO a p m) cl)) 3 m 2 0 = qs X 3 m 1 (wkT (a 52 0 m) (ldO a p m) cl) := qs_id (by rw [qs_nk (by decide), x, f2]; exact c)
      have r3 : qs (qs X 3 m 1 (wkT (a 52 0 m) (ldO a p m) cl)) 3 m 3 (a 54 0 m) = qs X 3 m 1 (wkT (a 52 0 m) (ldO a p m) cl) := qs_id (by rw [qs_nk (by decide), x]; exact f4)
      rw [r2, r3] at k3
      exact k3
  · refine ⟨fun h => absurd h c, fun _ => ?_⟩
    rw [if_neg c, if_neg c, if_neg (fun h => c h.1)] at k3
    have r1 : qs X 3 m 1 (a 52 0 m) = X := qs_id (by rw [x]; exact f1)
    have r2 : qs X 3 m 2 (a 53 0 m) = X := qs_id (by rw [x]; exact f2)
    have r3 : qs X 3 m 3 (a 54 0 m) = X := qs_id (by rw [x]; exact f4)
    rw [r1, r2, r3] at k3
    exact k3
set_option maxHeartbeats 4000000 in
theorem sp_restC {Hh t p m s : Nat} {a b : qa} {post : qa → Prop} (hE : iE t p a) (hm : m < 3 * t) (hl : ¬ a 47 0 (m / 3) = mI) (kk : post (mix (tS a p Hh (m + 1) s) b)) : wp_X3_rest t p m (mix (tS a p Hh m s) b) post := by
  have k3 : post (qs (qs (qs (mix (tS a p Hh m s) b) 3 m 1 (nTi a p m)) 3 m 2 (nLa a p m)) 3 m 3 (nWe a p Hh m)) := by
    rw [tS_mc rfl rfl rfl]
    exact kk
  have x : ∀ k, mix (tS a p Hh m s) b 3 m k = a 3 m k := by
    intro k
    rw [mx_3, tS_3, vC_n (Nat.le_refl _)]
  obtain ⟨f0, f1, f2, f3, f4, f5, f6, f7, f8⟩ := hE m hm
  generalize mix (tS a p Hh m s) b = X at *
  have e1 : nTi a p m = rsT (a 52 0 m) := by
    unfold nTi
    rw [if_neg hl]
  have e2 : nLa a p m = if rsT (a 52 0 m) = 0 then 0 else a 53 0 m := by
    unfold nLa
    rw [if_neg hl]
  have e3 : nWe a p Hh m = a 54 0 m := by
    unfold nWe
    rw [if_neg (fun h => hl h.1)]
  rw [e1, e2, e3] at k3
  unfold wp_X3_rest
  rw [x 1, f1]
  have hW : (if 0 < a 52 0 m - 5 then a 52 0 m - 5 else 0) = rsT (a 52 0 m) := rfl
  rw [hW, qs_eq]
  have r4 : ∀ y, qs (qs (qs X 3 m 1 (rsT (a 52 0 m))) 3 m 2 y) 3 m 3 (a 54 0 m) = qs (qs X 3 m 1 (rsT (a 52 0 m))) 3 m 2 y := fun y => qs_id (by rw [qs_nk (by decide), qs_nk (by decide), x]; exact f4)
  rw [r4] at k3
  by_cases d : rsT (a 52 0 m) = 0
  · refine ⟨fun h => absurd d h, fun _ => ?_⟩
    rw [if_pos d] at k3
    exact k3
  · refine ⟨fun _ => ?_, fun h => absurd h d⟩
    rw [if_neg d] at k3
    have r2 : qs (qs X 3 m 1 (rsT (a 52 0 m))) 3 m 2 (a 53 0 m) = qs X 3 m 1 (rsT (a 52 0 m)) := qs_id (by rw [qs_nk (by decide), x]; exact f2)
    rw [r2] at k3
    exact k3
set_option maxHeartbeats 4000000 in
theorem sl_tires {I Hh B t p i s : Nat} {a b : qa} {post : qa → Prop} (ht : t ≤ 4) (hp : p ≤ 100) (hI6 : I ≤ 6) (hi : i < t) (h1 : a 11 0 1 = nI Hh) (hD : iD I t p a) (hF : iF I Hh t p B a) (hl : a 47 0 i = mI) (kk : post (mix b (tS a p Hh (3 * i + 3) 0))) : ∀ (n j : Nat), j + n = 3 → wl_X11_tires_4 t p post (n + 1) (nI i) (nI (3 * i + j)) (mix b (tS a p Hh (3 * i + j) 0)) := by
  intro n
  induction n with
  | zero =>
    intro j hj
    obtain rfl : j = 3 := by omega
    unfold wl_X11_tires_4
    simp (disch := first | assumption | omega) only [l0, l1, l2, l3, l4, l5, l6, l7, l8, l9, l10, l20, l60, l61, l62, bb_t, bb_f, l100, l120, l512, l400, l401, l700, l9999, nm1, lm1, nlt, nle, neq, glt, gle, lgt, lge, geq, egq, mI_l, mI_e, e_mI, l_mI, le_mI, mI_le, bI_z, nC, vnI, nI_add, nI_sb, nI_mul, a1m, qs_eq, qs_nc, qs_ni, qs_nk, bq_l, bq_r, bq_l', bq_r', bq_t, bq_f, bq_t', bq_f', bq_n, bq_m, iT, iS, iN, true_and, and_true, eq_self, not_true_eq_false, not_false_eq_true, forall_const, bx_t, bx_f, reduceCtorEq, Option.some.injEq, forall_eq', ite_true, ite_false]
    exact kk
  | succ n ih =>
    intro j hj
    have k3 : wl_X11_tires_4 t p post (n + 1) (nI i) (nI (3 * i + j + 1)) (qs (qs (qs (mix b (tS a p Hh (3 * i + j) 0)) 52 0 (3 * i + j) (nTi a p (3 * i + j))) 53 0 (3 * i + j) (nLa a p (3 * i + j))) 54 0 (3 * i + j) (nWe a p Hh (3 * i + j))) := by
      rw [tS_mr rfl rfl rfl]
      exact ih (j + 1) (by omega)
    have ed : (3 * i + j) / 3 = i := by omega
    have x52 : mix b (tS a p Hh (3 * i + j) 0) 52 0 (3 * i + j) = a 52 0 (3 * i + j) := by rw [mx_52, tS_52, vR_n (Nat.le_refl _)]
    have x53 : mix b (tS a p Hh (3 * i + j) 0) 53 0 (3 * i + j) = a 53 0 (3 * i + j) := by rw [mx_53, tS_53, vR_n (Nat.le_refl _)]
    have x54 : mix b (tS a p Hh (3 * i + j) 0) 54 0 (3 * i + j) = a 54 0 (3 * i + j) := by rw [mx_54, tS_54, vR_n (Nat.le_refl _)]
    have x48 : mix b (tS a p Hh (3 * i + j) 0) 48 0 i = a 48 0 i := by rw [mx_48, tS_48, vR_n (by omega)]
    have x41 : mix b (tS a p Hh (3 * i + j) 0) 41 = a 41 := by rw [mx_41, tS_u (by decide) (by decide) (by decide) (by decide) (by decide) (by decide) (by decide)]
    have x11 : mix b (tS a p Hh (3 * i + j) 0) 11 = a 11 := by rw [mx_11, tS_u (by decide) (by decide) (by decide) (by decide) (by decide) (by decide) (by decide)]
    have x56 : mix b (tS a p Hh (3 * i + j) 0) 56 = a 56 := by rw [mx_56, tS_u (by decide) (by decide) (by decide) (by decide) (by decide) (by decide) (by decide)]
    have x58 : mix b (tS a p Hh (3 * i + j) 0) 58 = a 58 := by rw [mx_58, tS_u (by decide) (by decide) (by decide) (by decide) (by decide) (by decide) (by decide)]
    have x60 : mix b (tS a p Hh (3 * i + j) 0) 60 = a 60 := by rw [mx_60, tS_u (by decide) (by decide) (by decide) (by decide) (by decide) (by decide) (by decide)]
    generalize mix b (tS a p Hh (3 * i + j) 0) = X at *
    have hv : sumN (ldA X (3 * i + j)) p = ldO a p (3 * i + j) := by
      unfold ldO ldA
      rw [x56, x58, x60]
    obtain ⟨t1, t2, t3, t4⟩ := hD.2.2 i hi
    have t5 : ∃ l, l + 1 < I ∧ a 48 0 i = nI l := by
      rcases t4 with ⟨r, hr, q1, _⟩ | ⟨_, q2, _⟩
      · rw [hl, mI_e (by omega)] at q1
        exact q1.elim
      · exact q2
    obtain ⟨l, hlI, q2⟩ := t5
    have hcl : clO a (3 * i + j) = a 41 0 l := by
      unfold clO
      rw [ed, q2, nC (by omega)]
    generalize hM : 3 * i + j = m at *
    have hl' : a 47 0 (m / 3) = mI := by
      rw [ed]
      exact hl
    have e1 : nTi a p m = if a 53 0 m = 0 then wkT (a 52 0 m) (ldO a p m) (a 41 0 l) else a 52 0 m := by
      unfold nTi
      rw [if_pos hl', hcl]
    have e2 : nLa a p m = if a 53 0 m = 0 then (if wkT (a 52 0 m) (ldO a p m) (a 41 0 l) = 100 then 1 else 0) else a 53 0 m := by
      unfold nLa
      rw [if_pos hl', hcl]
    have e3 : nWe a p Hh m = if a 53 0 m = 0 ∧ wkT (a 52 0 m) (ldO a p m) (a 41 0 l) = 100 then nI Hh else a 54 0 m := by
      unfold nWe
      rw [hcl]
      by_cases c : a 53 0 m = 0 ∧ wkT (a 52 0 m) (ldO a p m) (a 41 0 l) = 100
      · rw [if_pos c, if_pos ⟨hl', c⟩]
      · rw [if_neg c, if_neg (fun h => c h.2)]
    rw [e1, e2, e3] at k3
    unfold wl_X11_tires_4
    have c0 : ¬ nI (3 * i + 3) ≤ nI m := by
      rw [nle (by omega) (by omega)]
      omega
    have c0' : ¬ 3 * nI i + 3 ≤ nI m := by
      have : (3 : Int32) * nI i + 3 = nI (3 * i + 3) := by rw [l3, nI_mul, nI_add]
      rw [this]
      exact c0
    refine ⟨fun h => absurd h c0', fun _ => ⟨vp_in_nI (by omega) (by omega), ?_⟩⟩
    rw [nC (by omega), x53]
    by_cases c : a 53 0 m = 0
    · refine ⟨fun _ => ⟨vp_in_nI (by omega) (by omega), ?_⟩, fun h => absurd c h⟩
      refine sp_loadA2 hp (by rw [x11]; exact hF.2.1) hv ?_
      rw [nC (show i < 2147483648 by omega), x48, q2, nC (show l < 2147483648 by omega), x52, x41, x11, h1]
      have hW : (if a 52 0 m + 2 + ldO a p m * a 41 0 l / 100 < 100 then a 52 0 m + 2 + ldO a p m * a 41 0 l / 100 else 100) = wkT (a 52 0 m) (ldO a p m) (a 41 0 l) := rfl
      rw [hW, qs_eq, wk_le]
      refine ⟨vp_in_nI (by omega) (by omega), vp_in_nI (by omega) (by omega), vp_in_nI (by omega) (by omega), vp_in_nI (by omega) (by omega), ?_⟩
      rw [if_pos c, if_pos c] at k3
      have en : nI m + 1 = nI (m + 1) := nI_add m 1
      rw [en]
      by_cases d : wkT (a 52 0 m) (ldO a p m) (a 41 0 l) = 100
      · refine ⟨fun _ => ⟨vp_in_nI (by omega) (by omega), vp_in_nI (by omega) (by omega), ?_⟩, fun h => absurd d h⟩
        rw [if_pos d, if_pos ⟨c, d⟩] at k3
        exact k3
      · refine ⟨fun h => absurd h d, fun _ => ?_⟩
        rw [if_neg d, if_neg (fun h => d h.2)] at k3
        have r2 : qs (qs X 52 0 m (wkT (a 52 0 m) (ldO a p m) (a 41 0 l))) 53 0 m 0 = qs X 52 0 m (wkT (a 52 0 m) (ldO a p m) (a 41 0 l)) := qs_id (by rw [qs_nc (by decide), x53]; exact c)
        have r3 : qs (qs X 52 0 m (wkT (a 52 0 m) (ldO a p m) (a 41 0 l))) 54 0 m (a 54 0 m) = qs X 52 0 m (wkT (a 52 0 m) (ldO a p m) (a 41 0 l)) := qs_id (by rw [qs_nc (by decide), x54])
        rw [r2, r3] at k3
        exact k3
    · refine ⟨fun h => absurd h c, fun _ => ?_⟩
      rw [if_neg c, if_neg c, if_neg (fun h => c h.1)] at k3
      have r1 : qs X 52 0 m (a 52 0 m) = X := qs_id x52
      have r2 : qs X 53 0 m (a 53 0 m) = X := qs_id x53
      have r3 : qs X 54 0 m (a 54 0 m) = X := qs_id x54
      rw [r1, r2, r3] at k3
      have en : nI m + 1 = nI (m + 1) := nI_add m 1
      rw [en]
      exact k3
set_option maxHeartbeats 4000000 in
theorem sl_rests {Hh t p i : Nat} {a b : qa} {post : qa → Prop} (ht : t ≤ 4) (hi : i < t) (hE : iE t p a) (hl : ¬ a 47 0 i = mI) (kk : post (mix b (tS a p Hh (3 * i + 3) 0))) : ∀ (n j : Nat), j + n = 3 → wl_X11_rests_4 t p post (n + 1) (nI i) (nI (3 * i + j)) (mix b (tS a p Hh (3 * i + j) 0)) := by
  intro n
  induction n with
  | zero =>
    intro j hj
    obtain rfl : j = 3 := by omega
    unfold wl_X11_rests_4
    simp (disch := first | assumption | omega) only [l0, l1, l2, l3, l4, l5, l6, l7, l8, l9, l10, l20, l60, l61, l62, bb_t, bb_f, l100, l120, l512, l400, l401, l700, l9999, nm1, lm1, nlt, nle, neq, glt, gle, lgt, lge, geq, egq, mI_l, mI_e, e_mI, l_mI, le_mI, mI_le, bI_z, nC, vnI, nI_add, nI_sb, nI_mul, a1m, qs_eq, qs_nc, qs_ni, qs_nk, bq_l, bq_r, bq_l', bq_r', bq_t, bq_f, bq_t', bq_f', bq_n, bq_m, iT, iS, iN, true_and, and_true, eq_self, not_true_eq_false, not_false_eq_true, forall_const, bx_t, bx_f, reduceCtorEq, Option.some.injEq, forall_eq', ite_true, ite_false]
    exact kk
  | succ n ih =>
    intro j hj
    have k3 : wl_X11_rests_4 t p post (n + 1) (nI i) (nI (3 * i + j + 1)) (qs (qs (qs (mix b (tS a p Hh (3 * i + j) 0)) 52 0 (3 * i + j) (nTi a p (3 * i + j))) 53 0 (3 * i + j) (nLa a p (3 * i + j))) 54 0 (3 * i + j) (nWe a p Hh (3 * i + j))) := by
      rw [tS_mr rfl rfl rfl]
      exact ih (j + 1) (by omega)
    have ed : (3 * i + j) / 3 = i := by omega
    have x52 : mix b (tS a p Hh (3 * i + j) 0) 52 0 (3 * i + j) = a 52 0 (3 * i + j) := by rw [mx_52, tS_52, vR_n (Nat.le_refl _)]
    have x53 : mix b (tS a p Hh (3 * i + j) 0) 53 0 (3 * i + j) = a 53 0 (3 * i + j) := by rw [mx_53, tS_53, vR_n (Nat.le_refl _)]
    have x54 : mix b (tS a p Hh (3 * i + j) 0) 54 0 (3 * i + j) = a 54 0 (3 * i + j) := by rw [mx_54, tS_54, vR_n (Nat.le_refl _)]
    generalize mix b (tS a p Hh (3 * i + j) 0) = X at *
    generalize hM : 3 * i + j = m at *
    have hl' : ¬ a 47 0 (m / 3) = mI := by
      rw [ed]
      exact hl
    have e1 : nTi a p m = rsT (a 52 0 m) := by
      unfold nTi
      rw [if_neg hl']
    have e2 : nLa a p m = if rsT (a 52 0 m) = 0 then 0 else a 53 0 m := by
      unfold nLa
      rw [if_neg hl']
    have e3 : nWe a p Hh m = a 54 0 m := by
      unfold nWe
      rw [if_neg (fun h => hl' h.1)]
    rw [e1, e2, e3] at k3
    unfold wl_X11_rests_4
    have c0' : ¬ 3 * nI i + 3 ≤ nI m := by
      have : (3 : Int32) * nI i + 3 = nI (3 * i + 3) := by rw [l3, nI_mul, nI_add]
      rw [this, nle (by omega) (by omega)]
      omega
    refine ⟨fun h => absurd h c0', fun _ => ⟨vp_in_nI (by omega) (by omega), vp_in_nI (by omega) (by omega), vp_in_nI (by omega) (by omega), ?_⟩⟩
    rw [nC (by omega), x52]
    have hW : (if 0 < a 52 0 m - 5 then a 52 0 m - 5 else 0) = rsT (a 52 0 m) := rfl
    have r4 : ∀ y, qs (qs (qs X 52 0 m (rsT (a 52 0 m))) 53 0 m y) 54 0 m (a 54 0 m) = qs (qs X 52 0 m (rsT (a 52 0 m))) 53 0 m y := fun y => qs_id (by rw [qs_nc (by decide), qs_nc (by decide), x54])
    have en : nI m + 1 = nI (m + 1) := nI_add m 1
    rw [r4] at k3
    rw [hW, qs_eq, en]
    by_cases d : rsT (a 52 0 m) = 0
    · refine ⟨fun h => absurd d h, fun _ => ⟨vp_in_nI (by omega) (by omega), ?_⟩⟩
      rw [if_pos d] at k3
      exact k3
    · refine ⟨fun _ => ?_, fun h => absurd h d⟩
      rw [if_neg d] at k3
      have r2 : qs (qs X 52 0 m (rsT (a 52 0 m))) 53 0 m (a 53 0 m) = qs X 52 0 m (rsT (a 52 0 m)) := qs_id (by rw [qs_nc (by decide), x53])
      rw [r2] at k3
      exact k3
