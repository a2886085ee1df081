theorem i01 {m m' : Nat} (h : ¬ m' = m) (h1 : m < 2147483648) (h2 : m' < 2147483648) : ¬ nI m = nI m' := by
  rw [neq h1 h2]
  omega
theorem lay_inv {I S Hh B T M t p k : Nat} {a a' : qa} {i j q pl l r w wt cc : Nat} (ht : t ≤ 4) (hp : p ≤ 100) (hk : k < 512) (hA : iA I a) (hB : iB I S Hh a) (hC : iC Hh a) (hD : iD I t p a) (hE : iE t p a) (hF : iF I Hh t p B a) (hG : iG Hh p k M a) (hH : iH Hh B a) (hT : iI T a) (hJ : a 10 0 11 = a 11 0 49) (hi : i < t) (hj : j < 3) (hq : q < p) (hpl : pl < 3) (s0 : a 58 0 q = 0) (s1 : a 47 0 i = a 59 0 q) (hcc : cc ≤ Hh) (c0 : a 62 0 q = nI cc) (w0 : a 56 0 q = nI wt) (w1 : a 3 (3 * i + j) 4 = nI l) (w2 : a 3 (3 * i + j) 5 = nI r) (w3 : a 3 (3 * i + j) 7 = nI w) (wle : l + r + w + wt ≤ 120) (top0 : pl = 2 → a 3 (3 * i + j) 6 = mI)
  (u3 : ∀ m k, ¬ (m = 3 * i + j ∧ 4 ≤ k) → a' 3 m k = a 3 m k) (v4 : a' 3 (3 * i + j) 4 = nI (l + if pl = 0 then wt else 0)) (v5 : a' 3 (3 * i + j) 5 = nI (r + if pl = 1 then wt else 0)) (v6 : a' 3 (3 * i + j) 6 = if pl = 2 then nI q else a 3 (3 * i + j) 6) (v7 : a' 3 (3 * i + j) 7 = nI (if pl = 2 then wt else w))
  (u9 : ∀ m k, ¬ (m = i ∧ k = 5) → a' 9 m k = a 9 m k) (v9 : a' 9 i 5 = a 9 i 5 + 1)
  (u4 : ∀ m k, ¬ (m = q ∧ 4 ≤ k ∧ k ≤ 7) → a' 4 m k = a 4 m k) (x4 : a' 4 q 4 = nI 1) (x5 : a' 4 q 5 = nI i) (x6 : a' 4 q 6 = nI j) (x7 : a' 4 q 7 = nI pl)
  (u58 : ∀ m, a' 58 0 m = if m = q then nI 1 else a 58 0 m) (u60 : ∀ m, a' 60 0 m = if m = q then nI (3 * i + j) else a 60 0 m) (u61 : ∀ m, a' 61 0 m = if m = q then nI pl else a 61 0 m)
  (hG' : iG Hh p (k + 1) (M + 1) a') (hA' : iA I a') (hB' : iB I S Hh a') (hC' : iC Hh a') (hH' : iH Hh B a') (hT' : iI T a') (hJ' : a' 10 0 11 = a' 11 0 49)
  (y1 : a' 10 0 8 = a 10 0 8) (y2 : a' 11 0 11 = a 11 0 11) (y3 : a' 10 0 9 = a 10 0 9) (y4 : a' 11 0 20 = a 11 0 20) (e47 : a' 47 0 = a 47 0) (e48 : a' 48 0 = a 48 0) (e49 : a' 49 0 = a 49 0) (e50 : a' 50 0 = a 50 0) (e51 : a' 51 0 = a 51 0) (e52 : a' 52 0 = a 52 0) (e53 : a' 53 0 = a 53 0) (e54 : a' 54 0 = a 54 0) (e55 : a' 55 0 = a 55 0) (e56 : a' 56 0 = a 56 0) (e57 : a' 57 0 = a 57 0) (e59 : a' 59 0 = a 59 0) (e62 : a' 62 0 = a 62 0) (e63 : a' 63 0 = a 63 0) (e64 : a' 64 0 = a 64 0) (e72 : a' 72 0 = a 72 0) (e73 : a' 73 0 = a 73 0) (e74 : a' 74 0 = a 74 0) (e75 : a' 75 0 = a 75 0) (e76 : a' 76 0 = a 76 0) (e77 : a' 77 0 = a 77 0) (e78 : a' 78 0 = a 78 0) : Inv t p (k + 1) a' := by
  have n01 : ¬ (nI 0 : Int32) = nI 1 := by decide
  have lT : ∀ i', i' < t → sumN (ldT a' i') p = sumN (ldT a i') p + if i' = i then 1 else 0 := by
    intro i' hi'
    refine sumN_upd p hq (fun z hz hne => ?_) ?_
    · unfold ldT
      rw [u58, u60, if_neg hne, if_neg hne]
    · have ed : nI (3 * i + j) / 3 = nI i := by
        rw [l3, nI_div (by omega) (by omega)]
        congr 1
        omega
      have z0 : ldT a i' q = 0 := by
        unfold ldT
        rw [s0]
        exact if_neg (fun x => absurd x.1 (by decide))
      rw [z0]
      unfold ldT
      rw [u58, u60, if_pos rfl, if_pos rfl, ed]
      by_cases c : i' = i
      · subst c
        rw [if_pos ⟨rfl, rfl⟩, if_pos rfl]
        rfl
      · rw [if_neg (fun x => i01 c (by omega) (by omega) x.2), if_neg c]
        rfl
  have lW : ∀ m (x : Nat), m < 3 * t → x < 3 → sumN (ldW a' m (nI x)) p = sumN (ldW a m (nI x)) p + if m = 3 * i + j ∧ x = pl then nI wt else 0 := by
    intro m x hm hx
    refine sumN_upd p hq (fun z hz hne => ?_) ?_
    · unfold ldW
      rw [u58, u60, u61, if_neg hne, if_neg hne, if_neg hne, e56]
    · have z0 : ldW a m (nI x) q = 0 := by
        unfold ldW
        rw [s0]
        exact if_neg (fun x => absurd x.1 (by decide))
      rw [z0]
      unfold ldW
      rw [u58, u60, u61, if_pos rfl, if_pos rfl, if_pos rfl, e56, w0]
      by_cases c : m = 3 * i + j ∧ x = pl
      · rw [if_pos ⟨rfl, by rw [c.1], by rw [c.2]⟩, if_pos c]
        exact (Int32.zero_add _).symm
      · rw [if_neg c, if_neg (fun y => c ?_)]
        · rfl
        · have h1 := y.2.1
          have h2 := y.2.2
          rw [neq (by omega) (by omega)] at h1 h2
          exact ⟨h1.symm, h2.symm⟩
  refine ⟨I, S, Hh, B, T, M + 1, hA', hB', hC', ?_, ?_, ?_, hG', hH', hT', hJ'⟩
  · refine ⟨by rw [y1]; exact hD.1, by rw [y2]; exact hD.2.1, fun i' hi' => ?_⟩
    obtain ⟨g1, g2, g3, g4⟩ := hD.2.2 i' hi'
    rw [u9 i' 1 (by omega), u9 i' 2 (by omega), u9 i' 3 (by omega), u9 i' 4 (by omega), e47, e48, e49, e50, lT i' hi']
    refine ⟨g1, g2, ?_, g4⟩
    by_cases c : i' = i
    · subst c
      rw [v9, g3, if_pos rfl]
    · rw [u9 i' 5 (by omega), g3, if_neg c, az]
  · intro m hm
    obtain ⟨f0, f1, f2, f3, f4, f5, f6, f7, f8, f9, f10, f11⟩ := hE m hm
    have L0 := lW m 0 hm (by omega)
    have L1 := lW m 1 hm (by omega)
    have L2 := lW m 2 hm (by omega)
    rw [u3 m 0 (by omega), u3 m 1 (by omega), u3 m 2 (by omega), u3 m 3 (by omega), e51, e52, e53, e54]
    refine ⟨f0, f1, f2, f3, f4, f5, f6, ?_⟩
    by_cases c : m = 3 * i + j
    · subst c
      have t0 : pl = 2 → w = 0 := by
        intro c
        have h6 := top0 c
        rcases f11 with ⟨_, h7⟩ | ⟨q', h7, h8, _⟩
        · have : sumN (ldW a (3 * i + j) 2) p = 0 := sumN_0 p (fun z hz => if_neg (h7 z hz))
          rw [← f10, w3, l0, neq (by omega) (by omega)] at this
          exact this
        · rw [h6] at h8
          rw [mI_e (by omega)] at h8
          exact absurd h8 id
      have hO : ∀ z, z ≠ q → (onM a' (3 * i + j) 2 z ↔ onM a (3 * i + j) 2 z) := by
        intro z hz
        unfold onM
        rw [u58, u60, u61, if_neg hz, if_neg hz, if_neg hz]
      have hQ : onM a' (3 * i + j) 2 q ↔ pl = 2 := by
        unfold onM
        rw [u58, u60, u61, if_pos rfl, if_pos rfl, if_pos rfl]
        exact ⟨fun x => by
          have h := x.2.2
          rw [l2, neq (by omega) (by omega)] at h
          exact h, fun x => ⟨rfl, rfl, by rw [x]; rfl⟩⟩
      have hQ0 : ¬ onM a (3 * i + j) 2 q := fun x => by
        have := x.1
        rw [s0] at this
        exact absurd this (by decide)
      refine ⟨⟨l + (if pl = 0 then wt else 0), r + (if pl = 1 then wt else 0), if pl = 2 then wt else w, ?_, v4, v5, v7⟩, ?_, ?_, ?_, ?_⟩
      · by_cases c0 : pl = 0
        · rw [if_pos c0, if_neg (by omega), if_neg (by omega)]
          omega
        · by_cases c1 : pl = 1
          · rw [if_neg c0, if_pos c1, if_neg (by omega)]
            omega
          · rw [if_neg c0, if_neg c1, if_pos (by omega)]
            have := t0 (by omega)
            omega
      · rw [v4]
        refine Eq.trans ?_ L0.symm
        rw [← l0, ← f8, w1]
        by_cases c0 : pl = 0
        · rw [if_pos c0, if_pos ⟨rfl, c0.symm⟩, nI_add]
        · rw [if_neg c0, if_neg (fun x => c0 x.2.symm)]
          exact (Int32.add_zero _).symm
      · rw [v5]
        refine Eq.trans ?_ L1.symm
        rw [← l1, ← f9, w2]
        by_cases c0 : pl = 1
        · rw [if_pos c0, if_pos ⟨rfl, c0.symm⟩, nI_add]
        · rw [if_neg c0, if_neg (fun x => c0 x.2.symm)]
          exact (Int32.add_zero _).symm
      · rw [v7]
        refine Eq.trans ?_ L2.symm
        rw [← l2, ← f10, w3]
        by_cases c0 : pl = 2
        · rw [if_pos c0, if_pos ⟨rfl, c0.symm⟩, t0 c0, nI_add, Nat.zero_add]
        · rw [if_neg c0, if_neg (fun x => c0 x.2.symm)]
          exact (Int32.add_zero _).symm
      · rw [v6]
        by_cases cp : pl = 2
        · rw [if_pos cp]
          right
          refine ⟨q, hq, rfl, hQ.mpr cp, fun z hz ho => ?_⟩
          by_cases cz : z = q
          · exact cz
          · have h6 := top0 cp
            rcases f11 with ⟨_, h7⟩ | ⟨q', h7, h8, _⟩
            · exact absurd ((hO z cz).mp ho) (h7 z hz)
            · rw [h6, mI_e (by omega)] at h8
              exact absurd h8 id
        · rw [if_neg cp]
          rcases f11 with ⟨h6, h7⟩ | ⟨q', h7, h8, h9, h10⟩
          · left
            refine ⟨h6, fun z hz ho => ?_⟩
            by_cases cz : z = q
            · subst cz
              exact cp (hQ.mp ho)
            · exact h7 z hz ((hO z cz).mp ho)
          · right
            have cq : q' ≠ q := fun x => by
              subst x
              exact hQ0 h9
            refine ⟨q', h7, h8, (hO q' cq).mpr h9, fun z hz ho => ?_⟩
            by_cases cz : z = q
            · subst cz
              exact absurd (hQ.mp ho) cp
            · exact h10 z hz ((hO z cz).mp ho)
    · rw [u3 m 4 (by omega), u3 m 5 (by omega), u3 m 6 (by omega), u3 m 7 (by omega)]
      rw [if_neg (fun x => c x.1), az] at L0 L1 L2
      have hO : ∀ z, (onM a' m 2 z ↔ onM a m 2 z) := by
        intro z
        unfold onM
        by_cases cz : z = q
        · subst cz
          rw [u58, u60, if_pos rfl, if_pos rfl, s0]
          exact ⟨fun x => absurd x.2.1 (i01 c (by omega) (by omega)), fun x => absurd x.1 (by decide)⟩
        · rw [u58, u60, u61, if_neg cz, if_neg cz, if_neg cz]
      refine ⟨f7, f8.trans L0.symm, f9.trans L1.symm, f10.trans L2.symm, ?_⟩
      rcases f11 with ⟨h6, h7⟩ | ⟨q', h7, h8, h9, h10⟩
      · exact Or.inl ⟨h6, fun z hz ho => h7 z hz ((hO z).mp ho)⟩
      · exact Or.inr ⟨q', h7, h8, (hO q').mpr h9, fun z hz ho => h10 z hz ((hO z).mp ho)⟩
  · refine ⟨by rw [y3]; exact hF.1, by rw [y4]; exact hF.2.1, fun z hz => ?_⟩
    obtain ⟨g1, g2, g3, g4, g5, g6, g7, g8, g9, g10, g11⟩ := hF.2.2 z hz
    have ew : wth a' B z = wth a B z := wth_cg (q' := 0) (by rw [e55]) (by rw [e56]) (by rw [e62]) (by rw [e63]) (by rw [e64]) e72 e73 e74 e75 e76 e77 e78
    rw [u4 z 0 (by omega), u4 z 1 (by omega), u4 z 2 (by omega), u4 z 3 (by omega), u4 z 8 (by omega), u4 z 9 (by omega), e55, e56, e57, e62, e64, e59, e47, ew]
    by_cases cz : z = q
    · subst cz
      rw [x4, x5, x6, x7, u58, u60, u61, if_pos rfl, if_pos rfl, if_pos rfl]
      refine ⟨g1, g2, g3, g4, rfl, g6, g7, g8, g9, g10, Or.inr (Or.inl ⟨rfl, ⟨i, j, hi, hj, rfl, rfl, rfl, ?_⟩, rfl, ⟨pl, by omega, rfl⟩, ?_⟩)⟩
      · rcases g11 with ⟨h1, h2, h3, h4, h5⟩ | ⟨h1, _⟩ | ⟨h1, _⟩
        · rw [s1]
          exact h5
        · rw [s0] at h1
          exact absurd h1 (by decide)
        · rw [s0] at h1
          exact absurd h1 (by decide)
      · rcases g11 with ⟨h1, h2, h3, h4, h5⟩ | ⟨h1, _⟩ | ⟨h1, _⟩
        · exact h4
        · rw [s0] at h1
          exact absurd h1 (by decide)
        · rw [s0] at h1
          exact absurd h1 (by decide)
    · rw [u4 z 4 (by omega), u4 z 5 (by omega), u4 z 6 (by omega), u4 z 7 (by omega), u58, u60, u61, if_neg cz, if_neg cz, if_neg cz]
      exact ⟨g1, g2, g3, g4, g5, g6, g7, g8, g9, g10, g11⟩
