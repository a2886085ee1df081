theorem ldW_nat {I Hh t p B : Nat} {a : qa} (hF : iF I Hh t p B a) (m : Nat) (x : Int32) : ∀ n, n ≤ p → ∃ N, N ≤ 60 * n ∧ sumN (ldW a m x) n = nI N ∧ ∀ z wz, z < n → a 56 0 z = nI wz → wz ≤ 60 → onM a m x z → wz ≤ N := by
  intro n
  induction n with
  | zero => exact fun _ => ⟨0, by omega, rfl, fun z _ hz => by omega⟩
  | succ n ih =>
    intro hn
    obtain ⟨N, h1, h2, h3⟩ := ih (by omega)
    obtain ⟨w, w1, w2, w3⟩ := (hF.2.2 n (by omega)).2.2.2.2.2.2.2.1
    unfold sumN
    by_cases c : onM a m x n
    · refine ⟨N + w, by omega, ?_, fun z wz hz e hw ho => ?_⟩
      · have : ldW a m x n = nI w := by
          unfold ldW
          exact (if_pos c).trans w3
        rw [h2, this, nI_add]
      · by_cases cz : z = n
        · subst cz
          rw [w3, neq (by omega) (by omega)] at e
          omega
        · have := h3 z wz (by omega) e hw ho
          omega
    · refine ⟨N, by omega, ?_, fun z wz hz e hw ho => ?_⟩
      · have : ldW a m x n = 0 := by
          unfold ldW
          exact if_neg c
        rw [h2, this, az]
      · by_cases cz : z = n
        · subst cz
          exact absurd ho c
        · exact h3 z wz (by omega) e hw ho
theorem sbn (x y : Int32) : x - y = x + -y := Int32.sub_eq_add_neg x y
theorem down_inv {I S Hh B T M t p k : Nat} {a a' : qa} {i j q sd l r w wt r0 tg sv : Nat} (ht : t ≤ 4) (hp : p ≤ 100) (hk : k < 512) (hA : iA I a) (hD : iD I t p a) (hE : iE t p a) (hF : iF I Hh t p B a) (hi : i < t) (hj : j < 3) (hq : q < p) (hsd : sd ≤ 2) (s0 : a 58 0 q = 1) (s1 : a 60 0 q = nI (3 * i + j)) (s2 : a 61 0 q = nI sd) (hr0 : r0 < I) (s3 : a 47 0 i = nI r0) (htg : tg < I) (s4 : a 57 0 q = nI tg) (hcl : a 62 0 q = nI Hh → a 47 0 i ≠ a 57 0 q) (s9 : a 4 q 9 = 0) (w0 : a 56 0 q = nI wt) (wt6 : wt ≤ 60) (w1 : a 3 (3 * i + j) 4 = nI l) (w2 : a 3 (3 * i + j) 5 = nI r) (w3 : a 3 (3 * i + j) 7 = nI w) (wle : l + r + w ≤ 120) (hsv : (sv = 0 ∧ r0 ≠ tg) ∨ (sv = 2 ∧ r0 = tg))
  (u3 : ∀ m k, ¬ (m = 3 * i + j ∧ 4 ≤ k) → a' 3 m k = a 3 m k) (v4 : a' 3 (3 * i + j) 4 = if sd = 0 then a 3 (3 * i + j) 4 - nI wt else a 3 (3 * i + j) 4) (v5 : a' 3 (3 * i + j) 5 = if sd = 1 then a 3 (3 * i + j) 5 - nI wt else a 3 (3 * i + j) 5) (v6 : a' 3 (3 * i + j) 6 = if sd = 2 then mI else a 3 (3 * i + j) 6) (v7 : a' 3 (3 * i + j) 7 = if sd = 2 then nI 0 else a 3 (3 * i + j) 7)
  (u9 : ∀ m k, ¬ (m = i ∧ k = 5) → a' 9 m k = a 9 m k) (v9 : a' 9 i 5 = a 9 i 5 - nI 1)
  (u4 : ∀ m k, ¬ (m = q ∧ 4 ≤ k ∧ k ≠ 8) → a' 4 m k = a 4 m k) (x4 : a' 4 q 4 = nI sv) (x5 : a' 4 q 5 = nI r0) (x9 : a' 4 q 9 = if sv = 2 then wth a' B q else a 4 q 9)
  (u58 : ∀ m, a' 58 0 m = if m = q then nI sv else a 58 0 m) (u59 : ∀ m, a' 59 0 m = if m = q then nI r0 else a 59 0 m) (u63 : ∀ m, m ≠ q → a' 63 0 m = a 63 0 m)
  (hG' : iG Hh p (k + 1) (M + 1) a') (hA' : iA I a') (hB' : iB I S Hh a') (hC' : iC Hh a') (hH' : iH Hh B a') (hT' : iI T a') (hJ' : a' 10 0 11 = a' 11 0 49)
  (y1 : a' 10 0 8 = a 10 0 8) (y2 : a' 11 0 11 = a 11 0 11) (y3 : a' 10 0 9 = a 10 0 9) (y4 : a' 11 0 20 = a 11 0 20) (e47 : a' 47 0 = a 47 0) (e48 : a' 48 0 = a 48 0) (e49 : a' 49 0 = a 49 0) (e50 : a' 50 0 = a 50 0) (e51 : a' 51 0 = a 51 0) (e52 : a' 52 0 = a 52 0) (e53 : a' 53 0 = a 53 0) (e54 : a' 54 0 = a 54 0) (e55 : a' 55 0 = a 55 0) (e56 : a' 56 0 = a 56 0) (e57 : a' 57 0 = a 57 0) (e60 : a' 60 0 = a 60 0) (e61 : a' 61 0 = a 61 0) (e62 : a' 62 0 = a 62 0) (e64 : a' 64 0 = a 64 0) (e72 : a' 72 0 = a 72 0) (e73 : a' 73 0 = a 73 0) (e74 : a' 74 0 = a 74 0) (e75 : a' 75 0 = a 75 0) (e76 : a' 76 0 = a 76 0) (e77 : a' 77 0 = a 77 0) (e78 : a' 78 0 = a 78 0) : Inv t p (k + 1) a' := by
  have hsn : ¬ nI sv = 1 := by
    rw [l1]
    rcases hsv with ⟨e, _⟩ | ⟨e, _⟩
    · rw [e]
      decide
    · rw [e]
      decide
  have hI6 := hA.1
  have lT : ∀ i', i' < t → sumN (ldT a' i') p = sumN (ldT a i') p + if i' = i then -nI 1 else 0 := by
    intro i' hi'
    refine sumN_upd p hq (fun z hz hne => ?_) ?_
    · unfold ldT
      rw [u58, e60, if_neg hne]
    · have ed : nI (3 * i + j) / 3 = nI i := by
        rw [l3, nI_div (by omega) (by omega)]
        congr 1
        omega
      have z0 : ldT a' i' q = 0 := by
        unfold ldT
        rw [u58, if_pos rfl]
        exact if_neg (fun x => hsn x.1)
      rw [z0]
      unfold ldT
      rw [s0, s1, ed]
      by_cases c : i' = i
      · subst c
        rw [if_pos ⟨rfl, rfl⟩, if_pos rfl]
        rfl
      · rw [if_neg (fun x => i01 c (by omega) (by omega) x.2), if_neg c]
        rfl
  have lW : ∀ m (x : Nat), m < 3 * t → x < 3 → sumN (ldW a' m (nI x)) p = sumN (ldW a m (nI x)) p + if m = 3 * i + j ∧ x = sd then -nI wt else 0 := by
    intro m x hm hx
    refine sumN_upd p hq (fun z hz hne => ?_) ?_
    · unfold ldW
      rw [u58, e60, e61, if_neg hne, e56]
    · have z0 : ldW a' m (nI x) q = 0 := by
        unfold ldW
        rw [u58, if_pos rfl]
        exact if_neg (fun x => hsn x.1)
      rw [z0]
      unfold ldW
      rw [s0, s1, s2, w0]
      by_cases c : m = 3 * i + j ∧ x = sd
      · rw [if_pos ⟨rfl, by rw [c.1], by rw [c.2]⟩, if_pos c, ← sbn]
        exact (Int32.sub_self _).symm
      · rw [if_neg c, if_neg (fun y => c ?_)]
        · rfl
        · have h1 := y.2.1
          have h2 := y.2.2
          rw [neq (by omega) (by omega)] at h1 h2
          exact ⟨h1.symm, h2.symm⟩
  have hO : ∀ m, ∀ z, z ≠ q → (onM a' m 2 z ↔ onM a m 2 z) := by
    intro m z hz
    unfold onM
    rw [u58, e60, e61, if_neg hz]
  have hQ : ∀ m, ¬ onM a' m 2 q := by
    intro m h
    have := h.1
    rw [u58, if_pos rfl] at this
    exact hsn this
  refine ⟨I, S, Hh, B, T, M + 1, hA', hB', hC', ?_, ?_, ?_, hG', hH', hT', hJ'⟩
  · refine ⟨by rw [y1]; exact hD.1, by rw [y2]; exact hD.2.1, fun i' hi' => ?_⟩
    obtain ⟨g1, g2, g3, g4⟩ := hD.2.2 i' hi'
    rw [u9 i' 1 (by omega), u9 i' 2 (by omega), u9 i' 3 (by omega), u9 i' 4 (by omega), e47, e48, e49, e50, lT i' hi']
    refine ⟨g1, g2, ?_, g4⟩
    by_cases c : i' = i
    · subst c
      rw [v9, g3, if_pos rfl, sbn]
    · rw [u9 i' 5 (by omega), g3, if_neg c, az]
  · intro m hm
    obtain ⟨f0, f1, f2, f3, f4, f5, f6, f7, f8, f9, f10, f11⟩ := hE m hm
    have L0 := lW m 0 hm (by omega)
    have L1 := lW m 1 hm (by omega)
    have L2 := lW m 2 hm (by omega)
    rw [u3 m 0 (by omega), u3 m 1 (by omega), u3 m 2 (by omega), u3 m 3 (by omega), e51, e52, e53, e54]
    refine ⟨f0, f1, f2, f3, f4, f5, f6, ?_⟩
    by_cases c : m = 3 * i + j
    · subst c
      have hon : onM a (3 * i + j) (nI sd) q := ⟨s0, s1, s2⟩
      have hge : ∀ x N, sd = x → sumN (ldW a (3 * i + j) (nI x)) p = nI N → N ≤ 120 → wt ≤ N := by
        intro x N hx hN h120
        subst hx
        obtain ⟨N', h1, h2, h3⟩ := ldW_nat hF (3 * i + j) (nI sd) p (Nat.le_refl p)
        rw [hN, neq (by omega) (by omega)] at h2
        rw [h2]
        exact h3 q wt hq w0 wt6 hon
      by_cases c0 : sd = 0
      · have hw := hge 0 l c0 (f8.symm.trans w1) (by omega)
        rw [if_pos c0] at v4
        rw [if_neg (by omega)] at v5 v6 v7
        rw [if_pos ⟨rfl, c0.symm⟩] at L0
        rw [if_neg (fun x => by omega), az] at L1 L2
        refine ⟨⟨l - wt, r, w, by omega, by rw [v4, w1, nI_sub hw], by rw [v5, w2], by rw [v7, w3]⟩, ?_, ?_, ?_, ?_⟩
        · rw [v4, sbn]
          refine Eq.trans ?_ L0.symm
          rw [f8]
          rfl
        · rw [v5, f9]
          exact L1.symm
        · rw [v7, f10]
          exact L2.symm
        · rw [v6]
          rcases f11 with ⟨h6, h7⟩ | ⟨q', h7, h8, h9, h10⟩
          · left
            refine ⟨h6, fun z hz ho => ?_⟩
            by_cases cz : z = q
            · subst cz
              exact hQ _ ho
            · exact h7 z hz ((hO _ z cz).mp ho)
          · right
            have cq : q' ≠ q := fun x => by
              subst x
              have := h9.2.2
              rw [s2, c0] at this
              exact absurd this (by decide)
            refine ⟨q', h7, h8, (hO _ q' cq).mpr h9, fun z hz ho => ?_⟩
            by_cases cz : z = q
            · subst cz
              exact absurd ho (hQ _)
            · exact h10 z hz ((hO _ z cz).mp ho)
      · by_cases c1 : sd = 1
        · have hw := hge 1 r c1 (f9.symm.trans w2) (by omega)
          rw [if_pos c1] at v5
          rw [if_neg (by omega)] at v4 v6 v7
          rw [if_pos ⟨rfl, c1.symm⟩] at L1
          rw [if_neg (fun x => by omega), az] at L0 L2
          refine ⟨⟨l, r - wt, w, by omega, by rw [v4, w1], by rw [v5, w2, nI_sub hw], by rw [v7, w3]⟩, ?_, ?_, ?_, ?_⟩
          · rw [v4, f8]
            exact L0.symm
          · rw [v5, sbn]
            refine Eq.trans ?_ L1.symm
            rw [f9]
            rfl
          · rw [v7, f10]
            exact L2.symm
          · rw [v6]
            rcases f11 with ⟨h6, h7⟩ | ⟨q', h7, h8, h9, h10⟩
            · left
              refine ⟨h6, fun z hz ho => ?_⟩
              by_cases cz : z = q
              · subst cz
                exact hQ _ ho
              · exact h7 z hz ((hO _ z cz).mp ho)
            · right
              have cq : q' ≠ q := fun x => by
                subst x
                have := h9.2.2
                rw [s2, c1] at this
                exact absurd this (by decide)
              refine ⟨q', h7, h8, (hO _ q' cq).mpr h9, fun z hz ho => ?_⟩
              by_cases cz : z = q
              · subst cz
                exact absurd ho (hQ _)
              · exact h10 z hz ((hO _ z cz).mp ho)
        · have c2 : sd = 2 := by omega
          rw [if_pos c2] at v6 v7
          rw [if_neg (by omega)] at v4 v5
          rw [if_neg (fun x => by omega), az] at L0 L1
          have hno : ∀ z, z < p → ¬ onM a' (3 * i + j) 2 z := by
            intro z hz ho
            by_cases cz : z = q
            · subst cz
              exact hQ _ ho
            · have ho' := (hO _ z cz).mp ho
              have hon' : onM a (3 * i + j) 2 q := by
                rw [c2] at hon
                exact hon
              rcases f11 with ⟨h6, h7⟩ | ⟨q', h7, h8, h9, h10⟩
              · exact h7 z hz ho'
              · exact cz ((h10 z hz ho').trans (h10 q hq hon').symm)
          refine ⟨⟨l, r, 0, by omega, by rw [v4, w1], by rw [v5, w2], v7⟩, ?_, ?_, ?_, ?_⟩
          · rw [v4, f8]
            exact L0.symm
          · rw [v5, f9]
            exact L1.symm
          · rw [v7]
            exact (sumN_0 p (fun z hz => if_neg (hno z hz))).symm
          · rw [v6]
            exact Or.inl ⟨rfl, hno⟩
    · rw [u3 m 4 (by omega), u3 m 5 (by omega), u3 m 6 (by omega), u3 m 7 (by omega)]
      rw [if_neg (fun x => c x.1), az] at L0 L1 L2
      have hO' : ∀ z, (onM a' m 2 z ↔ onM a m 2 z) := by
        intro z
        by_cases cz : z = q
        · subst cz
          refine ⟨fun x => absurd x (hQ _), fun x => ?_⟩
          have := x.2.1
          rw [s1] at this
          exact absurd this (i01 c (by omega) (by omega))
        · exact hO m z cz
      refine ⟨f7, f8.trans L0.symm, f9.trans L1.symm, f10.trans L2.symm, ?_⟩
      rcases f11 with ⟨h6, h7⟩ | ⟨q', h7, h8, h9, h10⟩
      · exact Or.inl ⟨h6, fun z hz ho => h7 z hz ((hO' z).mp ho)⟩
      · exact Or.inr ⟨q', h7, h8, (hO' q').mpr h9, fun z hz ho => h10 z hz ((hO' z).mp ho)⟩
  · refine ⟨by rw [y3]; exact hF.1, by rw [y4]; exact hF.2.1, fun z hz => ?_⟩
    obtain ⟨g1, g2, g3, g4, g5, g6, g7, g8, g9, g10, g11⟩ := hF.2.2 z hz
    rw [u4 z 0 (by omega), u4 z 1 (by omega), u4 z 2 (by omega), u4 z 3 (by omega), u4 z 8 (by omega), e55, e56, e57, e62, e64, e47, e60, e61]
    by_cases cz : z = q
    · subst cz
      rw [x4, x5, x9, u58, u59, if_pos rfl, if_pos rfl]
      refine ⟨g1, g2, g3, g4, rfl, g6, g7, g8, g9, g10, ?_⟩
      rcases hsv with ⟨e, hne⟩ | ⟨e, heq⟩
      · subst e
        refine Or.inl ⟨rfl, rfl, ⟨r0, hr0, rfl⟩, ?_, fun _ => ?_⟩
        · rw [if_neg (by decide)]
          exact s9
        · rw [s4, Ne, neq (by omega) (by omega)]
          exact hne
      · subst e
        refine Or.inr (Or.inr ⟨rfl, rfl, ⟨r0, hr0, rfl⟩, fun hh => ?_, ?_⟩)
        · refine hcl hh ?_
          rw [s3, s4, heq]
        · rw [if_pos rfl]
    · have ew : wth a' B z = wth a B z := wth_cg (q' := 0) (by rw [e55]) (by rw [e56]) (by rw [e62]) (u63 z cz) (by rw [e64]) e72 e73 e74 e75 e76 e77 e78
      rw [u4 z 4 (by omega), u4 z 5 (by omega), u4 z 6 (by omega), u4 z 7 (by omega), u4 z 9 (by omega), u58, u59, if_neg cz, if_neg cz, ew]
      exact ⟨g1, g2, g3, g4, g5, g6, g7, g8, g9, g10, g11⟩
