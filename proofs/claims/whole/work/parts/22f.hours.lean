def InvH (Hh t p k : Nat) (a : qa) : Prop := ∃ I S B T M : Nat, iA I a ∧ iB I S Hh a ∧ iC Hh a ∧ iD I t p a ∧ iE t p a ∧ iF I Hh t p B a ∧ iG Hh p k M a ∧ iH Hh B a ∧ iI T a ∧ a 10 0 11 = a 11 0 49
theorem hS_iF {I S Hh t p B : Nat} {a : qa} (h : iF I Hh t p B a) : iF I Hh t p B (hS a S Hh p) := by
  have u : ∀ c, c ≠ 4 → c ≠ 64 → hS a S Hh p c = a c := fun c h1 h2 => hS_u h1 h2
  obtain ⟨h1, h2, h3⟩ := h
  refine ⟨by rw [u 10 (by decide) (by decide)]; exact h1, by rw [u 11 (by decide) (by decide)]; exact h2, fun q hq => ?_⟩
  obtain ⟨g1, g2, g3, g4, g5, g6, g7, g8, g9, g10, g11⟩ := h3 q hq
  have v : ∀ k, k ≠ 8 → hS a S Hh p 4 q k = a 4 q k := fun k hk => hS_4 (Or.inl hk)
  rw [v 0 (by decide), v 1 (by decide), v 2 (by decide), v 3 (by decide), v 4 (by decide), v 5 (by decide), v 6 (by decide), v 7 (by decide), v 9 (by decide), hS_48 hq, hS_64' hq]
  simp only [u 55 (by decide) (by decide), u 56 (by decide) (by decide), u 57 (by decide) (by decide), u 58 (by decide) (by decide), u 59 (by decide) (by decide), u 60 (by decide) (by decide), u 61 (by decide) (by decide), u 62 (by decide) (by decide), u 47 (by decide) (by decide)]
  refine ⟨g1, g2, g3, g4, g5, by rw [g6], g7, g8, g9, g10, ?_⟩
  rcases g11 with h | h | ⟨k1, k2, k3, k4, k5⟩
  · exact Or.inl h
  · exact Or.inr (Or.inl h)
  · refine Or.inr (Or.inr ⟨k1, k2, k3, k4, ?_⟩)
    rw [k5]
    refine (wth_cg (q' := 0) ?_ ?_ ?_ ?_ ?_ ?_ ?_ ?_ ?_ ?_ ?_ ?_).symm
    · rw [u 55 (by decide) (by decide)]
    · rw [u 56 (by decide) (by decide)]
    · rw [u 62 (by decide) (by decide)]
    · rw [u 63 (by decide) (by decide)]
    · rw [hS_64' hq, hdv_f (hdP_2 k1), anz]
    · rw [u 72 (by decide) (by decide)]
    · rw [u 73 (by decide) (by decide)]
    · rw [u 74 (by decide) (by decide)]
    · rw [u 75 (by decide) (by decide)]
    · rw [u 76 (by decide) (by decide)]
    · rw [u 77 (by decide) (by decide)]
    · rw [u 78 (by decide) (by decide)]
theorem iF.next {I Hh t p B : Nat} {a a' : qa} (h : iF I Hh t p B a) (hH : Hh ≤ 9999) (e1 : a' 10 0 9 = a 10 0 9) (e2 : a' 11 0 20 = a 11 0 20) (e4 : a' 4 = a 4) (e55 : a' 55 = a 55) (e56 : a' 56 = a 56) (e57 : a' 57 = a 57) (e58 : a' 58 = a 58) (e59 : a' 59 = a 59) (e60 : a' 60 = a 60) (e61 : a' 61 = a 61) (e62 : a' 62 = a 62) (e63 : a' 63 = a 63) (e64 : a' 64 = a 64) (e72 : a' 72 = a 72) (e73 : a' 73 = a 73) (e74 : a' 74 = a 74) (e75 : a' 75 = a 75) (e76 : a' 76 = a 76) (e77 : a' 77 = a 77) (e78 : a' 78 = a 78) : iF I (Hh + 1) t p B a' := by
  have el : ∀ q, wth a' B q = wth a B q := fun q => wth_cg (q' := 0) (by rw [e55]) (by rw [e56]) (by rw [e62]) (by rw [e63]) (by rw [e64]) (by rw [e72]) (by rw [e73]) (by rw [e74]) (by rw [e75]) (by rw [e76]) (by rw [e77]) (by rw [e78])
  obtain ⟨h1, h2, h3⟩ := h
  refine ⟨e1.trans h1, e2.trans h2, fun q hq => ?_⟩
  obtain ⟨g1, g2, g3, g4, g5, g6, g7, g8, g9, ⟨c, hc, g10⟩, g11⟩ := h3 q hq
  have hne : ¬ a 62 0 q = nI (Hh + 1) := by
    rw [g10, neq (by omega) (by omega)]
    omega
  simp only [e4, e55, e56, e57, e58, e59, e60, e61, e62, e64, el]
  refine ⟨g1, g2, g3, g4, g5, g6, g7, g8, g9, ⟨c, by omega, g10⟩, ?_⟩
  rcases g11 with ⟨k1, k2, k3, k4, k5⟩ | ⟨k1, ⟨i, j, hi, hj, k2, k3, k4, k5⟩, k6⟩ | ⟨k1, k2, k3, k4, k5⟩
  · exact Or.inl ⟨k1, k2, k3, k4, fun x => absurd x hne⟩
  · exact Or.inr (Or.inl ⟨k1, ⟨i, j, hi, hj, k2, k3, k4, fun x => absurd x hne⟩, k6⟩)
  · exact Or.inr (Or.inr ⟨k1, k2, k3, hne, k5⟩)
theorem wk_b {w L c : Nat} (hw : w ≤ 100) (hL : L ≤ 120) (hc : c ≤ 9) : ∃ w', w' ≤ 100 ∧ wkT (nI w) (nI L) (nI c) = nI w' := by
  have hLc : L * c ≤ 120 * 9 := Nat.mul_le_mul hL hc
  have e : nI w + 2 + nI L * nI c / 100 = nI (w + 2 + L * c / 100) := by
    rw [l2, l100, nI_mul, nI_div (by omega) (by omega), nI_add, nI_add]
  unfold wkT
  rw [e, l100]
  by_cases h : w + 2 + L * c / 100 < 100
  · exact ⟨_, by omega, if_pos (by rw [nlt (by omega) (by omega)]; exact h)⟩
  · exact ⟨100, by omega, if_neg (by rw [nlt (by omega) (by omega)]; exact h)⟩
theorem rs_b {w : Nat} (hw : w ≤ 100) : ∃ w', w' ≤ 100 ∧ rsT (nI w) = nI w' := by
  unfold rsT
  by_cases h : 5 ≤ w
  · rw [l5, l0, nI_sub h]
    by_cases h' : 0 < w - 5
    · exact ⟨_, by omega, if_pos (by rw [nlt (by omega) (by omega)]; exact h')⟩
    · exact ⟨0, by omega, if_neg (by rw [nlt (by omega) (by omega)]; exact h')⟩
  · refine ⟨0, by omega, if_neg ?_⟩
    rw [l5, l0, q_lti, dI (by omega) (by omega), nT (by omega)]
    omega
theorem nTi_b {I Hh B t p m : Nat} {a : qa} (hI6 : I ≤ 6) (hA : iA I a) (hD : iD I t p a) (hE : iE t p a) (hF : iF I Hh t p B a) (hm : m < 3 * t) : (∃ w, w ≤ 100 ∧ nTi a p m = nI w) ∧ q_isb (nLa a p m) := by
  obtain ⟨f0, f1, f2, f3, f4, ⟨w, hw, f5⟩, f6, ⟨l, r, w', hw', w1, w2, w3⟩, f8⟩ := hE m hm
  have ld : a 3 m 4 + a 3 m 5 + a 3 m 7 = ldO a p m := ld_eq hE hF hm
  rw [w1, w2, w3, nI_add, nI_add] at ld
  unfold nTi nLa
  rw [f5, ← ld]
  by_cases h : a 47 0 (m / 3) = mI
  · rw [if_pos h, if_pos h]
    obtain ⟨t1, t2, t3, t4⟩ := hD.2.2 (m / 3) (by omega)
    have hc : ∃ c, c ≤ 9 ∧ clO a m = nI c := by
      rcases t4 with ⟨r, hr, q1, _⟩ | ⟨_, ⟨l', hl', q2⟩, _⟩
      · rw [h, mI_e (by omega)] at q1
        exact q1.elim
      · unfold clO
        rw [q2, nC (by omega)]
        exact hA.2.2.2.2.2.2.2.1 l' hl'
    obtain ⟨c, hc9, ec⟩ := hc
    rw [ec]
    obtain ⟨z, hz, ez⟩ := wk_b (w := w) (L := l + r + w') (c := c) hw hw' hc9
    rw [ez]
    by_cases d : a 53 0 m = 0
    · rw [if_pos d, if_pos d]
      refine ⟨⟨z, hz, rfl⟩, ?_⟩
      by_cases e : nI z = 100
      · rw [if_pos e]
        exact Or.inr rfl
      · rw [if_neg e]
        exact Or.inl rfl
    · rw [if_neg d, if_neg d]
      exact ⟨⟨w, hw, rfl⟩, f3⟩
  · rw [if_neg h, if_neg h]
    obtain ⟨z, hz, ez⟩ := rs_b hw
    rw [ez]
    refine ⟨⟨z, hz, rfl⟩, ?_⟩
    by_cases e : nI z = 0
    · rw [if_pos e]
      exact Or.inl rfl
    · rw [if_neg e]
      exact f3
def hrS (a : qa) (p Hh t : Nat) : qa := qs (qs (tS a p Hh (3 * t) t) 10 0 12 (nI (Hh + 1))) 11 0 1 (nI (Hh + 1))
theorem hr_u {a : qa} {p Hh t c : Nat} (h3 : c ≠ 3) (h9 : c ≠ 9) (h52 : c ≠ 52) (h53 : c ≠ 53) (h54 : c ≠ 54) (h47 : c ≠ 47) (h48 : c ≠ 48) (h10 : c ≠ 10) (h11 : c ≠ 11) : hrS a p Hh t c = a c := by
  funext i k
  unfold hrS
  rw [qs_nc h11, qs_nc h10, tS_u h3 h9 h52 h53 h54 h47 h48]
theorem hr_x {a : qa} {p Hh t c : Nat} (h10 : c ≠ 10) (h11 : c ≠ 11) : hrS a p Hh t c = tS a p Hh (3 * t) t c := by
  funext i k
  unfold hrS
  rw [qs_nc h11, qs_nc h10]
theorem hr_10 {a : qa} {p Hh t k : Nat} (h : k ≠ 12) : hrS a p Hh t 10 0 k = a 10 0 k := by
  unfold hrS
  rw [qs_nc (by decide), qs_nk h]
  rfl
theorem hr_11 {a : qa} {p Hh t k : Nat} (h : k ≠ 1) : hrS a p Hh t 11 0 k = a 11 0 k := by
  unfold hrS
  rw [qs_nk h, qs_nc (by decide)]
  rfl
theorem hr_inv {I S Hh B T M t p k : Nat} {a : qa} (hH : Hh < 9999) (ht : t ≤ 4) (hA : iA I a) (hB : iB I S Hh a) (hC : iC Hh a) (hD : iD I t p a) (hE : iE t p a) (hF : iF I Hh t p B a) (hG : iG Hh p k M a) (hB' : iH Hh B a) (hT : iI T a) (hJ : a 10 0 11 = a 11 0 49) : InvH (Hh + 1) t p k (hrS a p Hh t) := by
  have hI6 := hA.1
  have u : ∀ c, c ≠ 3 → c ≠ 9 → c ≠ 52 → c ≠ 53 → c ≠ 54 → c ≠ 47 → c ≠ 48 → c ≠ 10 → c ≠ 11 → hrS a p Hh t c = a c := fun c h1 h2 h3 h4 h5 h6 h7 h8 h9 => hr_u h1 h2 h3 h4 h5 h6 h7 h8 h9
  have u10 : ∀ n, n ≠ 12 → hrS a p Hh t 10 0 n = a 10 0 n := fun n h => hr_10 h
  have u11 : ∀ n, n ≠ 1 → hrS a p Hh t 11 0 n = a 11 0 n := fun n h => hr_11 h
  have v10 : hrS a p Hh t 10 0 12 = nI (Hh + 1) := rfl
  have v11 : hrS a p Hh t 11 0 1 = nI (Hh + 1) := rfl
  have v3 : hrS a p Hh t 3 = vC (w3 a p Hh) (3 * t) (a 3) := hr_x (by decide) (by decide)
  have v9 : hrS a p Hh t 9 = vC (w9 a Hh) t (a 9) := hr_x (by decide) (by decide)
  have v52 : hrS a p Hh t 52 = vR (nTi a p) (3 * t) (a 52) := hr_x (by decide) (by decide)
  have v53 : hrS a p Hh t 53 = vR (nLa a p) (3 * t) (a 53) := hr_x (by decide) (by decide)
  have v54 : hrS a p Hh t 54 = vR (nWe a p Hh) (3 * t) (a 54) := hr_x (by decide) (by decide)
  have v47 : hrS a p Hh t 47 = vR (f47 a Hh) t (a 47) := hr_x (by decide) (by decide)
  have v48 : hrS a p Hh t 48 = vR (f48 a Hh) t (a 48) := hr_x (by decide) (by decide)
  generalize hrS a p Hh t = a' at *
  refine ⟨I, S, B, T, M, hA.cg ?_ ?_ ?_ ?_ ?_ ?_ ?_ ?_, ?_, ⟨by omega, v10, v11⟩, ?_, ?_, hF.next hC.1 ?_ ?_ ?_ ?_ ?_ ?_ ?_ ?_ ?_ ?_ ?_ ?_ ?_ ?_ ?_ ?_ ?_ ?_ ?_ ?_, ?_, ?_, hT.cg ?_ ?_ ?_ ?_, ?_⟩
  all_goals first
    | exact u _ (by decide) (by decide) (by decide) (by decide) (by decide) (by decide) (by decide) (by decide) (by decide)
    | exact u10 _ (by decide)
    | exact u11 _ (by decide)
    | exact congrFun (congrFun (u _ (by decide) (by decide) (by decide) (by decide) (by decide) (by decide) (by decide) (by decide) (by decide)) _) _
    | skip
  · have hB1 : iB I S (Hh + 1) a := by
      obtain ⟨b1, b2, b3, b4, b5, b6, b7, b8⟩ := hB
      refine ⟨b1, b2, b3, b4, b5, b6, b7, fun j hj => ?_⟩
      obtain ⟨⟨q, hq, e⟩, h2⟩ := b8 j hj
      exact ⟨⟨q, by omega, e⟩, h2⟩
    refine hB1.cg ?_ ?_ ?_ ?_ ?_ ?_ ?_ ?_ ?_ ?_
    all_goals first
      | exact u _ (by decide) (by decide) (by decide) (by decide) (by decide) (by decide) (by decide) (by decide) (by decide)
      | exact u11 _ (by decide)
      | exact congrFun (congrFun (u _ (by decide) (by decide) (by decide) (by decide) (by decide) (by decide) (by decide) (by decide) (by decide)) _) _
  · refine ⟨(u10 8 (by decide)).trans hD.1, (u11 11 (by decide)).trans hD.2.1, fun i hi => ?_⟩
    have el : ldT a' i = ldT a i := by
      funext q
      unfold ldT
      rw [u 58 (by decide) (by decide) (by decide) (by decide) (by decide) (by decide) (by decide) (by decide) (by decide), u 60 (by decide) (by decide) (by decide) (by decide) (by decide) (by decide) (by decide) (by decide) (by decide)]
    obtain ⟨t1, t2, t3, t4⟩ := hD.2.2 i hi
    have e49 : a' 49 = a 49 := u 49 (by decide) (by decide) (by decide) (by decide) (by decide) (by decide) (by decide) (by decide) (by decide)
    have e50 : a' 50 = a 50 := u 50 (by decide) (by decide) (by decide) (by decide) (by decide) (by decide) (by decide) (by decide) (by decide)
    rw [el, v9, v47, v48, e49, e50, vR_y hi, vR_y hi, vC_y hi, vC_y hi, vC_y hi, vC_y hi, vC_y hi]
    unfold w9 f47 f48
    by_cases c : a 47 0 i = mI ∧ a 50 0 i = nI (Hh + 1)
    · simp only [if_pos c, if_pos, if_neg, Nat.reduceEqDiff, if_true, if_false]
      refine ⟨trivial, trivial, t3, Or.inl ?_⟩
      rcases t4 with ⟨r, hr, q1, _⟩ | ⟨_, ⟨l, hl, q2⟩, q3, q4, q5⟩
      · have := c.1
        rw [q1, e_mI (by omega)] at this
        exact this.elim
      · unfold nIn
        rw [q2]
        by_cases d : a 49 0 i = nI 0
        · rw [if_pos d]
          exact ⟨l, by omega, rfl, rfl, rfl⟩
        · rw [if_neg d]
          exact ⟨l + 1, by omega, nI_add l 1, rfl, rfl⟩
    · simp only [if_neg c]
      exact ⟨t1, t2, t3, t4⟩
  · intro m hm
    have el : ∀ x, ldW a' m x = ldW a m x := by
      intro x
      funext q
      unfold ldW
      rw [u 56 (by decide) (by decide) (by decide) (by decide) (by decide) (by decide) (by decide) (by decide) (by decide), u 58 (by decide) (by decide) (by decide) (by decide) (by decide) (by decide) (by decide) (by decide) (by decide), u 60 (by decide) (by decide) (by decide) (by decide) (by decide) (by decide) (by decide) (by decide) (by decide), u 61 (by decide) (by decide) (by decide) (by decide) (by decide) (by decide) (by decide) (by decide) (by decide)]
    have eo : ∀ x q, onM a' m x q = onM a m x q := by
      intro x q
      unfold onM
      rw [u 58 (by decide) (by decide) (by decide) (by decide) (by decide) (by decide) (by decide) (by decide) (by decide), u 60 (by decide) (by decide) (by decide) (by decide) (by decide) (by decide) (by decide) (by decide) (by decide), u 61 (by decide) (by decide) (by decide) (by decide) (by decide) (by decide) (by decide) (by decide) (by decide)]
    have e51 : a' 51 = a 51 := u 51 (by decide) (by decide) (by decide) (by decide) (by decide) (by decide) (by decide) (by decide) (by decide)
    have x0 : ∀ k, k ≠ 1 → k ≠ 2 → k ≠ 3 → a' 3 m k = a 3 m k := by
      intro k h1 h2 h3
      rw [v3, vC_y hm]
      unfold w3
      rw [if_neg h1, if_neg h2, if_neg h3]
    have x1 : a' 3 m 1 = nTi a p m := by
      rw [v3, vC_y hm]
      rfl
    have x2 : a' 3 m 2 = nLa a p m := by
      rw [v3, vC_y hm]
      rfl
    have x3 : a' 3 m 3 = nWe a p Hh m := by
      rw [v3, vC_y hm]
      rfl
    obtain ⟨f0, f1, f2, f3, f4, f5, f6, f7, f8, f9, f10, f11⟩ := hE m hm
    obtain ⟨n1, n2⟩ := nTi_b hI6 hA hD hE hF hm
    rw [x0 0 (by decide) (by decide) (by decide), x1, x2, x3, x0 4 (by decide) (by decide) (by decide), x0 5 (by decide) (by decide) (by decide), x0 6 (by decide) (by decide) (by decide), x0 7 (by decide) (by decide) (by decide), e51, v52, v53, v54, vR_y hm, vR_y hm, vR_y hm, el, el, el]
    simp only [eo]
    exact ⟨f0, trivial, trivial, n2, trivial, n1, f6, f7, f8, f9, f10, f11⟩
  · have hG1 : iG (Hh + 1) p k M a := by
      obtain ⟨h1, h2, h3, h4⟩ := hG
      refine ⟨h1, h2, h3, fun j hj => ?_⟩
      obtain ⟨q1, q2, q3, q, c, h, y1, y2, y3, y4, y5, y6⟩ := h4 j hj
      exact ⟨q1, q2, q3, q, c, h, y1, y2, y3, y4, y5, by omega⟩
    refine hG1.cg ?_ ?_ ?_ ?_ ?_ ?_ ?_ ?_ ?_
    all_goals first
      | exact u _ (by decide) (by decide) (by decide) (by decide) (by decide) (by decide) (by decide) (by decide) (by decide)
      | exact u11 _ (by decide)
      | exact congrFun (congrFun (u _ (by decide) (by decide) (by decide) (by decide) (by decide) (by decide) (by decide) (by decide) (by decide)) _) _
  · have hH1 : iH (Hh + 1) B a := by
      obtain ⟨h1, h2, h3, h4⟩ := hB'
      refine ⟨h1, h2, h3, fun b hb => ?_⟩
      obtain ⟨q1, ⟨h, hh, e⟩, q3⟩ := h4 b hb
      exact ⟨q1, ⟨h, by omega, e⟩, q3⟩
    refine hH1.cg ?_ ?_ ?_ ?_ ?_ ?_ ?_ ?_ ?_ ?_ ?_ ?_ ?_ ?_ ?_
    all_goals first
      | exact u _ (by decide) (by decide) (by decide) (by decide) (by decide) (by decide) (by decide) (by decide) (by decide)
      | exact u10 _ (by decide)
      | exact u11 _ (by decide)
  · rw [u10 11 (by decide), u11 49 (by decide)]
    exact hJ
set_option maxHeartbeats 4000000 in
theorem hour_step {Hh t p k : Nat} {a : qa} (hH : Hh < 9999) (ht : t ≤ 4) (hp : p ≤ 100) (h : InvH Hh t p k a) : ∃ a', InvH (Hh + 1) t p k a' ∧ (∀ (b : qa) (post : qa → Prop), post (mix a' b) → wp_X10_passHour t p (mix a b) post) ∧ (∀ (b : qa) (post : qa → Prop), post (mix b a') → wp_X11_goes t p (mix b a) post) := by
  obtain ⟨I, S, B, T, M, hA, hB, hC, hD, hE, hF, hG, hB', hT, hJ⟩ := h
  have hI6 := hA.1
  obtain ⟨b1, b2, b3, b4, b5, b6, b7, b8⟩ := id hB
  have hF1 : iF I Hh t p B (hS a S Hh p) := hS_iF hF
  have u : ∀ c, c ≠ 4 → c ≠ 64 → hS a S Hh p c = a c := fun c h1 h2 => hS_u h1 h2
  have uu : ∀ c i n, c ≠ 4 → c ≠ 64 → hS a S Hh p c i n = a c i n := fun c i n h1 h2 => by rw [u c h1 h2]
  have hA1 : iA I (hS a S Hh p) := hA.cg (uu 6 0 7 (by decide) (by decide)) (uu 11 0 2 (by decide) (by decide)) (u 25 (by decide) (by decide)) (u 26 (by decide) (by decide)) (u 27 (by decide) (by decide)) (u 40 (by decide) (by decide)) (u 41 (by decide) (by decide)) (u 42 (by decide) (by decide))
  have hD1 : iD I t p (hS a S Hh p) := hD.cg (uu 10 0 8 (by decide) (by decide)) (uu 11 0 11 (by decide) (by decide)) (u 9 (by decide) (by decide)) (u 47 (by decide) (by decide)) (u 48 (by decide) (by decide)) (u 49 (by decide) (by decide)) (u 50 (by decide) (by decide)) (u 58 (by decide) (by decide)) (u 60 (by decide) (by decide))
  have hE1 : iE t p (hS a S Hh p) := hE.cg (u 3 (by decide) (by decide)) (u 51 (by decide) (by decide)) (u 52 (by decide) (by decide)) (u 53 (by decide) (by decide)) (u 54 (by decide) (by decide)) (u 56 (by decide) (by decide)) (u 58 (by decide) (by decide)) (u 60 (by decide) (by decide)) (u 61 (by decide) (by decide))
  have h12 : hS a S Hh p 10 0 12 = nI Hh := (uu 10 0 12 (by decide) (by decide)).trans hC.2.1
  have h111 : hS a S Hh p 11 0 1 = nI Hh := (uu 11 0 1 (by decide) (by decide)).trans hC.2.2
  refine ⟨hrS (hS a S Hh p) p Hh t, hr_inv (T := T) (M := M) (S := S) (B := B) hH ht hA1 ?_ ⟨hC.1, h12, h111⟩ hD1 hE1 hF1 ?_ ?_ ?_ ?_, ?_, ?_⟩
  · exact hB.cg (uu 6 0 8 (by decide) (by decide)) (uu 11 0 6 (by decide) (by decide)) (u 28 (by decide) (by decide)) (u 29 (by decide) (by decide)) (u 30 (by decide) (by decide)) (u 31 (by decide) (by decide)) (u 43 (by decide) (by decide)) (u 44 (by decide) (by decide)) (u 45 (by decide) (by decide)) (u 46 (by decide) (by decide))
  · exact hG.cg (uu 2 0 3 (by decide) (by decide)) (uu 11 0 31 (by decide) (by decide)) (u 22 (by decide) (by decide)) (u 23 (by decide) (by decide)) (u 24 (by decide) (by decide)) (u 62 (by decide) (by decide)) (u 65 (by decide) (by decide)) (u 66 (by decide) (by decide)) (u 67 (by decide) (by decide))
  · exact hB'.cg (uu 10 0 10 (by decide) (by decide)) (uu 11 0 50 (by decide) (by decide)) (u 0 (by decide) (by decide)) (u 12 (by decide) (by decide)) (u 13 (by decide) (by decide)) (u 14 (by decide) (by decide)) (u 15 (by decide) (by decide)) (u 16 (by decide) (by decide)) (u 72 (by decide) (by decide)) (u 73 (by decide) (by decide)) (u 74 (by decide) (by decide)) (u 75 (by decide) (by decide)) (u 76 (by decide) (by decide)) (u 77 (by decide) (by decide)) (u 78 (by decide) (by decide))
  · exact hT.cg (uu 7 0 1 (by decide) (by decide)) (uu 11 0 42 (by decide) (by decide)) (u 32 (by decide) (by decide)) (u 71 (by decide) (by decide))
  · rw [uu 10 0 11 (by decide) (by decide), uu 11 0 49 (by decide) (by decide)]
    exact hJ
  · intro b post kk
    have eb : mix (hrS (hS a S Hh p) p Hh t) b = qs (mix (tS (hS a S Hh p) p Hh (3 * t) t) b) 10 0 12 (nI (Hh + 1)) := by
      unfold hrS
      rw [mix_qx (by decide), mix_qc (by decide)]
    rw [eb] at kk
    have h3 : ∃ n_23, wl_X10_passHour_23 t p post n_23 (nI 0) (mix (hS a S Hh p) b) := by
      have := sl_pass (b := b) (post := post) ht hC.1 hA1 h12 hD1 hE1 hF1 kk 4 0 (by omega) (by omega)
      have e0 : tS (hS a S Hh p) p Hh (3 * 0) 0 = hS a S Hh p := tS_0 _ _ _
      rw [e0] at this
      exact ⟨5, this⟩
    unfold wp_X10_passHour
    have x12 : mix a b 10 0 12 = nI Hh := hC.2.1
    rw [x12]
    refine sp_shutLegs (I := I) (S := S) hI6 b1 b2 ?_ ?_
    · intro j hj
      obtain ⟨_, l, hl, e⟩ := b8 j hj
      exact ⟨l, hl, (b4 j).trans e⟩
    · intro R hR hb
      have hb' : ∀ l, l < 6 → (R.testBit l = true ↔ shE a S (nI l) (nI Hh) (nI Hh)) := by
        intro l hl
        rw [hb l hl]
        have es : ∀ i, i < S → (sP (mix a b) Hh l i ↔ shP a (nI l) (nI Hh) (nI Hh) i) := by
          intro i hi
          have y1 : mix a b 28 0 i = a 43 0 i := b4 i
          have y2 : mix a b 29 0 i = a 44 0 i := b5 i
          have y3 : mix a b 30 0 i = a 45 0 i := b6 i
          obtain ⟨⟨q, hq, e⟩, _⟩ := b8 i hi
          unfold sP shP
          rw [y1, y2, y3, e, nlt (by have := hC.1; omega) (by have := hC.1; omega)]
          constructor
          · rintro ⟨h1, h2, h3⟩
            exact ⟨h1, by omega, h2, h3⟩
          · rintro ⟨h1, h2, h3, h4⟩
            exact ⟨h1, h3, h4⟩
        unfold shE
        constructor
        · rintro ⟨i, hi, h⟩
          exact ⟨i, hi, (es i hi).mp h⟩
        · rintro ⟨i, hi, h⟩
          exact ⟨i, hi, (es i hi).mpr h⟩
      refine ⟨fun hz => ?_, fun hz => ?_⟩
      · have e : ∀ n, n ≤ p → hS a S Hh n = a := by
          intro n
          induction n with
          | zero =>
            intro _
            exact hS_0 _ _ _
          | succ n ih =>
            intro hn
            rw [hS_s0, ih (by omega)]
            refine hdv_f ?_
            rintro ⟨r, tg, hr, htg, e1, e2, e3, e4⟩
            have hl := lgO_lt hr htg e2
            have := (hb' (lgO r tg) (by omega)).mpr e3
            have hR0 : R = 0 := nIe (hz.trans l0) (by omega) (by omega)
            rw [hR0, Nat.zero_testBit] at this
            exact absurd this (by decide)
        rw [e p (Nat.le_refl _)] at h3
        exact h3
      · have := sl_hold (b := b) (post := fun a18 => ∃ n_23, wl_X10_passHour_23 t p post n_23 (nI 0) a18) ht hp hI6 hD hF hR hb' h3 p 0 (by omega)
        rw [hS_0] at this
        exact ⟨p + 1, this⟩
  · intro b post kk
    have eb : mix b (hrS (hS a S Hh p) p Hh t) = qs (mix b (tS (hS a S Hh p) p Hh (3 * t) t)) 11 0 1 (nI (Hh + 1)) := by
      unfold hrS
      rw [← mix_qr (by decide), mix_qy (by decide)]
    rw [eb] at kk
    unfold wp_X11_goes wp_X11_holds
    have h3 : ∃ n_6, wl_X11_goes_6 t p post n_6 (nI 0) (mix b (hS a S Hh p)) := by
      have := sl_goes6 (b := b) (post := post) ht hp hI6 h111 hD1 hE1 hF1 kk t 0 (by omega)
      have e0 : tS (hS a S Hh p) p Hh (3 * 0) 0 = hS a S Hh p := tS_0 _ _ _
      rw [e0] at this
      exact ⟨t + 1, this⟩
    have := sl_holdR (S := S) (b := b) (post := fun a1 => ∃ n_6, wl_X11_goes_6 t p post n_6 (nI 0) a1) ht hp hI6 b1 b3 hC.2.2 hD hF h3 p 0 (by omega)
    rw [hS_0] at this
    exact ⟨p + 1, this⟩
theorem hours_all {t p k N : Nat} (ht : t ≤ 4) (hp : p ≤ 100) (hN : N ≤ 100) : ∀ (n j Hh : Nat) (a : qa), j + n = N → Hh + n ≤ 9999 → InvH Hh t p k a → ∃ a', InvH (Hh + n) t p k a' ∧ (∀ (b : qa) (post : Int32 → qa → Prop), post (nI (Hh + n)) (mix a' b) → wl_X10_hours_27 t p post (n + 1) (nI N) (nI j) (mix a b)) ∧ (∀ (b : qa) (post : Int32 → qa → Prop), post (nI (Hh + n)) (mix b a') → wl_X11_hours_31 t p post (n + 1) (nI N) (nI j) (mix b a)) := by
  intro n
  induction n with
  | zero =>
    intro j Hh a hj hH h
    obtain rfl : j = N := by omega
    obtain ⟨I, S, B, T, M, hA, hB, hC, hR⟩ := id h
    refine ⟨a, h, fun b post kk => ?_, fun b post kk => ?_⟩
    · have x : mix a b 10 0 12 = nI Hh := hC.2.1
      unfold wl_X10_hours_27
      simp (disch := first | assumption | omega) only [x, l0, l1, l2, l3, l4, l5, l6, l7, l8, l9, l10, l20, l60, l61, l62, bb_t, bb_f, l100, l120, l512, l400, l401, l700, l9999, nm1, lm1, nlt, nle, neq, glt, gle, lgt, lge, geq, egq, mI_l, mI_e, e_mI, l_mI, le_mI, mI_le, bI_z, nC, vnI, nI_add, nI_sb, nI_mul, a1m, qs_eq, qs_nc, qs_ni, qs_nk, bq_l, bq_r, bq_l', bq_r', bq_t, bq_f, bq_t', bq_f', bq_n, bq_m, iT, iS, iN, true_and, and_true, eq_self, not_true_eq_false, not_false_eq_true, forall_const, bx_t, bx_f, reduceCtorEq, Option.some.injEq, forall_eq', ite_true, ite_false]
      exact kk
    · have x : mix b a 11 0 1 = nI Hh := hC.2.2
      unfold wl_X11_hours_31
      simp (disch := first | assumption | omega) only [x, l0, l1, l2, l3, l4, l5, l6, l7, l8, l9, l10, l20, l60, l61, l62, bb_t, bb_f, l100, l120, l512, l400, l401, l700, l9999, nm1, lm1, nlt, nle, neq, glt, gle, lgt, lge, geq, egq, mI_l, mI_e, e_mI, l_mI, le_mI, mI_le, bI_z, nC, vnI, nI_add, nI_sb, nI_mul, a1m, qs_eq, qs_nc, qs_ni, qs_nk, bq_l, bq_r, bq_l', bq_r', bq_t, bq_f, bq_t', bq_f', bq_n, bq_m, iT, iS, iN, true_and, and_true, eq_self, not_true_eq_false, not_false_eq_true, forall_const, bx_t, bx_f, reduceCtorEq, Option.some.injEq, forall_eq', ite_true, ite_false]
      exact kk
  | succ n ih =>
    intro j Hh a hj hH h
    obtain ⟨a1, h1, s1, s2⟩ := hour_step (by omega) ht hp h
    obtain ⟨a2, h2, r1, r2⟩ := ih (j + 1) (Hh + 1) a1 (by omega) (by omega) h1
    have e : Hh + 1 + n = Hh + (n + 1) := by omega
    rw [e] at h2 r1 r2
    refine ⟨a2, h2, fun b post kk => ?_, fun b post kk => ?_⟩
    · have := r1 b post kk
      unfold wl_X10_hours_27
      simp (disch := first | assumption | omega) only [l0, l1, l2, l3, l4, l5, l6, l7, l8, l9, l10, l20, l60, l61, l62, bb_t, bb_f, l100, l120, l512, l400, l401, l700, l9999, nm1, lm1, nlt, nle, neq, glt, gle, lgt, lge, geq, egq, mI_l, mI_e, e_mI, l_mI, le_mI, mI_le, bI_z, nC, vnI, nI_add, nI_sb, nI_mul, a1m, qs_eq, qs_nc, qs_ni, qs_nk, bq_l, bq_r, bq_l', bq_r', bq_t, bq_f, bq_t', bq_f', bq_n, bq_m, iT, iS, iN, true_and, and_true, eq_self, not_true_eq_false, not_false_eq_true, forall_const, bx_t, bx_f, reduceCtorEq, Option.some.injEq, forall_eq', ite_true, ite_false]
      exact s1 b _ this
    · have := r2 b post kk
      unfold wl_X11_hours_31
      simp (disch := first | assumption | omega) only [l0, l1, l2, l3, l4, l5, l6, l7, l8, l9, l10, l20, l60, l61, l62, bb_t, bb_f, l100, l120, l512, l400, l401, l700, l9999, nm1, lm1, nlt, nle, neq, glt, gle, lgt, lge, geq, egq, mI_l, mI_e, e_mI, l_mI, le_mI, mI_le, bI_z, nC, vnI, nI_add, nI_sb, nI_mul, a1m, qs_eq, qs_nc, qs_ni, qs_nk, bq_l, bq_r, bq_l', bq_r', bq_t, bq_f, bq_t', bq_f', bq_n, bq_m, iT, iS, iN, true_and, and_true, eq_self, not_true_eq_false, not_false_eq_true, forall_const, bx_t, bx_f, reduceCtorEq, Option.some.injEq, forall_eq', ite_true, ite_false]
      exact s2 b _ this
set_option maxHeartbeats 4000000 in
theorem pr_hours : ob_hours Inv := by
  intro t p k a x1 hk ht hp hI
  have no : Inv t p (k + 1) (qs a 11 0 0 0) := hI.th 0
  obtain ⟨I, S, Hh, B, T, M, hA, hB, hC, hD, hE, hF, hG, hH, hT, hJ⟩ := id no
  obtain ⟨c1, c2, c3⟩ := id hC
  have c2' : a 10 0 12 = nI Hh := c2
  have c3' : a 11 0 1 = nI Hh := c3
  rcases i32c x1 with g1 | ⟨n, h1, rfl⟩
  · simp (disch := first | assumption | omega) only [wp_X10_hours, wp_X11_hours, wp_X11_within, l0, l1, l2, l3, l4, l5, l6, l7, l8, l9, l10, l20, l60, l61, l62, bb_t, bb_f, l100, l120, l512, l400, l401, l700, l9999, nm1, lm1, nlt, nle, neq, glt, gle, lgt, lge, geq, egq, mI_l, mI_e, e_mI, l_mI, le_mI, mI_le, bI_z, nC, vnI, nI_add, nI_sb, nI_mul, a1m, qs_eq, qs_nc, qs_ni, qs_nk, bq_l, bq_r, bq_l', bq_r', bq_t, bq_f, bq_t', bq_f', bq_n, bq_m, iT, iS, iN, true_and, and_true, eq_self, not_true_eq_false, not_false_eq_true, forall_const, bx_t, bx_f, reduceCtorEq, Option.some.injEq, forall_eq', ite_true, ite_false]
    exact no
  by_cases d1 : n < 1
  · simp (disch := first | assumption | omega) only [wp_X10_hours, wp_X11_hours, wp_X11_within, l0, l1, l2, l3, l4, l5, l6, l7, l8, l9, l10, l20, l60, l61, l62, bb_t, bb_f, l100, l120, l512, l400, l401, l700, l9999, nm1, lm1, nlt, nle, neq, glt, gle, lgt, lge, geq, egq, mI_l, mI_e, e_mI, l_mI, le_mI, mI_le, bI_z, nC, vnI, nI_add, nI_sb, nI_mul, a1m, qs_eq, qs_nc, qs_ni, qs_nk, bq_l, bq_r, bq_l', bq_r', bq_t, bq_f, bq_t', bq_f', bq_n, bq_m, iT, iS, iN, true_and, and_true, eq_self, not_true_eq_false, not_false_eq_true, forall_const, bx_t, bx_f, reduceCtorEq, Option.some.injEq, forall_eq', ite_true, ite_false]
    exact no
  by_cases d2 : 100 < n
  · simp (disch := first | assumption | omega) only [wp_X10_hours, wp_X11_hours, wp_X11_within, l0, l1, l2, l3, l4, l5, l6, l7, l8, l9, l10, l20, l60, l61, l62, bb_t, bb_f, l100, l120, l512, l400, l401, l700, l9999, nm1, lm1, nlt, nle, neq, glt, gle, lgt, lge, geq, egq, mI_l, mI_e, e_mI, l_mI, le_mI, mI_le, bI_z, nC, vnI, nI_add, nI_sb, nI_mul, a1m, qs_eq, qs_nc, qs_ni, qs_nk, bq_l, bq_r, bq_l', bq_r', bq_t, bq_f, bq_t', bq_f', bq_n, bq_m, iT, iS, iN, true_and, and_true, eq_self, not_true_eq_false, not_false_eq_true, forall_const, bx_t, bx_f, reduceCtorEq, Option.some.injEq, forall_eq', ite_true, ite_false]
    exact no
  by_cases d3 : Hh + n ≤ 9999
  · obtain ⟨a2, h2, r1, r2⟩ := hours_all (N := n) (k := k + 1) ht hp (by omega) n 0 Hh (qs a 11 0 0 0) (by omega) d3 ⟨I, S, B, T, M, hA, hB, hC, hD, hE, hF, hG, hH, hT, hJ⟩
    have e1 : mix (qs a 11 0 0 0) a = a := by rw [mix_qx (by decide), mix_s]
    have q1 := r1 a (fun r a1 => wp_X11_hours t p (nI n) a1 fun r' a2 => r = r' ∧ Inv t p (k + 1) a2)
    rw [e1] at q1
    simp (disch := first | assumption | omega) only [wp_X10_hours, c2', l0, l1, l2, l3, l4, l5, l6, l7, l8, l9, l10, l20, l60, l61, l62, bb_t, bb_f, l100, l120, l512, l400, l401, l700, l9999, nm1, lm1, nlt, nle, neq, glt, gle, lgt, lge, geq, egq, mI_l, mI_e, e_mI, l_mI, le_mI, mI_le, bI_z, nC, vnI, nI_add, nI_sb, nI_mul, a1m, qs_eq, qs_nc, qs_ni, qs_nk, bq_l, bq_r, bq_l', bq_r', bq_t, bq_f, bq_t', bq_f', bq_n, bq_m, iT, iS, iN, true_and, and_true, eq_self, not_true_eq_false, not_false_eq_true, forall_const, bx_t, bx_f, reduceCtorEq, Option.some.injEq, forall_eq', ite_true, ite_false]
    refine ⟨n + 1, q1 ?_⟩
    have q2 := r2 a2 (fun r' a2 => nI (Hh + n) = r' ∧ Inv t p (k + 1) a2)
    have e2 : qs (mix a2 a) 11 0 0 (nI 0) = mix a2 (qs a 11 0 0 0) := mix_qr (by decide)
    have x1 : mix a2 a 11 0 1 = nI Hh := c3'
    unfold wp_X11_hours
    simp (disch := first | assumption | omega) only [wp_X11_within, x1, l0, l1, l2, l3, l4, l5, l6, l7, l8, l9, l10, l20, l60, l61, l62, bb_t, bb_f, l100, l120, l512, l400, l401, l700, l9999, nm1, lm1, nlt, nle, neq, glt, gle, lgt, lge, geq, egq, mI_l, mI_e, e_mI, l_mI, le_mI, mI_le, bI_z, nC, vnI, nI_add, nI_sb, nI_mul, a1m, qs_eq, qs_nc, qs_ni, qs_nk, bq_l, bq_r, bq_l', bq_r', bq_t, bq_f, bq_t', bq_f', bq_n, bq_m, iT, iS, iN, true_and, and_true, eq_self, not_true_eq_false, not_false_eq_true, forall_const, bx_t, bx_f, reduceCtorEq, Option.some.injEq, forall_eq', ite_true, ite_false]
    rw [e2]
    refine ⟨n + 1, q2 ⟨rfl, ?_⟩⟩
    rw [mix_s]
    obtain ⟨I, S, B, T, M, h⟩ := h2
    exact ⟨I, S, Hh + n, B, T, M, h⟩
  · simp (disch := first | assumption | omega) only [wp_X10_hours, c2', wp_X11_hours, wp_X11_within, c3', l0, l1, l2, l3, l4, l5, l6, l7, l8, l9, l10, l20, l60, l61, l62, bb_t, bb_f, l100, l120, l512, l400, l401, l700, l9999, nm1, lm1, nlt, nle, neq, glt, gle, lgt, lge, geq, egq, mI_l, mI_e, e_mI, l_mI, le_mI, mI_le, bI_z, nC, vnI, nI_add, nI_sb, nI_mul, a1m, qs_eq, qs_nc, qs_ni, qs_nk, bq_l, bq_r, bq_l', bq_r', bq_t, bq_f, bq_t', bq_f', bq_n, bq_m, iT, iS, iN, true_and, and_true, eq_self, not_true_eq_false, not_false_eq_true, forall_const, bx_t, bx_f, reduceCtorEq, Option.some.injEq, forall_eq', ite_true, ite_false]
    exact no
