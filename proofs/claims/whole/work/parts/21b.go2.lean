theorem iF.c47 {I Hh t p B : Nat} {a a' : qa} (h : iF I Hh t p B a) (hI : I ≤ 6) (e1 : a' 10 0 9 = a 10 0 9) (e2 : a' 11 0 20 = a 11 0 20) (e4 : a' 4 = a 4) (e47 : ∀ i, a' 47 0 i = a 47 0 i ∨ a' 47 0 i = mI) (e55 : a' 55 = a 55) (e56 : a' 56 = a 56) (e57 : a' 57 = a 57) (e58 : a' 58 = a 58) (e59 : a' 59 = a 59) (e60 : a' 60 = a 60) (e61 : a' 61 = a 61) (e62 : a' 62 = a 62) (e63 : a' 63 = a 63) (e64 : a' 64 = a 64) (e72 : a' 72 = a 72) (e73 : a' 73 = a 73) (e74 : a' 74 = a 74) (e75 : a' 75 = a 75) (e76 : a' 76 = a 76) (e77 : a' 77 = a 77) (e78 : a' 78 = a 78) : iF I Hh t p B a' := by
  have el : ∀ q, wth a' B q = wth a B q := fun q => wth_cg (q' := 0) (by rw [e55]) (by rw [e56]) (by rw [e62]) (by rw [e63]) (by rw [e64]) (by rw [e72]) (by rw [e73]) (by rw [e74]) (by rw [e75]) (by rw [e76]) (by rw [e77]) (by rw [e78])
  obtain ⟨h1, h2, h3⟩ := h
  refine ⟨e1.trans h1, e2.trans h2, fun q hq => ?_⟩
  obtain ⟨g1, g2, g3, g4, g5, g6, g7, g8, ⟨tg, htg, g9⟩, g10, g11⟩ := h3 q hq
  simp only [e4, e55, e56, e57, e58, e59, e60, e61, e62, e64, el]
  refine ⟨g1, g2, g3, g4, g5, g6, g7, g8, ⟨tg, htg, g9⟩, g10, ?_⟩
  rcases g11 with h | ⟨k1, ⟨i, j, hi, hj, k2, k3, k4, k5⟩, k6⟩ | h
  · exact Or.inl h
  · refine Or.inr (Or.inl ⟨k1, ⟨i, j, hi, hj, k2, k3, k4, fun hc => ?_⟩, k6⟩)
    rcases e47 i with e | e
    · rw [e]
      exact k5 hc
    · rw [e, g9]
      intro x
      rw [mI_e (by omega)] at x
      exact x
  · exact Or.inr (Or.inr h)
theorem go_inv {I S Hh B T M t p k : Nat} {a a' : qa} {i L : Nat} {x2 v : Int32} (hA : iA I a) (hB : iB I S Hh a) (hC : iC Hh a) (hD : iD I t p a) (hE : iE t p a) (hF : iF I Hh t p B a) (hG : iG Hh p k M a) (hH : iH Hh B a) (hT : iI T a) (hJ : a 10 0 11 = a 11 0 49) (hb : q_isb x2) (hL : L + 1 < I) (w : ∀ c, c ≠ 9 → c ≠ 11 → c ≠ 47 → c ≠ 48 → c ≠ 49 → c ≠ 50 → a' c = a c) (w11 : ∀ n, n ≠ 0 → a' 11 0 n = a 11 0 n) (u9 : ∀ m n, ¬ (m = i ∧ 1 ≤ n ∧ n ≤ 4) → a' 9 m n = a 9 m n) (v1 : a' 9 i 1 = mI) (v2 : a' 9 i 2 = nI L) (v3 : a' 9 i 3 = x2) (v4 : a' 9 i 4 = v) (u47 : ∀ m, a' 47 0 m = if m = i then mI else a 47 0 m) (u48 : ∀ m, a' 48 0 m = if m = i then nI L else a 48 0 m) (u49 : ∀ m, a' 49 0 m = if m = i then x2 else a 49 0 m) (u50 : ∀ m, a' 50 0 m = if m = i then v else a 50 0 m) : Inv t p (k + 1) a' := by
  have x10 : ∀ n, a' 10 0 n = a 10 0 n := fun n => congrFun (congrFun (w 10 (by decide) (by decide) (by decide) (by decide) (by decide) (by decide)) 0) n
  refine ⟨I, S, Hh, B, T, M, hA.cg ?_ ?_ ?_ ?_ ?_ ?_ ?_ ?_, hB.cg ?_ ?_ ?_ ?_ ?_ ?_ ?_ ?_ ?_ ?_, ⟨hC.1, (x10 12).trans hC.2.1, (w11 1 (by decide)).trans hC.2.2⟩, ?_, hE.cg ?_ ?_ ?_ ?_ ?_ ?_ ?_ ?_ ?_, hF.c47 hA.1 ?_ ?_ ?_ ?_ ?_ ?_ ?_ ?_ ?_ ?_ ?_ ?_ ?_ ?_ ?_ ?_ ?_ ?_ ?_ ?_ ?_, (hG.k).cg ?_ ?_ ?_ ?_ ?_ ?_ ?_ ?_ ?_, hH.cg ?_ ?_ ?_ ?_ ?_ ?_ ?_ ?_ ?_ ?_ ?_ ?_ ?_ ?_ ?_, hT.cg ?_ ?_ ?_ ?_, ?_⟩
  all_goals first
    | exact w _ (by decide) (by decide) (by decide) (by decide) (by decide) (by decide)
    | exact w11 _ (by decide)
    | exact congrFun (congrFun (w _ (by decide) (by decide) (by decide) (by decide) (by decide) (by decide)) _) _
    | skip
  · refine ⟨(x10 8).trans hD.1, (w11 11 (by decide)).trans hD.2.1, fun m hm => ?_⟩
    have el : ldT a' m = ldT a m := by
      funext q
      unfold ldT
      rw [w 58 (by decide) (by decide) (by decide) (by decide) (by decide) (by decide), w 60 (by decide) (by decide) (by decide) (by decide) (by decide) (by decide)]
    obtain ⟨t1, t2, t3, t4⟩ := hD.2.2 m hm
    rw [u9 m 5 (by omega), el]
    by_cases c : m = i
    · subst c
      rw [u47, u48, u49, u50, if_pos rfl, if_pos rfl, if_pos rfl, if_pos rfl]
      exact ⟨v1, v2, t3, Or.inr ⟨rfl, ⟨L, hL, rfl⟩, v3, hb, v4⟩⟩
    · rw [u47, u48, u49, u50, if_neg c, if_neg c, if_neg c, if_neg c, u9 m 1 (by omega), u9 m 2 (by omega), u9 m 3 (by omega), u9 m 4 (by omega)]
      exact ⟨t1, t2, t3, t4⟩
  · intro m
    rw [u47]
    by_cases c : m = i
    · rw [if_pos c]
      exact Or.inr rfl
    · rw [if_neg c]
      exact Or.inl rfl
  · rw [x10, w11 49 (by decide)]
    exact hJ
theorem shE_cg {a a' : qa} {S : Nat} {x1 x2 x3 : Int32} (e43 : a' 43 = a 43) (e44 : a' 44 = a 44) (e45 : a' 45 = a 45) (e46 : a' 46 = a 46) : shE a' S x1 x2 x3 = shE a S x1 x2 x3 := by
  unfold shE shP
  rw [e43, e44, e45, e46]
