theorem wth_cg {a a' : qa} {B q q' : Nat} (e55 : a' 55 0 q = a 55 0 q) (e56 : a' 56 0 q = a 56 0 q) (e62 : a' 62 0 q = a 62 0 q) (e63 : a' 63 0 q = a 63 0 q) (e64 : a' 64 0 q = a 64 0 q) (e72 : a' 72 0 = a 72 0) (e73 : a' 73 0 = a 73 0) (e74 : a' 74 0 = a 74 0) (e75 : a' 75 0 = a 75 0) (e76 : a' 76 0 = a 76 0) (e77 : a' 77 0 = a 77 0) (e78 : a' 78 0 = a 78 0) : wth a' B q = wth a B q := by
  have h1 : ∀ k, tmV a' q k = tmV a q k := by
    intro k
    unfold tmV
    rw [e56, e62, e63, e64, e76]
  have h2 : ∀ k, tmH a' q k = tmH a q k := by
    intro k
    unfold tmH
    rw [h1, e55, e76, e77, e78]
  have h3 : ∀ r n, tmA a' q r n = tmA a q r n := by
    intro r n
    unfold tmA
    congr 1
    funext i
    exact h2 _
  have h4 : ∀ x, bgO a' x B = bgO a x B := by
    intro x
    unfold bgO
    rw [e72]
  have h5 : ∀ b n, rlS a' q b n = rlS a q b n := by
    intro b n
    unfold rlS
    congr 1
    funext r
    rw [h3, e74, e75]
  unfold wth
  rw [e62, h4, h5, e73]
theorem iA.cg {I : Nat} {a a' : qa} (h : iA I a) (e1 : a' 6 0 7 = a 6 0 7) (e2 : a' 11 0 2 = a 11 0 2) (e25 : a' 25 = a 25) (e26 : a' 26 = a 26) (e27 : a' 27 = a 27) (e40 : a' 40 = a 40) (e41 : a' 41 = a 41) (e42 : a' 42 = a 42) : iA I a' := by
  simp only [iA, e1, e2, e25, e26, e27, e40, e41, e42] at h ⊢
  exact h
theorem iB.cg {I S Hh : Nat} {a a' : qa} (h : iB I S Hh a) (e1 : a' 6 0 8 = a 6 0 8) (e2 : a' 11 0 6 = a 11 0 6) (e28 : a' 28 = a 28) (e29 : a' 29 = a 29) (e30 : a' 30 = a 30) (e31 : a' 31 = a 31) (e43 : a' 43 = a 43) (e44 : a' 44 = a 44) (e45 : a' 45 = a 45) (e46 : a' 46 = a 46) : iB I S Hh a' := by
  simp only [iB, e1, e2, e28, e29, e30, e31, e43, e44, e45, e46] at h ⊢
  exact h
theorem iD.cg {I t p : Nat} {a a' : qa} (h : iD I t p a) (e1 : a' 10 0 8 = a 10 0 8) (e2 : a' 11 0 11 = a 11 0 11) (e9 : a' 9 = a 9) (e47 : a' 47 = a 47) (e48 : a' 48 = a 48) (e49 : a' 49 = a 49) (e50 : a' 50 = a 50) (e58 : a' 58 = a 58) (e60 : a' 60 = a 60) : iD I t p a' := by
  have el : ∀ i, ldT a' i = ldT a i := by
    intro i
    funext q
    unfold ldT
    rw [e58, e60]
  simp only [iD, e1, e2, e9, e47, e48, e49, e50, el] at h ⊢
  exact h
theorem iE.cg {t p : Nat} {a a' : qa} (h : iE t p a) (e3 : a' 3 = a 3) (e51 : a' 51 = a 51) (e52 : a' 52 = a 52) (e53 : a' 53 = a 53) (e54 : a' 54 = a 54) (e56 : a' 56 = a 56) (e58 : a' 58 = a 58) (e60 : a' 60 = a 60) (e61 : a' 61 = a 61) : iE t p a' := by
  have el : ∀ i x, ldW a' i x = ldW a i x := by
    intro i x
    funext q
    unfold ldW
    rw [e56, e58, e60, e61]
  simp only [iE, onM, e3, e51, e52, e53, e54, e58, e60, e61, el] at h ⊢
  exact h
theorem iF.cg {I Hh t p B : Nat} {a a' : qa} (h : iF I Hh t p B a) (e1 : a' 10 0 9 = a 10 0 9) (e2 : a' 11 0 20 = a 11 0 20) (e4 : a' 4 = a 4) (e47 : a' 47 = a 47) (e55 : a' 55 = a 55) (e56 : a' 56 = a 56) (e57 : a' 57 = a 57) (e58 : a' 58 = a 58) (e59 : a' 59 = a 59) (e60 : a' 60 = a 60) (e61 : a' 61 = a 61) (e62 : a' 62 = a 62) (e63 : a' 63 = a 63) (e64 : a' 64 = a 64) (e72 : a' 72 = a 72) (e73 : a' 73 = a 73) (e74 : a' 74 = a 74) (e75 : a' 75 = a 75) (e76 : a' 76 = a 76) (e77 : a' 77 = a 77) (e78 : a' 78 = a 78) : iF I Hh t p B a' := by
  have el : ∀ q, wth a' B q = wth a B q := fun q => wth_cg (q' := 0) (by rw [e55]) (by rw [e56]) (by rw [e62]) (by rw [e63]) (by rw [e64]) (by rw [e72]) (by rw [e73]) (by rw [e74]) (by rw [e75]) (by rw [e76]) (by rw [e77]) (by rw [e78])
  simp only [iF, e1, e2, e4, e47, e55, e56, e57, e58, e59, e60, e61, e62, e64, el] at h ⊢
  exact h
theorem iG.cg {Hh p k M : Nat} {a a' : qa} (h : iG Hh p k M a) (e1 : a' 2 0 3 = a 2 0 3) (e2 : a' 11 0 31 = a 11 0 31) (e22 : a' 22 = a 22) (e23 : a' 23 = a 23) (e24 : a' 24 = a 24) (e62 : a' 62 = a 62) (e65 : a' 65 = a 65) (e66 : a' 66 = a 66) (e67 : a' 67 = a 67) : iG Hh p k M a' := by
  simp only [iG, e1, e2, e22, e23, e24, e62, e65, e66, e67] at h ⊢
  exact h
theorem iH.cg {Hh B : Nat} {a a' : qa} (h : iH Hh B a) (e1 : a' 10 0 10 = a 10 0 10) (e2 : a' 11 0 50 = a 11 0 50) (e0 : a' 0 = a 0) (e12 : a' 12 = a 12) (e13 : a' 13 = a 13) (e14 : a' 14 = a 14) (e15 : a' 15 = a 15) (e16 : a' 16 = a 16) (e72 : a' 72 = a 72) (e73 : a' 73 = a 73) (e74 : a' 74 = a 74) (e75 : a' 75 = a 75) (e76 : a' 76 = a 76) (e77 : a' 77 = a 77) (e78 : a' 78 = a 78) : iH Hh B a' := by
  simp only [iH, tmR, e1, e2, e0, e12, e13, e14, e15, e16, e72, e73, e74, e75, e76, e77, e78] at h ⊢
  exact h
theorem iI.cg {T : Nat} {a a' : qa} (h : iI T a) (e1 : a' 7 0 1 = a 7 0 1) (e2 : a' 11 0 42 = a 11 0 42) (e32 : a' 32 = a 32) (e71 : a' 71 = a 71) : iI T a' := by
  simp only [iI, e1, e2, e32, e71] at h ⊢
  exact h
theorem iG.add {Hh p k M q : Nat} {a a' : qa} {y : Int32} {c : Nat} (h : iG Hh p k M a) (hq : q < p) (hc : a 62 0 q = nI c) (hc' : c ≤ Hh) (e1 : a' 2 0 3 = nI (M + 1)) (e2 : a' 11 0 31 = nI (M + 1)) (e22 : ∀ j, a' 22 0 j = if j = M then nI q else a 22 0 j) (e23 : ∀ j, a' 23 0 j = if j = M then nI Hh else a 23 0 j) (e24 : ∀ j, a' 24 0 j = if j = M then y else a 24 0 j) (e65 : ∀ j, a' 65 0 j = if j = M then nI q else a 65 0 j) (e66 : ∀ j, a' 66 0 j = if j = M then nI Hh else a 66 0 j) (e67 : ∀ j, a' 67 0 j = if j = M then y else a 67 0 j) (e62 : a' 62 0 = a 62 0) : iG Hh p (k + 1) (M + 1) a' := by
  obtain ⟨h1, h2, h3, h4⟩ := h
  refine ⟨by omega, e1, e2, fun j hj => ?_⟩
  rw [e22, e23, e24, e65, e66, e67, e62]
  by_cases c' : j = M
  · simp only [if_pos c']
    exact ⟨trivial, trivial, trivial, q, c, Hh, hq, rfl, hc, rfl, hc', Nat.le_refl _⟩
  · simp only [if_neg c']
    exact h4 j (by omega)
theorem sumN_upd {f g : Nat → Int32} {q : Nat} {d : Int32} : ∀ n, q < n → (∀ j, j < n → j ≠ q → g j = f j) → g q = f q + d → sumN g n = sumN f n + d := by
  intro n
  induction n with
  | zero => intro h; omega
  | succ n ih =>
    intro h hn hq
    unfold sumN
    by_cases c : q = n
    · subst c
      rw [sumN_eq q (fun j hj => hn j (by omega) (by omega)), hq, Int32.add_assoc]
    · rw [ih (by omega) (fun j hj hx => hn j (by omega) hx) hq, hn n (by omega) (by omega)]
      simp only [Int32.add_assoc, Int32.add_comm, i_alc]
theorem sumN_0 {f : Nat → Int32} : ∀ n, (∀ j, j < n → f j = 0) → sumN f n = 0 := by
  intro n
  induction n with
  | zero => intro _; rfl
  | succ n ih =>
    intro h
    unfold sumN
    rw [ih (fun j hj => h j (by omega)), h n (by omega)]
    rfl
