def sumN (f : Nat → Int32) : Nat → Int32
  | 0 => 0
  | n + 1 => sumN f n + f n
def onM (a : qa) (m : Nat) (sd : Int32) (q : Nat) : Prop := a 58 0 q = 1 ∧ a 60 0 q = nI m ∧ a 61 0 q = sd
def ldW (a : qa) (m : Nat) (sd : Int32) (q : Nat) : Int32 := if a 58 0 q = 1 ∧ a 60 0 q = nI m ∧ a 61 0 q = sd then a 56 0 q else 0
def ldT (a : qa) (i : Nat) (q : Nat) : Int32 := if a 58 0 q = 1 ∧ a 60 0 q / 3 = nI i then 1 else 0
def lstN (f : Nat → Bool) : Nat → Int32
  | 0 => -1
  | n + 1 => if f n then nI n else lstN f n
def allN (f : Nat → Bool) : Nat → Bool
  | 0 => true
  | n + 1 => allN f n && f n
def bgO (a : qa) (x : Int32) (B : Nat) : Int32 := lstN (fun n => decide (a 72 0 n ≤ x)) B
def tmV (a : qa) (q k : Nat) : Int32 := if a 76 0 k = nI 4 then a 56 0 q else if a 76 0 k = nI 5 then a 63 0 q - a 62 0 q else a 64 0 q
def tmH (a : qa) (q k : Nat) : Bool := if a 76 0 k < nI 4 then decide (a 55 0 q = a 76 0 k) else if a 77 0 k = nI 60 then decide (tmV a q k < a 78 0 k) else if a 77 0 k = nI 62 then decide (a 78 0 k < tmV a q k) else decide (tmV a q k = a 78 0 k)
def tmA (a : qa) (q row n : Nat) : Bool := allN (fun i => tmH a q (4 * row + i)) n
def rlS (a : qa) (q b n : Nat) : Int32 := sumN (fun r => if tmA a q (20 * b + r) (a 74 0 (20 * b + r)).toNatClampNeg then a 75 0 (20 * b + r) else 0) n
def wth (a : qa) (B q : Nat) : Int32 := if bgO a (a 62 0 q) B = -1 then 0 else rlS a q (bgO a (a 62 0 q) B).toNatClampNeg (a 73 0 (bgO a (a 62 0 q) B).toNatClampNeg).toNatClampNeg
def iA (I : Nat) (a : qa) : Prop := I ≤ 6 ∧ a 6 0 7 = nI I ∧ a 11 0 2 = nI I ∧ (∀ j, a 25 0 j = a 40 0 j) ∧ (∀ j, a 26 0 j = a 41 0 j) ∧ (∀ j, a 27 0 j = a 42 0 j) ∧ (∀ j, j + 1 < I → ∃ q, 1 ≤ q ∧ q ≤ 9 ∧ a 40 0 j = nI q) ∧ (∀ j, j + 1 < I → ∃ q, q ≤ 9 ∧ a 41 0 j = nI q) ∧ ∀ j, q_isb (a 42 0 j)
def iB (I S Hh : Nat) (a : qa) : Prop := S ≤ 60 ∧ a 6 0 8 = nI S ∧ a 11 0 6 = nI S ∧ (∀ j, a 28 0 j = a 43 0 j) ∧ (∀ j, a 29 0 j = a 44 0 j) ∧ (∀ j, a 30 0 j = a 45 0 j) ∧ (∀ j, a 31 0 j = a 46 0 j) ∧ ∀ j, j < S → (∃ q, q ≤ Hh ∧ a 46 0 j = nI q) ∧ ∃ l, l + 1 < I ∧ a 43 0 j = nI l
def iC (Hh : Nat) (a : qa) : Prop := Hh ≤ 9999 ∧ a 10 0 12 = nI Hh ∧ a 11 0 1 = nI Hh
def iD (I t p : Nat) (a : qa) : Prop := a 10 0 8 = nI t ∧ a 11 0 11 = nI t ∧ ∀ i, i < t → a 9 i 1 = a 47 0 i ∧ a 9 i 2 = a 48 0 i ∧ a 9 i 5 = sumN (ldT a i) p ∧ ((∃ q, q < I ∧ a 47 0 i = nI q ∧ a 48 0 i = -1 ∧ a 9 i 4 = -1) ∨ (a 47 0 i = -1 ∧ (∃ l, l + 1 < I ∧ a 48 0 i = nI l) ∧ a 9 i 3 = a 49 0 i ∧ q_isb (a 49 0 i) ∧ a 9 i 4 = a 50 0 i))
def iE (t p : Nat) (a : qa) : Prop := ∀ m, m < 3 * t → a 3 m 0 = a 51 0 m ∧ a 3 m 1 = a 52 0 m ∧ a 3 m 2 = a 53 0 m ∧ q_isb (a 53 0 m) ∧ a 3 m 3 = a 54 0 m ∧ (∃ w, w ≤ 100 ∧ a 52 0 m = nI w) ∧ (∃ w, 20 ≤ w ∧ w ≤ 120 ∧ a 51 0 m = nI w) ∧ (∃ l r w, l + r + w ≤ 120 ∧ a 3 m 4 = nI l ∧ a 3 m 5 = nI r ∧ a 3 m 7 = nI w) ∧ a 3 m 4 = sumN (ldW a m 0) p ∧ a 3 m 5 = sumN (ldW a m 1) p ∧ a 3 m 7 = sumN (ldW a m 2) p ∧ ((a 3 m 6 = -1 ∧ ∀ q, q < p → ¬ onM a m 2 q) ∨ ∃ q, q < p ∧ a 3 m 6 = nI q ∧ onM a m 2 q ∧ ∀ q', q' < p → onM a m 2 q' → q' = q)
def iF (I Hh t p B : Nat) (a : qa) : Prop := a 10 0 9 = nI p ∧ a 11 0 20 = nI p ∧ ∀ q, q < p → a 4 q 0 = a 55 0 q ∧ a 4 q 1 = a 56 0 q ∧ a 4 q 2 = a 57 0 q ∧ a 4 q 3 = a 62 0 q ∧ a 4 q 4 = a 58 0 q ∧ a 4 q 8 = a 64 0 q ∧ (∃ k, k ≤ 3 ∧ a 55 0 q = nI k) ∧ (∃ w, 1 ≤ w ∧ w ≤ 60 ∧ a 56 0 q = nI w) ∧ (∃ r, r < I ∧ a 57 0 q = nI r) ∧ (∃ c, c ≤ Hh ∧ a 62 0 q = nI c) ∧ ((a 58 0 q = 0 ∧ a 4 q 5 = a 59 0 q ∧ (∃ r, r < I ∧ a 59 0 q = nI r) ∧ a 4 q 9 = 0 ∧ (a 62 0 q = nI Hh → a 59 0 q ≠ a 57 0 q)) ∨ (a 58 0 q = 1 ∧ (∃ i j, i < t ∧ j < 3 ∧ a 60 0 q = nI (3 * i + j) ∧ a 4 q 5 = nI i ∧ a 4 q 6 = nI j ∧ (a 62 0 q = nI Hh → a 47 0 i ≠ a 57 0 q)) ∧ a 4 q 7 = a 61 0 q ∧ (∃ sd, sd ≤ 2 ∧ a 61 0 q = nI sd) ∧ a 4 q 9 = 0) ∨ (a 58 0 q = 2 ∧ a 4 q 5 = a 59 0 q ∧ (∃ r, r < I ∧ a 59 0 q = nI r) ∧ a 62 0 q ≠ nI Hh ∧ a 4 q 9 = wth a B q))
def iG (Hh p k M : Nat) (a : qa) : Prop := M ≤ k ∧ a 2 0 3 = nI M ∧ a 11 0 31 = nI M ∧ ∀ j, j < M → a 22 0 j = a 65 0 j ∧ a 23 0 j = a 66 0 j ∧ a 24 0 j = a 67 0 j ∧ ∃ q c h, q < p ∧ a 65 0 j = nI q ∧ a 62 0 q = nI c ∧ a 66 0 j = nI h ∧ c ≤ h ∧ h ≤ Hh
def tmR (a : qa) (b x y : Nat) : Prop := (a 14 b x = 3 ∧ a 15 b x = 61 ∧ a 16 b x = a 76 0 y ∧ ∃ k, k ≤ 3 ∧ a 76 0 y = nI k) ∨ ∃ k, k ≤ 2 ∧ a 14 b x = nI k ∧ a 76 0 y = nI (k + 4) ∧ a 15 b x = a 77 0 y ∧ a 16 b x = a 78 0 y
def iH (Hh B : Nat) (a : qa) : Prop := B ≤ 10 ∧ a 10 0 10 = nI B ∧ a 11 0 50 = nI B ∧ ∀ b, b < B → a 0 b 7 = a 72 0 b ∧ (∃ h, h ≤ Hh ∧ a 72 0 b = nI h) ∧ ∃ (R : Nat) (c : Nat → Nat), R ≤ 20 ∧ a 0 b 5 = nI R ∧ a 73 0 b = nI R ∧ c 0 = 0 ∧ c R ≤ 80 ∧ ∀ r, r < R → a 13 b r = a 75 0 (20 * b + r) ∧ a 12 b r = nI (c (r + 1)) ∧ c (r + 1) ≤ 80 ∧ ∃ n, n ≤ 4 ∧ c (r + 1) = c r + n ∧ a 74 0 (20 * b + r) = nI n ∧ ∀ i, i < n → tmR a b (c r + i) (4 * (20 * b + r) + i)
def iI (T : Nat) (a : qa) : Prop := T ≤ 400 ∧ a 7 0 1 = nI T ∧ a 11 0 42 = nI T ∧ ∀ j, j < T → a 71 0 j = (a 32 0 j).toInt8.toInt32 ∧ ∃ b, b < 256 ∧ a 32 0 j = nI b
def Inv (t p k : Nat) (a : qa) : Prop := ∃ I S Hh B T M : Nat, iA I a ∧ iB I S Hh a ∧ iC Hh a ∧ iD I t p a ∧ iE t p a ∧ iF I Hh t p B a ∧ iG Hh p k M a ∧ iH Hh B a ∧ iI T a ∧ a 10 0 11 = a 11 0 49
theorem Inv.k {t p k : Nat} {a : qa} (h : Inv t p k a) : Inv t p (k + 1) a := by
  obtain ⟨I, S, Hh, B, T, M, hA, hB, hC, hD, hE, hF, ⟨hG, hG'⟩, hH, hI, hJ⟩ := h
  exact ⟨I, S, Hh, B, T, M, hA, hB, hC, hD, hE, hF, ⟨Nat.le_succ_of_le hG, hG'⟩, hH, hI, hJ⟩
theorem Inv.th {t p k : Nat} {a : qa} (h : Inv t p k a) (x : Int32) : Inv t p (k + 1) (qs a 11 0 0 x) := by
  obtain ⟨I, S, Hh, B, T, M, hA, hB, hC, hD, hE, hF, ⟨hG, hG'⟩, hH, hI, hJ⟩ := h
  exact ⟨I, S, Hh, B, T, M, hA, hB, hC, hD, hE, hF, ⟨Nat.le_succ_of_le hG, hG'⟩, hH, hI, hJ⟩
theorem pr_place : ob_place Inv := by
  intro t p k a hk ht hp hI
  obtain ⟨I, S, Hh, B, T, M, hA, hB, hC, hD, hE, hF, hG, hH, hT, hJ⟩ := id hI
  exact ⟨hJ, hI.th 0⟩
