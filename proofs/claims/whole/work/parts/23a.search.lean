def lfR (w : Nat → Nat) : Nat → Nat → Nat → Nat → Nat → Nat → Nat → Nat → Prop
  | 0 => fun _ l r m L R M => L = l ∧ R = r ∧ M = m
  | d + 1 => fun k l r m L R M => lfR w d (k + 1) (l + w k) r (m + 1) L R M ∨ lfR w d (k + 1) l (r + w k) (m + 1) L R M ∨ lfR w d (k + 1) l r m L R M
def imp (s L R M x y : Nat) : Prop := L + R ≤ s ∧ L ≤ R + 10 ∧ R ≤ L + 10 ∧ (x < L + R + 1 ∨ (L + R + 1 = x ∧ M < y))
abbrev sSt : Type := Nat × Nat × (Nat → Int32)
def up (f : Nat → Int32) (k : Nat) (x : Int32) : Nat → Int32 := fun i => if i = k then x else f i
def rfL (s l r m : Nat) (f : Nat → Int32) (st : sSt) : sSt := if l + r ≤ s ∧ l ≤ r + 10 ∧ r ≤ l + 10 ∧ (st.1 < l + r + 1 ∨ (l + r + 1 = st.1 ∧ m < st.2.1)) then (l + r + 1, m, f) else st
def rf (w : Nat → Nat) (s : Nat) : Nat → Nat → Nat → Nat → Nat → (Nat → Int32) → sSt → sSt
  | 0 => fun _ l r m f st => rfL s l r m f st
  | d + 1 => fun k l r m f st => rf w s d (k + 1) l r m (up f k (nI 2)) (rf w s d (k + 1) l (r + w k) (m + 1) (up f k (nI 1)) (rf w s d (k + 1) (l + w k) r (m + 1) (up f k (nI 0)) st))
def ah (w : Nat → Nat) : Nat → Nat → Nat
  | 0 => fun _ => 0
  | d + 1 => fun k => ah w d (k + 1) + w k
theorem ah_le {w : Nat → Nat} {n : Nat} (hw : ∀ i, i < n → w i ≤ 60) : ∀ d k, k + d ≤ n → ah w d k ≤ 60 * d := by
  intro d
  induction d with
  | zero =>
    intro k _
    exact Nat.le_refl _
  | succ d ih =>
    intro k hk
    have h1 := ih (k + 1) (by omega)
    have h2 := hw k (by omega)
    unfold ah
    omega
theorem rfL_y {s l r m : Nat} {f : Nat → Int32} {st : sSt} (h : imp s l r m st.1 st.2.1) : rfL s l r m f st = (l + r + 1, m, f) := if_pos h
theorem rfL_n {s l r m : Nat} {f : Nat → Int32} {st : sSt} (h : ¬ imp s l r m st.1 st.2.1) : rfL s l r m f st = st := if_neg h
theorem lf_b {w : Nat → Nat} : ∀ d k l r m L R M, lfR w d k l r m L R M → l + r ≤ L + R ∧ L + R ≤ l + r + ah w d k ∧ l + R ≤ r + L + ah w d k ∧ r + L ≤ l + R + ah w d k ∧ m ≤ M ∧ (l + r < L + R → m + 1 ≤ M) := by
  intro d
  induction d with
  | zero =>
    intro k l r m L R M h
    obtain ⟨rfl, rfl, rfl⟩ := h
    unfold ah
    omega
  | succ d ih =>
    intro k l r m L R M h
    unfold ah
    rcases h with h | h | h
    · have := ih _ _ _ _ _ _ _ h
      omega
    · have := ih _ _ _ _ _ _ _ h
      omega
    · have := ih _ _ _ _ _ _ _ h
      omega
theorem lf_0 {w : Nat → Nat} : ∀ d k l r m, lfR w d k l r m l r m := by
  intro d
  induction d with
  | zero =>
    intro k l r m
    exact ⟨rfl, rfl, rfl⟩
  | succ d ih =>
    intro k l r m
    exact Or.inr (Or.inr (ih _ _ _ _))
theorem lf_sw {w : Nat → Nat} : ∀ d k l r m L R M, lfR w d k l r m L R M → lfR w d k r l m R L M := by
  intro d
  induction d with
  | zero =>
    intro k l r m L R M h
    obtain ⟨rfl, rfl, rfl⟩ := h
    exact ⟨rfl, rfl, rfl⟩
  | succ d ih =>
    intro k l r m L R M h
    rcases h with h | h | h
    · exact Or.inr (Or.inl (ih _ _ _ _ _ _ _ h))
    · exact Or.inl (ih _ _ _ _ _ _ _ h)
    · exact Or.inr (Or.inr (ih _ _ _ _ _ _ _ h))
def sge (st st' : sSt) : Prop := st.1 < st'.1 ∨ (st.1 = st'.1 ∧ st'.2.1 ≤ st.2.1)
theorem sge_r (st : sSt) : sge st st := Or.inr ⟨rfl, Nat.le_refl _⟩
theorem sge_t {a b c : sSt} (h1 : sge a b) (h2 : sge b c) : sge a c := by
  unfold sge at *
  omega
theorem imp_m {s L R M : Nat} {a b : sSt} (h : sge a b) (hi : imp s L R M b.1 b.2.1) : imp s L R M a.1 a.2.1 := by
  unfold sge at h
  unfold imp at *
  omega
theorem rf_ge {w : Nat → Nat} {s : Nat} : ∀ d k l r m f st, sge st (rf w s d k l r m f st) := by
  intro d
  induction d with
  | zero =>
    intro k l r m f st
    show sge st (rfL s l r m f st)
    by_cases h : imp s l r m st.1 st.2.1
    · rw [rfL_y h]
      unfold imp at h
      unfold sge
      show st.1 < l + r + 1 ∨ (st.1 = l + r + 1 ∧ m ≤ st.2.1)
      omega
    · rw [rfL_n h]
      exact sge_r _
  | succ d ih =>
    intro k l r m f st
    exact sge_t (ih _ _ _ _ _ _) (sge_t (ih _ _ _ _ _ _) (ih _ _ _ _ _ _))
theorem rf_no {w : Nat → Nat} {s : Nat} : ∀ d k l r m f st, (∀ L R M, lfR w d k l r m L R M → ¬ imp s L R M st.1 st.2.1) → rf w s d k l r m f st = st := by
  intro d
  induction d with
  | zero =>
    intro k l r m f st h
    exact rfL_n (h l r m ⟨rfl, rfl, rfl⟩)
  | succ d ih =>
    intro k l r m f st h
    show rf w s d (k + 1) l r m (up f k (nI 2)) (rf w s d (k + 1) l (r + w k) (m + 1) (up f k (nI 1)) (rf w s d (k + 1) (l + w k) r (m + 1) (up f k (nI 0)) st)) = st
    rw [ih _ _ _ _ (up f k (nI 0)) st (fun L R M hl => h L R M (Or.inl hl)), ih _ _ _ _ (up f k (nI 1)) st (fun L R M hl => h L R M (Or.inr (Or.inl hl)))]
    exact ih _ _ _ _ _ st (fun L R M hl => h L R M (Or.inr (Or.inr hl)))
theorem rf_po {w : Nat → Nat} {s : Nat} : ∀ d k l r m f st L R M, lfR w d k l r m L R M → ¬ imp s L R M (rf w s d k l r m f st).1 (rf w s d k l r m f st).2.1 := by
  intro d
  induction d with
  | zero =>
    intro k l r m f st L R M h
    obtain ⟨rfl, rfl, rfl⟩ := h
    show ¬ imp s L R M (rfL s L R M f st).1 (rfL s L R M f st).2.1
    by_cases h : imp s L R M st.1 st.2.1
    · rw [rfL_y h]
      unfold imp
      show ¬ (L + R ≤ s ∧ L ≤ R + 10 ∧ R ≤ L + 10 ∧ (L + R + 1 < L + R + 1 ∨ (L + R + 1 = L + R + 1 ∧ M < M)))
      omega
    · rw [rfL_n h]
      exact h
  | succ d ih =>
    intro k l r m f st L R M h hi
    rcases h with h | h | h
    · exact ih _ _ _ _ (up f k (nI 0)) st _ _ _ h (imp_m (sge_t (rf_ge d (k + 1) l (r + w k) (m + 1) (up f k (nI 1)) _) (rf_ge d (k + 1) l r m (up f k (nI 2)) _)) hi)
    · exact ih _ _ _ _ (up f k (nI 1)) _ _ _ _ h (imp_m (rf_ge d (k + 1) l r m (up f k (nI 2)) _) hi)
    · exact ih _ _ _ _ (up f k (nI 2)) _ _ _ _ h hi
theorem rf_mir {w : Nat → Nat} {s d k l m : Nat} {f g : Nat → Int32} {st : sSt} : rf w s d (k + 1) l (l + w k) (m + 1) g (rf w s d (k + 1) (l + w k) l (m + 1) f st) = rf w s d (k + 1) (l + w k) l (m + 1) f st := by
  refine rf_no d (k + 1) l (l + w k) (m + 1) g _ (fun L R M h hi => ?_)
  refine rf_po (s := s) d (k + 1) (l + w k) l (m + 1) f st R L M (lf_sw _ _ _ _ _ _ _ _ h) ?_
  unfold imp at hi ⊢
  omega
def sRl (n : Nat) (x y : sSt) : Prop := (x.1 = y.1 ∧ x.2.1 = y.2.1 ∧ ∀ i, i < n → x.2.2 i = y.2.2 i) ∨ (x.1 = 0 ∧ y.1 = 1 ∧ y.2.1 = 0 ∧ ∀ i, i < n → y.2.2 i = nI 2)
theorem rf_rl {w : Nat → Nat} {s n : Nat} (hw : ∀ i, i < n → 1 ≤ w i) : ∀ d k l r m f x y, k + d = n → (l + r = 0 → m = 0 ∧ ∀ i, i < k → f i = nI 2) → sRl n x y → sRl n (rf w s d k l r m f x) (rf w s d k l r m f y) := by
  intro d
  induction d with
  | zero =>
    intro k l r m f x y hk h0 h
    obtain rfl : k = n := by omega
    show sRl k (rfL s l r m f x) (rfL s l r m f y)
    rcases h with ⟨h1, h2, h3⟩ | ⟨h1, h2, h3, h4⟩
    · by_cases c : imp s l r m x.1 x.2.1
      · have c' : imp s l r m y.1 y.2.1 := by
          rw [← h1, ← h2]
          exact c
        rw [rfL_y c, rfL_y c']
        exact Or.inl ⟨rfl, rfl, fun _ _ => rfl⟩
      · have c' : ¬ imp s l r m y.1 y.2.1 := by
          rw [← h1, ← h2]
          exact c
        rw [rfL_n c, rfL_n c']
        exact Or.inl ⟨h1, h2, h3⟩
    · by_cases c : imp s l r m y.1 y.2.1
      · have c' : imp s l r m x.1 x.2.1 := by
          unfold imp at c ⊢
          omega
        rw [rfL_y c, rfL_y c']
        exact Or.inl ⟨rfl, rfl, fun _ _ => rfl⟩
      · rw [rfL_n c]
        by_cases c' : imp s l r m x.1 x.2.1
        · rw [rfL_y c']
          have hz : l + r = 0 := by
            unfold imp at c c'
            omega
          obtain ⟨z1, z2⟩ := h0 hz
          refine Or.inl ⟨?_, ?_, fun i hi => ?_⟩
          · show l + r + 1 = y.1
            omega
          · show m = y.2.1
            omega
          · show f i = y.2.2 i
            rw [z2 i hi, h4 i hi]
        · rw [rfL_n c']
          exact Or.inr ⟨h1, h2, h3, h4⟩
  | succ d ih =>
    intro k l r m f x y hk h0 h
    have hk1 := hw k (by omega)
    refine ih (k + 1) l r m (up f k (nI 2)) _ _ (by omega) (fun hz => ?_) (ih (k + 1) l (r + w k) (m + 1) (up f k (nI 1)) _ _ (by omega) (fun hz => by omega) (ih (k + 1) (l + w k) r (m + 1) (up f k (nI 0)) _ _ (by omega) (fun hz => by omega) h))
    obtain ⟨z1, z2⟩ := h0 hz
    refine ⟨z1, fun i hi => ?_⟩
    unfold up
    by_cases c : i = k
    · rw [if_pos c]
    · rw [if_neg c]
      exact z2 i (by omega)
theorem rf_eq {w : Nat → Nat} {s n : Nat} (hw : ∀ i, i < n → 1 ≤ w i) (f g : Nat → Int32) (y : Nat) : 1 ≤ (rf w s n 0 0 0 0 f (0, y, g)).1 ∧ (rf w s n 0 0 0 0 f (0, y, g)).1 = (rf w s n 0 0 0 0 f (1, 0, fun _ => nI 2)).1 ∧ ∀ i, i < n → (rf w s n 0 0 0 0 f (0, y, g)).2.2 i = (rf w s n 0 0 0 0 f (1, 0, fun _ => nI 2)).2.2 i := by
  have h1 := rf_rl (s := s) hw n 0 0 0 0 f (0, y, g) (1, 0, fun _ => nI 2) (by omega) (fun _ => ⟨rfl, fun i hi => by omega⟩) (Or.inr ⟨rfl, rfl, rfl, fun _ _ => rfl⟩)
  have h2 := rf_po (w := w) (s := s) n 0 0 0 0 f (0, y, g) 0 0 0 (lf_0 _ _ _ _ _)
  have h3 : 1 ≤ (rf w s n 0 0 0 0 f (0, y, g)).1 := by
    unfold imp at h2
    omega
  rcases h1 with ⟨e1, e2, e3⟩ | ⟨e1, _⟩
  · exact ⟨h3, e1, e3⟩
  · omega
