theorem l32 : (32 : Int32) = nI 32 := rfl
theorem l45 : (45 : Int32) = nI 45 := rfl
theorem l48 : (48 : Int32) = nI 48 := rfl
theorem l57 : (57 : Int32) = nI 57 := rfl
theorem l58 : (58 : Int32) = nI 58 := rfl
theorem l59 : (59 : Int32) = nI 59 := rfl
theorem l97 : (97 : Int32) = nI 97 := rfl
theorem l122 : (122 : Int32) = nI 122 := rfl
theorem l200 : (200 : Int32) = nI 200 := rfl
theorem l800 : (800 : Int32) = nI 800 := rfl
theorem qs_qs (a : qa) (c i k : Nat) (x y : Int32) : qs (qs a c i k x) c i k y = qs a c i k y := by
  funext d j n
  unfold qs
  by_cases e : d = c ∧ j = i ∧ n = k
  · rw [if_pos e, if_pos e]
  · rw [if_neg e, if_neg e, if_neg e]
def sc (g : Nat → Bool) : Nat → Nat → Nat
  | 0, i => i
  | n + 1, i => if g i = true then sc g n (i + 1) else i
def scn (g : Nat → Bool) (T i : Nat) : Nat := sc g (T - i) i
theorem scn_e {g : Nat → Bool} {T i : Nat} (h : T ≤ i) : scn g T i = i := by
  unfold scn
  rw [Nat.sub_eq_zero_of_le h]
  rfl
theorem scn_n {g : Nat → Bool} {T i : Nat} (h : ¬ g i = true) : scn g T i = i := by
  unfold scn
  cases T - i with
  | zero => rfl
  | succ n => exact if_neg h
theorem scn_y {g : Nat → Bool} {T i : Nat} (hi : i < T) (h : g i = true) : scn g T i = scn g T (i + 1) := by
  unfold scn
  have e : T - i = (T - (i + 1)) + 1 := by omega
  rw [e]
  exact if_pos h
theorem scn_b {g : Nat → Bool} {T : Nat} : ∀ (n i : Nat), T - i = n → i ≤ T → i ≤ scn g T i ∧ scn g T i ≤ T ∧ (scn g T i < T → ¬ g (scn g T i) = true) ∧ ∀ j, i ≤ j → j < scn g T i → g j = true := by
  intro n
  induction n with
  | zero =>
    intro i e hi
    rw [scn_e (by omega)]
    exact ⟨by omega, hi, fun h => by omega, fun j a b => by omega⟩
  | succ n ih =>
    intro i e hi
    by_cases h : g i = true
    · rw [scn_y (by omega) h]
      obtain ⟨a1, a2, a3, a4⟩ := ih (i + 1) (by omega) (by omega)
      refine ⟨by omega, a2, a3, fun j b1 b2 => ?_⟩
      by_cases c : j = i
      · rw [c]; exact h
      · exact a4 j (by omega) b2
    · rw [scn_n h]
      exact ⟨by omega, hi, fun _ => h, fun j a b => by omega⟩
def bB (f : Nat → Nat) (i : Nat) : Bool := decide (f i = 32 ∨ f i = 10)
def lB (f : Nat → Nat) (i : Nat) : Bool := decide (97 ≤ f i ∧ f i ≤ 122)
def dB (f : Nat → Nat) (i : Nat) : Bool := decide (48 ≤ f i ∧ f i ≤ 57)
theorem bB_i {f : Nat → Nat} {i : Nat} : bB f i = true ↔ f i = 32 ∨ f i = 10 := by unfold bB; exact decide_eq_true_iff
theorem lB_i {f : Nat → Nat} {i : Nat} : lB f i = true ↔ 97 ≤ f i ∧ f i ≤ 122 := by unfold lB; exact decide_eq_true_iff
theorem dB_i {f : Nat → Nat} {i : Nat} : dB f i = true ↔ 48 ≤ f i ∧ f i ≤ 57 := by unfold dB; exact decide_eq_true_iff
def tF (f : Nat → Nat) (T i : Nat) : Nat := scn (bB f) T i
def tE (f : Nat → Nat) (T s : Nat) : Nat := if lB f s = true then scn (lB f) T (s + 1) else if dB f s = true then scn (dB f) T (s + 1) else s + 1
def tB (f : Nat → Nat) (T i : Nat) : Nat := if tF f T i < T then tE f T (tF f T i) else tF f T i
def spB (f : Nat → Nat) (s e k : Nat) : Bool := decide (e - s = (q_tx k).length) && allN (fun i => decide (nI (f (s + i)) = (q_tx k).getD i 0)) (q_tx k).length
def nv (f : Nat → Nat) (s : Nat) : Nat → Int32
  | 0 => nI 0
  | n + 1 => nv f s n * nI 10 + nI (f (s + n)) - nI 48
def sgT (b : Nat) : Nat := if b = 60 ∨ b = 61 ∨ b = 62 then 6 else if b = 58 then 7 else if b = 59 then 8 else if b = 45 then 9 else 1
def wT (f : Nat → Nat) (s e : Nat) : Nat × Int32 := if spB f s e 0 = true then (5, nI 0) else if spB f s e 1 = true then (3, nI 0) else if spB f s e 2 = true then (3, nI 1) else if spB f s e 3 = true then (3, nI 2) else if spB f s e 4 = true then (3, nI 3) else if spB f s e 5 = true then (4, nI 0) else if spB f s e 6 = true then (4, nI 1) else if spB f s e 7 = true then (4, nI 2) else (1, mI)
def tk (f : Nat → Nat) (T i : Nat) : Nat × Int32 := if tF f T i < T then (if lB f (tF f T i) = true then wT f (tF f T i) (tE f T (tF f T i)) else if dB f (tF f T i) = true then (if tE f T (tF f T i) - tF f T i ≤ 4 then (2, nv f (tF f T i) (tE f T (tF f T i) - tF f T i)) else (1, nI 0)) else (sgT (f (tF f T i)), nI (f (tF f T i)))) else (0, nI 0)
def srt (f : Nat → Nat) (T i : Nat) : Nat := if tF f T i < T then (if lB f (tF f T i) = true then 3 else if dB f (tF f T i) = true then (if tE f T (tF f T i) - tF f T i ≤ 4 then 2 else 1) else if sgT (f (tF f T i)) = 1 then 1 else 4) else 0
theorem tF_b {f : Nat → Nat} {T i : Nat} (h : i ≤ T) : i ≤ tF f T i ∧ tF f T i ≤ T := ⟨(scn_b _ i rfl h).1, (scn_b _ i rfl h).2.1⟩
theorem tE_b {f : Nat → Nat} {T s : Nat} (h : s < T) : s + 1 ≤ tE f T s ∧ tE f T s ≤ T := by
  unfold tE
  by_cases c : lB f s = true
  · rw [if_pos c]
    exact ⟨(scn_b _ (s + 1) rfl h).1, (scn_b _ (s + 1) rfl h).2.1⟩
  · rw [if_neg c]
    by_cases d : dB f s = true
    · rw [if_pos d]
      exact ⟨(scn_b _ (s + 1) rfl h).1, (scn_b _ (s + 1) rfl h).2.1⟩
    · rw [if_neg d]
      exact ⟨Nat.le_refl _, h⟩
theorem tB_b {f : Nat → Nat} {T i : Nat} (h : i ≤ T) : i ≤ tB f T i ∧ tB f T i ≤ T ∧ (tF f T i < T → i < tB f T i) := by
  have h1 := tF_b (f := f) h
  unfold tB
  by_cases c : tF f T i < T
  · have h2 := tE_b (f := f) c
    rw [if_pos c]
    exact ⟨by omega, by omega, fun _ => by omega⟩
  · rw [if_neg c]
    exact ⟨h1.1, h1.2, fun x => absurd x c⟩
theorem sgT_b (b : Nat) : sgT b = 1 ∨ (sgT b = 6 ∧ (b = 60 ∨ b = 61 ∨ b = 62)) ∨ (sgT b = 7 ∧ b = 58) ∨ (sgT b = 8 ∧ b = 59) ∨ (sgT b = 9 ∧ b = 45) := by
  unfold sgT
  by_cases c1 : b = 60 ∨ b = 61 ∨ b = 62
  · rw [if_pos c1]; exact Or.inr (Or.inl ⟨rfl, c1⟩)
  rw [if_neg c1]
  by_cases c2 : b = 58
  · rw [if_pos c2]; exact Or.inr (Or.inr (Or.inl ⟨rfl, c2⟩))
  rw [if_neg c2]
  by_cases c3 : b = 59
  · rw [if_pos c3]; exact Or.inr (Or.inr (Or.inr (Or.inl ⟨rfl, c3⟩)))
  rw [if_neg c3]
  by_cases c4 : b = 45
  · rw [if_pos c4]; exact Or.inr (Or.inr (Or.inr (Or.inr ⟨rfl, c4⟩)))
  rw [if_neg c4]; exact Or.inl rfl
theorem wT_b (f : Nat → Nat) (s e : Nat) : ((wT f s e).1 = 5 ∧ spB f s e 0 = true) ∨ (spB f s e 0 = false ∧ (((wT f s e).1 = 3 ∧ ∃ k, k ≤ 3 ∧ (wT f s e).2 = nI k) ∨ ((wT f s e).1 = 4 ∧ ∃ k, k ≤ 2 ∧ (wT f s e).2 = nI k) ∨ (wT f s e).1 = 1)) := by
  cases e0 : spB f s e 0
  rotate_left 1
  · left; simp only [wT, e0, ite_true, and_self]
  right
  refine ⟨rfl, ?_⟩
  cases e1 : spB f s e 1
  rotate_left 1
  · left; simp only [wT, e0, e1, ite_true, ite_false, Bool.false_eq_true, true_and]; exact ⟨0, by omega, rfl⟩
  cases e2 : spB f s e 2
  rotate_left 1
  · left; simp only [wT, e0, e1, e2, ite_true, ite_false, Bool.false_eq_true, true_and]; exact ⟨1, by omega, rfl⟩
  cases e3 : spB f s e 3
  rotate_left 1
  · left; simp only [wT, e0, e1, e2, e3, ite_true, ite_false, Bool.false_eq_true, true_and]; exact ⟨2, by omega, rfl⟩
  cases e4 : spB f s e 4
  rotate_left 1
  · left; simp only [wT, e0, e1, e2, e3, e4, ite_true, ite_false, Bool.false_eq_true, true_and]; exact ⟨3, by omega, rfl⟩
  right
  cases e5 : spB f s e 5
  rotate_left 1
  · left; simp only [wT, e0, e1, e2, e3, e4, e5, ite_true, ite_false, Bool.false_eq_true, true_and]; exact ⟨0, by omega, rfl⟩
  cases e6 : spB f s e 6
  rotate_left 1
  · left; simp only [wT, e0, e1, e2, e3, e4, e5, e6, ite_true, ite_false, Bool.false_eq_true, true_and]; exact ⟨1, by omega, rfl⟩
  cases e7 : spB f s e 7
  rotate_left 1
  · left; simp only [wT, e0, e1, e2, e3, e4, e5, e6, e7, ite_true, ite_false, Bool.false_eq_true, true_and]; exact ⟨2, by omega, rfl⟩
  right; simp only [wT, e0, e1, e2, e3, e4, e5, e6, e7, ite_false, Bool.false_eq_true]
theorem tk_9 (f : Nat → Nat) (T i : Nat) : (tk f T i).1 ≤ 9 := by
  unfold tk
  by_cases c : tF f T i < T
  · rw [if_pos c]
    by_cases c1 : lB f (tF f T i) = true
    · rw [if_pos c1]
      rcases wT_b f (tF f T i) (tE f T (tF f T i)) with ⟨h, _⟩ | ⟨_, ⟨h, _⟩ | ⟨h, _⟩ | h⟩ <;> omega
    · rw [if_neg c1]
      by_cases c2 : dB f (tF f T i) = true
      · rw [if_pos c2]
        by_cases c3 : tE f T (tF f T i) - tF f T i ≤ 4
        · rw [if_pos c3]; show 2 ≤ 9; omega
        · rw [if_neg c3]; decide
      · rw [if_neg c2]
        show sgT _ ≤ 9
        rcases sgT_b (f (tF f T i)) with h | ⟨h, _⟩ | ⟨h, _⟩ | ⟨h, _⟩ | ⟨h, _⟩ <;> omega
  · rw [if_neg c]; decide
/-- what kind of thing the token at i is, in the class's numbers and in the reference's -/
theorem tk_c {f : Nat → Nat} {T : Nat} (hf : ∀ j, j < T → f j < 256) (i : Nat) : (srt f T i = 0 ∧ (tk f T i).1 = 0 ∧ ¬ tF f T i < T) ∨ (tF f T i < T ∧ ((srt f T i = 1 ∧ (tk f T i).1 = 1) ∨ (srt f T i = 2 ∧ (tk f T i).1 = 2) ∨ (srt f T i = 3 ∧ lB f (tF f T i) = true ∧ tk f T i = wT f (tF f T i) (tE f T (tF f T i))) ∨ (srt f T i = 4 ∧ ∃ b, b < 256 ∧ tk f T i = (sgT b, nI b) ∧ sgT b ≠ 1))) := by
  unfold srt tk
  by_cases c : tF f T i < T
  · right
    simp only [if_pos c]
    by_cases c1 : lB f (tF f T i) = true
    · simp only [if_pos c1]
      exact ⟨c, Or.inr (Or.inr (Or.inl ⟨trivial, c1, trivial⟩))⟩
    · simp only [if_neg c1]
      by_cases c2 : dB f (tF f T i) = true
      · simp only [if_pos c2]
        by_cases c3 : tE f T (tF f T i) - tF f T i ≤ 4
        · simp only [if_pos c3]
          exact ⟨c, Or.inr (Or.inl ⟨trivial, trivial⟩)⟩
        · simp only [if_neg c3]
          exact ⟨c, Or.inl ⟨trivial, trivial⟩⟩
      · simp only [if_neg c2]
        by_cases c4 : sgT (f (tF f T i)) = 1
        · simp only [if_pos c4]
          exact ⟨c, Or.inl ⟨trivial, c4⟩⟩
        · simp only [if_neg c4]
          exact ⟨c, Or.inr (Or.inr (Or.inr ⟨trivial, _, hf _ c, rfl, c4⟩))⟩
  · left
    simp only [if_neg c]
    exact ⟨trivial, trivial, c⟩
theorem tx_l (k : Nat) : (q_tx k).length ≤ 6 := by
  unfold q_tx
  split <;> decide
def ps (f : Nat → Nat) (T : Nat) : Nat → Nat
  | 0 => 0
  | n + 1 => tB f T (ps f T n)
theorem ps_b (f : Nat → Nat) (T : Nat) : ∀ n, ps f T n ≤ T := by
  intro n
  induction n with
  | zero => exact Nat.zero_le _
  | succ n ih => exact (tB_b ih).2.1
def TT (f : Nat → Nat) (T n : Nat) : Nat := (tk f T (ps f T n)).1
def VV (f : Nat → Nat) (T n : Nat) : Int32 := (tk f T (ps f T n)).2
def PP (f : Nat → Nat) (T n : Nat) : Nat := tF f T (ps f T n)
theorem TT_0 {f : Nat → Nat} {T n : Nat} (h : TT f T n ≠ 0) : PP f T n < T := by
  by_cases c : PP f T n < T
  · exact c
  · exact absurd (by unfold TT tk; unfold PP at c; rw [if_neg c]) h
theorem ps_n {f : Nat → Nat} {T : Nat} : ∀ n, (∀ k, k < n → TT f T k ≠ 0) → n ≤ ps f T n := by
  intro n
  induction n with
  | zero => intro _; exact Nat.zero_le _
  | succ n ih =>
    intro h
    have h1 := ih (fun k hk => h k (by omega))
    have h2 := (tB_b (ps_b f T n)).2.2 (TT_0 (h n (by omega)))
    show n + 1 ≤ tB f T (ps f T n)
    omega
