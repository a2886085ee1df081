def wkT (T L c : Int32) : Int32 := if T + 2 + L * c / 100 < 100 then T + 2 + L * c / 100 else 100
def rsT (T : Int32) : Int32 := if 0 < T - 5 then T - 5 else 0
def clO (a : qa) (m : Nat) : Int32 := a 41 0 (a 48 0 (m / 3)).toNatClampNeg
def ldO (a : qa) (p m : Nat) : Int32 := sumN (ldA a m) p
def nTi (a : qa) (p m : Nat) : Int32 := if a 47 0 (m / 3) = mI then (if a 53 0 m = 0 then wkT (a 52 0 m) (ldO a p m) (clO a m) else a 52 0 m) else rsT (a 52 0 m)
def nLa (a : qa) (p m : Nat) : Int32 := if a 47 0 (m / 3) = mI then (if a 53 0 m = 0 then (if wkT (a 52 0 m) (ldO a p m) (clO a m) = 100 then 1 else 0) else a 53 0 m) else (if rsT (a 52 0 m) = 0 then 0 else a 53 0 m)
def nWe (a : qa) (p Hh m : Nat) : Int32 := if a 47 0 (m / 3) = mI ∧ a 53 0 m = 0 ∧ wkT (a 52 0 m) (ldO a p m) (clO a m) = 100 then nI Hh else a 54 0 m
def w3 (a : qa) (p Hh i k : Nat) : Int32 := if k = 1 then nTi a p i else if k = 2 then nLa a p i else if k = 3 then nWe a p Hh i else a 3 i k
def nIn (a : qa) (i : Nat) : Int32 := if a 49 0 i = nI 0 then a 48 0 i else a 48 0 i + nI 1
def w9 (a : qa) (Hh i k : Nat) : Int32 := if a 47 0 i = mI ∧ a 50 0 i = nI (Hh + 1) then (if k = 1 then nIn a i else if k = 2 then mI else if k = 4 then mI else a 9 i k) else a 9 i k
def f47 (a : qa) (Hh k : Nat) : Int32 := if a 47 0 k = mI ∧ a 50 0 k = nI (Hh + 1) then nIn a k else a 47 0 k
def f48 (a : qa) (Hh k : Nat) : Int32 := if a 47 0 k = mI ∧ a 50 0 k = nI (Hh + 1) then mI else a 48 0 k
def vC (w : Nat → Nat → Int32) (m : Nat) (z : Nat → Nat → Int32) : Nat → Nat → Int32 := fun i k => if i < m then w i k else z i k
def vR (f : Nat → Int32) (m : Nat) (z : Nat → Nat → Int32) : Nat → Nat → Int32 := fun i k => if i = 0 ∧ k < m then f k else z i k
theorem vC_n {w : Nat → Nat → Int32} {m : Nat} {z : Nat → Nat → Int32} {i k : Nat} (h : m ≤ i) : vC w m z i k = z i k := if_neg (by omega)
theorem vC_y {w : Nat → Nat → Int32} {m : Nat} {z : Nat → Nat → Int32} {i k : Nat} (h : i < m) : vC w m z i k = w i k := if_pos h
theorem vR_n {f : Nat → Int32} {m : Nat} {z : Nat → Nat → Int32} {k : Nat} (h : m ≤ k) : vR f m z 0 k = z 0 k := if_neg (by omega)
theorem vR_y {f : Nat → Int32} {m : Nat} {z : Nat → Nat → Int32} {k : Nat} (h : k < m) : vR f m z 0 k = f k := if_pos ⟨rfl, h⟩
theorem vC_id {w : Nat → Nat → Int32} {m : Nat} {z : Nat → Nat → Int32} (h : ∀ k, w m k = z m k) : vC w (m + 1) z = vC w m z := by
  funext i k
  unfold vC
  by_cases c : i < m
  · rw [if_pos c, if_pos (by omega)]
  · by_cases d : i = m
    · subst d
      rw [if_pos (by omega), if_neg c, h]
    · rw [if_neg (by omega), if_neg c]
theorem vR_id {f : Nat → Int32} {m : Nat} {z : Nat → Nat → Int32} (h : f m = z 0 m) : vR f (m + 1) z = vR f m z := by
  funext i k
  unfold vR
  by_cases c : i = 0 ∧ k < m
  · rw [if_pos c, if_pos (by omega)]
  · by_cases d : i = 0 ∧ k = m
    · obtain ⟨rfl, rfl⟩ := d
      rw [if_pos (by omega), if_neg c, h]
    · rw [if_neg (by omega), if_neg c]
theorem vC_s {w : Nat → Nat → Int32} {m : Nat} {z : Nat → Nat → Int32} {y : Nat → Nat → Int32} (h : ∀ k, y m k = w m k) (h' : ∀ i k, i ≠ m → y i k = vC w m z i k) : y = vC w (m + 1) z := by
  funext i k
  by_cases d : i = m
  · subst d
    rw [h, vC_y (by omega)]
  · rw [h' i k d]
    unfold vC
    by_cases c : i < m
    · rw [if_pos c, if_pos (by omega)]
    · rw [if_neg (by omega), if_neg (by omega)]
theorem vR_s {f : Nat → Int32} {m : Nat} {z : Nat → Nat → Int32} {y : Nat → Nat → Int32} (h : y 0 m = f m) (h' : ∀ i k, ¬ (i = 0 ∧ k = m) → y i k = vR f m z i k) : y = vR f (m + 1) z := by
  funext i k
  by_cases d : i = 0 ∧ k = m
  · obtain ⟨rfl, rfl⟩ := d
    rw [h, vR_y (by omega)]
  · rw [h' i k d]
    unfold vR
    by_cases c : i = 0 ∧ k < m
    · rw [if_pos c, if_pos (by omega)]
    · rw [if_neg c, if_neg (by omega)]
def tS (a : qa) (p Hh m s : Nat) : qa := fun c => if c = 3 then vC (w3 a p Hh) m (a 3) else if c = 9 then vC (w9 a Hh) s (a 9) else if c = 52 then vR (nTi a p) m (a 52) else if c = 53 then vR (nLa a p) m (a 53) else if c = 54 then vR (nWe a p Hh) m (a 54) else if c = 47 then vR (f47 a Hh) s (a 47) else if c = 48 then vR (f48 a Hh) s (a 48) else a c
theorem tS_3 (a : qa) (p Hh m s : Nat) : tS a p Hh m s 3 = vC (w3 a p Hh) m (a 3) := rfl
theorem tS_9 (a : qa) (p Hh m s : Nat) : tS a p Hh m s 9 = vC (w9 a Hh) s (a 9) := rfl
theorem tS_52 (a : qa) (p Hh m s : Nat) : tS a p Hh m s 52 = vR (nTi a p) m (a 52) := rfl
theorem tS_53 (a : qa) (p Hh m s : Nat) : tS a p Hh m s 53 = vR (nLa a p) m (a 53) := rfl
theorem tS_54 (a : qa) (p Hh m s : Nat) : tS a p Hh m s 54 = vR (nWe a p Hh) m (a 54) := rfl
theorem tS_47 (a : qa) (p Hh m s : Nat) : tS a p Hh m s 47 = vR (f47 a Hh) s (a 47) := rfl
theorem tS_48 (a : qa) (p Hh m s : Nat) : tS a p Hh m s 48 = vR (f48 a Hh) s (a 48) := rfl
theorem tS_u {a : qa} {p Hh m s c : Nat} (h3 : c ≠ 3) (h9 : c ≠ 9) (h52 : c ≠ 52) (h53 : c ≠ 53) (h54 : c ≠ 54) (h47 : c ≠ 47) (h48 : c ≠ 48) : tS a p Hh m s c = a c := by
  unfold tS
  rw [if_neg h3, if_neg h9, if_neg h52, if_neg h53, if_neg h54, if_neg h47, if_neg h48]
theorem tS_0 (a : qa) (p Hh : Nat) : tS a p Hh 0 0 = a := by
  funext c
  have v1 : ∀ w z, vC w 0 z = z := fun w z => by funext i k; exact vC_n (by omega)
  have v2 : ∀ w z, vR w 0 z = z := fun w z => by funext i k; exact if_neg (by omega)
  unfold tS
  simp only [v1, v2]
  by_cases h3 : c = 3
  · rw [if_pos h3, h3]
  by_cases h9 : c = 9
  · rw [if_neg h3, if_pos h9, h9]
  by_cases h52 : c = 52
  · rw [if_neg h3, if_neg h9, if_pos h52, h52]
  by_cases h53 : c = 53
  · rw [if_neg h3, if_neg h9, if_neg h52, if_pos h53, h53]
  by_cases h54 : c = 54
  · rw [if_neg h3, if_neg h9, if_neg h52, if_neg h53, if_pos h54, h54]
  by_cases h47 : c = 47
  · rw [if_neg h3, if_neg h9, if_neg h52, if_neg h53, if_neg h54, if_pos h47, h47]
  by_cases h48 : c = 48
  · rw [if_neg h3, if_neg h9, if_neg h52, if_neg h53, if_neg h54, if_neg h47, if_pos h48, h48]
  rw [if_neg h3, if_neg h9, if_neg h52, if_neg h53, if_neg h54, if_neg h47, if_neg h48]
theorem tS_cc {a b : qa} {p Hh m s m' s' : Nat} {X : qa} (h3 : X 3 = vC (w3 a p Hh) m' (a 3)) (h9 : X 9 = vC (w9 a Hh) s' (a 9)) (hx : ∀ c, c ≠ 3 → c ≠ 9 → X c = mix (tS a p Hh m s) b c) : X = mix (tS a p Hh m' s') b := by
  funext c
  by_cases e3 : c = 3
  · subst e3
    exact h3
  by_cases e9 : c = 9
  · subst e9
    exact h9
  rw [hx c e3 e9]
  by_cases hc : c < 40 ∧ c ≠ 11
  · rw [mix_c hc, mix_c hc, tS_u e3 e9 (by omega) (by omega) (by omega) (by omega) (by omega), tS_u e3 e9 (by omega) (by omega) (by omega) (by omega) (by omega)]
  · rw [mix_r hc, mix_r hc]
theorem tS_rr {a b : qa} {p Hh m s m' s' : Nat} {X : qa} (h52 : X 52 = vR (nTi a p) m' (a 52)) (h53 : X 53 = vR (nLa a p) m' (a 53)) (h54 : X 54 = vR (nWe a p Hh) m' (a 54)) (h47 : X 47 = vR (f47 a Hh) s' (a 47)) (h48 : X 48 = vR (f48 a Hh) s' (a 48)) (hx : ∀ c, c ≠ 52 → c ≠ 53 → c ≠ 54 → c ≠ 47 → c ≠ 48 → X c = mix b (tS a p Hh m s) c) : X = mix b (tS a p Hh m' s') := by
  funext c
  by_cases e52 : c = 52
  · subst e52
    exact h52
  by_cases e53 : c = 53
  · subst e53
    exact h53
  by_cases e54 : c = 54
  · subst e54
    exact h54
  by_cases e47 : c = 47
  · subst e47
    exact h47
  by_cases e48 : c = 48
  · subst e48
    exact h48
  rw [hx c e52 e53 e54 e47 e48]
  by_cases hc : c < 40 ∧ c ≠ 11
  · rw [mix_c hc, mix_c hc]
  · rw [mix_r hc, mix_r hc, tS_u (by omega) (by omega) e52 e53 e54 e47 e48, tS_u (by omega) (by omega) e52 e53 e54 e47 e48]
theorem tS_mc {a b : qa} {p Hh m s : Nat} {x1 x2 x3 : Int32} (h1 : x1 = nTi a p m) (h2 : x2 = nLa a p m) (h3 : x3 = nWe a p Hh m) : qs (qs (qs (mix (tS a p Hh m s) b) 3 m 1 x1) 3 m 2 x2) 3 m 3 x3 = mix (tS a p Hh (m + 1) s) b := by
  refine tS_cc (m := m) (s := s) (vC_s (m := m) (fun k => ?_) (fun i k hi => ?_)) ?_ ?_
  · unfold w3
    by_cases k1 : k = 1
    · subst k1
      rw [if_pos rfl, qs_nk (by decide), qs_nk (by decide), qs_eq]
      exact h1
    by_cases k2 : k = 2
    · subst k2
      rw [if_neg k1, if_pos rfl, qs_nk (by decide), qs_eq]
      exact h2
    by_cases k3 : k = 3
    · subst k3
      rw [if_neg k1, if_neg k2, if_pos rfl, qs_eq]
      exact h3
    rw [if_neg k1, if_neg k2, if_neg k3, qs_nk k3, qs_nk k2, qs_nk k1, mx_3, tS_3, vC_n (Nat.le_refl _)]
  · rw [qs_ni hi, qs_ni hi, qs_ni hi, mx_3, tS_3]
  · funext i k
    rw [qs_nc (by decide), qs_nc (by decide), qs_nc (by decide), mx_9, tS_9]
  · intro c c3 c9
    funext i k
    rw [qs_nc c3, qs_nc c3, qs_nc c3]
theorem tS_mr {a b : qa} {p Hh m s : Nat} {x1 x2 x3 : Int32} (h1 : x1 = nTi a p m) (h2 : x2 = nLa a p m) (h3 : x3 = nWe a p Hh m) : qs (qs (qs (mix b (tS a p Hh m s)) 52 0 m x1) 53 0 m x2) 54 0 m x3 = mix b (tS a p Hh (m + 1) s) := by
  refine tS_rr (m := m) (s := s) (vR_s ?_ (fun i k hi => ?_)) (vR_s ?_ (fun i k hi => ?_)) (vR_s ?_ (fun i k hi => ?_)) ?_ ?_ ?_
  · rw [qs_nc (by decide), qs_nc (by decide), qs_eq]
    exact h1
  · rw [qs_nc (by decide), qs_nc (by decide)]
    unfold qs
    rw [if_neg (by omega), mx_52, tS_52]
  · rw [qs_nc (by decide), qs_eq]
    exact h2
  · rw [qs_nc (by decide)]
    unfold qs
    rw [if_neg (by omega), if_neg (by omega), mx_53, tS_53]
  · rw [qs_eq]
    exact h3
  · unfold qs
    rw [if_neg (by omega), if_neg (by omega), if_neg (by omega), mx_54, tS_54]
  · funext i k
    rw [qs_nc (by decide), qs_nc (by decide), qs_nc (by decide), mx_47, tS_47]
  · funext i k
    rw [qs_nc (by decide), qs_nc (by decide), qs_nc (by decide), mx_48, tS_48]
  · intro c c2 c3 c4 _ _
    funext i k
    rw [qs_nc c4, qs_nc c3, qs_nc c2]
theorem tS_ac {a b : qa} {p Hh m s : Nat} (h : a 47 0 s = mI ∧ a 50 0 s = nI (Hh + 1)) : qs (qs (qs (mix (tS a p Hh m s) b) 9 s 1 (nIn a s)) 9 s 2 mI) 9 s 4 mI = mix (tS a p Hh m (s + 1)) b := by
  refine tS_cc (m := m) (s := s) ?_ (vC_s (m := s) (fun k => ?_) (fun i k hi => ?_)) ?_
  · funext i k
    rw [qs_nc (by decide), qs_nc (by decide), qs_nc (by decide), mx_3, tS_3]
  · unfold w9
    rw [if_pos h]
    by_cases k1 : k = 1
    · subst k1
      rw [if_pos rfl, qs_nk (by decide), qs_nk (by decide), qs_eq]
    by_cases k2 : k = 2
    · subst k2
      rw [if_neg k1, if_pos rfl, qs_nk (by decide), qs_eq]
    by_cases k3 : k = 4
    · subst k3
      rw [if_neg k1, if_neg k2, if_pos rfl, qs_eq]
    rw [if_neg k1, if_neg k2, if_neg k3, qs_nk k3, qs_nk k2, qs_nk k1, mx_9, tS_9, vC_n (Nat.le_refl _)]
  · rw [qs_ni hi, qs_ni hi, qs_ni hi, mx_9, tS_9]
  · intro c c3 c9
    funext i k
    rw [qs_nc c9, qs_nc c9, qs_nc c9]
theorem tS_ar {a b : qa} {p Hh m s : Nat} (h : a 47 0 s = mI ∧ a 50 0 s = nI (Hh + 1)) : qs (qs (mix b (tS a p Hh m s)) 47 0 s (nIn a s)) 48 0 s mI = mix b (tS a p Hh m (s + 1)) := by
  refine tS_rr (m := m) (s := s) ?_ ?_ ?_ (vR_s ?_ (fun i k hi => ?_)) (vR_s ?_ (fun i k hi => ?_)) ?_
  · funext i k
    rw [qs_nc (by decide), qs_nc (by decide), mx_52, tS_52]
  · funext i k
    rw [qs_nc (by decide), qs_nc (by decide), mx_53, tS_53]
  · funext i k
    rw [qs_nc (by decide), qs_nc (by decide), mx_54, tS_54]
  · rw [qs_nc (by decide), qs_eq]
    unfold f47
    rw [if_pos h]
  · rw [qs_nc (by decide)]
    unfold qs
    rw [if_neg (by omega), mx_47, tS_47]
  · rw [qs_eq]
    unfold f48
    rw [if_pos h]
  · unfold qs
    rw [if_neg (by omega), if_neg (by omega), mx_48, tS_48]
  · intro c _ _ _ c2 c3
    funext i k
    rw [qs_nc c3, qs_nc c2]
theorem tS_n {a : qa} {p Hh m s : Nat} (h : ¬ (a 47 0 s = mI ∧ a 50 0 s = nI (Hh + 1))) : tS a p Hh m (s + 1) = tS a p Hh m s := by
  unfold tS
  have h1 : vC (w9 a Hh) (s + 1) (a 9) = vC (w9 a Hh) s (a 9) := vC_id (fun k => by unfold w9; rw [if_neg h])
  have h2 : vR (f47 a Hh) (s + 1) (a 47) = vR (f47 a Hh) s (a 47) := vR_id (by unfold f47; rw [if_neg h])
  have h3 : vR (f48 a Hh) (s + 1) (a 48) = vR (f48 a Hh) s (a 48) := vR_id (by unfold f48; rw [if_neg h])
  rw [h1, h2, h3]
theorem wk_le (T L c : Int32) : (100 ≤ wkT T L c) ↔ wkT T L c = 100 := by
  unfold wkT
  by_cases h : T + 2 + L * c / 100 < 100
  · rw [if_pos h]
    constructor
    · intro h'
      exact absurd h (Int32.not_lt.mpr h')
    · intro h'
      rw [h']
      exact Int32.le_refl _
  · rw [if_neg h]
    exact ⟨fun _ => rfl, fun _ => Int32.le_refl _⟩
