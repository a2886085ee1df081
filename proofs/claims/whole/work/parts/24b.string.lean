def muV (n : Nat) (x : Int32) : Int32 := if n = 0 then x else if n = 3 then mI else if n = 6 then mI else nI 0
theorem se_o {h : q_H} {c i k d j n : Nat} {x : Int32} (h' : d ≠ c ∨ j ≠ i) : (q_set h c i k x).1 d j n = h.1 d j n := if_neg (fun q => by omega)
theorem se_k {h : q_H} {c i k n : Nat} {x : Int32} (h' : n ≠ k) : (q_set h c i k x).1 c i n = h.1 c i n := if_neg (fun q => by omega)
theorem se_e {h : q_H} {c i k : Nat} {x : Int32} : (q_set h c i k x).1 c i k = x := if_pos ⟨rfl, rfl, rfl⟩
theorem nu_o {h : q_H} {c d j n : Nat} (h' : d ≠ c ∨ j ≠ h.2.2 c) : (q_nu h c).1 d j n = h.1 d j n := if_neg (fun q => by omega)
theorem mi_o {h : q_H} {i d j n : Nat} {x : Int32} (h' : d ≠ 3 ∨ j ≠ i) : (q_mi h i x).1 d j n = h.1 d j n := by
  unfold q_mi
  rw [se_o h', se_o h', se_o h', se_o h', se_o h', se_o h', se_o h', se_o h']
theorem mi_v {h : q_H} {i n : Nat} {x : Int32} (hn : n < 8) : (q_mi h i x).1 3 i n = muV n x := by
  unfold q_mi
  obtain rfl | rfl | rfl | rfl | rfl | rfl | rfl | rfl : n = 0 ∨ n = 1 ∨ n = 2 ∨ n = 3 ∨ n = 4 ∨ n = 5 ∨ n = 6 ∨ n = 7 := by omega
  · rw [se_e]
    rfl
  · rw [se_k (by decide), se_k (by decide), se_k (by decide), se_k (by decide), se_k (by decide), se_k (by decide), se_k (by decide), se_e]
    rfl
  · rw [se_k (by decide), se_k (by decide), se_k (by decide), se_k (by decide), se_k (by decide), se_k (by decide), se_e]
    rfl
  · rw [se_k (by decide), se_k (by decide), se_k (by decide), se_k (by decide), se_k (by decide), se_e]
    rfl
  · rw [se_k (by decide), se_k (by decide), se_k (by decide), se_k (by decide), se_e]
    rfl
  · rw [se_k (by decide), se_k (by decide), se_k (by decide), se_e]
    rfl
  · rw [se_k (by decide), se_k (by decide), se_e]
    rfl
  · rw [se_k (by decide), se_e]
    rfl
theorem t2_o {h : q_H} {m k d j n : Nat} {x : Int32} (h' : d ≠ 3 ∨ j ≠ h.2.2 3) : (q_t2 h m k x).1 d j n = h.1 d j n := (mi_o h').trans (nu_o h')
theorem t2_v {h : q_H} {m k n : Nat} {x : Int32} (hn : n < 8) : (q_t2 h m k x).1 3 (h.2.2 3) n = muV n x := mi_v hn
theorem t2_c {h : q_H} {m k : Nat} {x : Int32} : (q_t2 h m k x).2.2 3 = h.2.2 3 + 1 := rfl
theorem t1_o {h : q_H} {i d j n : Nat} {x : Int32} (h' : d ≠ 9 ∨ j ≠ i) (h6 : d ≠ 36) : (q_t1 h i x).1 d j n = h.1 d j n := by
  unfold q_t1
  rw [se_o h', se_o h', se_o h', se_o h', se_o h']
  exact nu_o (Or.inl h6)
theorem t1_v {h : q_H} {i : Nat} {x : Int32} : (q_t1 h i x).1 9 i 1 = x ∧ (q_t1 h i x).1 9 i 2 = -1 ∧ (q_t1 h i x).1 9 i 4 = -1 ∧ (q_t1 h i x).1 9 i 5 = 0 := by
  unfold q_t1
  refine ⟨?_, ?_, ?_, ?_⟩
  · rw [se_e]
  · rw [se_k (by decide), se_k (by decide), se_k (by decide), se_k (by decide), se_e]
  · rw [se_k (by decide), se_k (by decide), se_e]
  · rw [se_k (by decide), se_e]
theorem t1_c {h : q_H} {i : Nat} {x : Int32} : (q_t1 h i x).2.2 3 = h.2.2 3 := rfl
theorem str_e (a : qa) (s : q_S) (x1 x2 x3 x4 : Int32) : (q_str1 (a, s) x1 x2 x3 x4).1 = (q_t2 (q_t2 (q_t2 (q_t1 (q_nu (a, s) 9) (s.2 9) x1) (s.2 36) 0 x2) (s.2 36) 1 x3) (s.2 36) 2 x4).1 := rfl
theorem str_c (a : qa) (s : q_S) (x1 : Int32) : (q_t1 (q_nu (a, s) 9) (s.2 9) x1).2.2 3 = s.2 3 := rfl
theorem st1_u {a : qa} {s : q_S} {x1 x2 x3 x4 : Int32} {c i n : Nat} (h9 : c ≠ 9) (h3 : c ≠ 3) (h36 : c ≠ 36) : (q_str1 (a, s) x1 x2 x3 x4).1 c i n = a c i n := by
  rw [str_e, t2_o (Or.inl h3), t2_o (Or.inl h3), t2_o (Or.inl h3), t1_o (Or.inl h9) h36, nu_o (Or.inl h9)]
theorem st1_9 {a : qa} {s : q_S} {x1 x2 x3 x4 : Int32} {i n : Nat} (h : i ≠ s.2 9) : (q_str1 (a, s) x1 x2 x3 x4).1 9 i n = a 9 i n := by
  rw [str_e, t2_o (Or.inl (by decide)), t2_o (Or.inl (by decide)), t2_o (Or.inl (by decide)), t1_o (Or.inr h) (by decide), nu_o (Or.inr h)]
theorem st1_v {a : qa} {s : q_S} {x1 x2 x3 x4 : Int32} : (q_str1 (a, s) x1 x2 x3 x4).1 9 (s.2 9) 1 = x1 ∧ (q_str1 (a, s) x1 x2 x3 x4).1 9 (s.2 9) 2 = -1 ∧ (q_str1 (a, s) x1 x2 x3 x4).1 9 (s.2 9) 4 = -1 ∧ (q_str1 (a, s) x1 x2 x3 x4).1 9 (s.2 9) 5 = 0 := by
  have e : ∀ n, (q_str1 (a, s) x1 x2 x3 x4).1 9 (s.2 9) n = (q_t1 (q_nu (a, s) 9) (s.2 9) x1).1 9 (s.2 9) n := by
    intro n
    rw [str_e, t2_o (Or.inl (by decide)), t2_o (Or.inl (by decide)), t2_o (Or.inl (by decide))]
  rw [e, e, e, e]
  exact t1_v
theorem st1_3 {a : qa} {s : q_S} {x1 x2 x3 x4 : Int32} {i n : Nat} (h : i < s.2 3) : (q_str1 (a, s) x1 x2 x3 x4).1 3 i n = a 3 i n := by
  rw [str_e, t2_o (Or.inr (by rw [t2_c, t2_c, str_c]; omega)), t2_o (Or.inr (by rw [t2_c, str_c]; omega)), t2_o (Or.inr (by rw [str_c]; omega)), t1_o (Or.inl (by decide)) (by decide), nu_o (Or.inl (by decide))]
theorem st1_m {a : qa} {s : q_S} {x1 x2 x3 x4 : Int32} {n : Nat} (hn : n < 8) : (q_str1 (a, s) x1 x2 x3 x4).1 3 (s.2 3) n = muV n x2 ∧ (q_str1 (a, s) x1 x2 x3 x4).1 3 (s.2 3 + 1) n = muV n x3 ∧ (q_str1 (a, s) x1 x2 x3 x4).1 3 (s.2 3 + 2) n = muV n x4 := by
  rw [str_e]
  refine ⟨?_, ?_, ?_⟩
  · rw [t2_o (Or.inr (by rw [t2_c, t2_c, str_c]; omega)), t2_o (Or.inr (by rw [t2_c, str_c]; omega))]
    exact t2_v hn
  · rw [t2_o (Or.inr (by rw [t2_c, t2_c, str_c]; omega))]
    exact t2_v hn
  · exact t2_v hn
theorem string_inv {I S Hh B T M t p k : Nat} {a a' : qa} {r : Nat} {sv : Nat → Nat} (ht : t < 4) (hA : iA I a) (hB : iB I S Hh a) (hC : iC Hh a) (hD : iD I t p a) (hE : iE t p a) (hF : iF I Hh t p B a) (hG : iG Hh p k M a) (hH : iH Hh B a) (hT : iI T a) (hJ : a 10 0 11 = a 11 0 49) (hr : r < I) (hsv : ∀ j, j < 3 → 20 ≤ sv j ∧ sv j ≤ 120)
    (w : ∀ c, c ≠ 3 → c ≠ 9 → c ≠ 10 → c ≠ 11 → c ≠ 36 → c ≠ 47 → c ≠ 48 → c ≠ 51 → c ≠ 52 → c ≠ 53 → c ≠ 54 → a' c = a c) (w10 : ∀ n, n ≠ 8 → a' 10 0 n = a 10 0 n) (v8 : a' 10 0 8 = nI (t + 1)) (w11 : ∀ n, n ≠ 0 → n ≠ 11 → a' 11 0 n = a 11 0 n) (v11 : a' 11 0 11 = nI (t + 1)) (u9 : ∀ i n, i < t → a' 9 i n = a 9 i n) (x1 : a' 9 t 1 = nI r) (x2 : a' 9 t 2 = mI) (x4 : a' 9 t 4 = mI) (x5 : a' 9 t 5 = nI 0) (u3 : ∀ m n, m < 3 * t → a' 3 m n = a 3 m n) (v3 : ∀ j n, j < 3 → n < 8 → a' 3 (3 * t + j) n = muV n (nI (sv j))) (u47 : ∀ m, m < t → a' 47 0 m = a 47 0 m) (v47 : a' 47 0 t = nI r) (u48 : ∀ m, m < t → a' 48 0 m = a 48 0 m) (v48 : a' 48 0 t = mI) (u51 : ∀ m, m < 3 * t → a' 51 0 m = a 51 0 m) (v51 : ∀ j, j < 3 → a' 51 0 (3 * t + j) = nI (sv j)) (u52 : ∀ m, m < 3 * t → a' 52 0 m = a 52 0 m) (v52 : ∀ j, j < 3 → a' 52 0 (3 * t + j) = nI 0) (u53 : ∀ m, m < 3 * t → a' 53 0 m = a 53 0 m) (v53 : ∀ j, j < 3 → a' 53 0 (3 * t + j) = nI 0) (u54 : ∀ m, m < 3 * t → a' 54 0 m = a 54 0 m) (v54 : ∀ j, j < 3 → a' 54 0 (3 * t + j) = mI) : Inv (t + 1) p (k + 1) a' := by
  have hI6 := hA.1
  have ww : ∀ c, c = 0 ∨ c = 2 ∨ c = 4 ∨ c = 6 ∨ c = 7 ∨ (12 ≤ c ∧ c ≤ 35) ∨ (37 ≤ c ∧ c ≤ 46) ∨ (49 ≤ c ∧ c ≤ 50) ∨ (55 ≤ c ∧ c ≤ 80) → a' c = a c := fun c hc => w c (by omega) (by omega) (by omega) (by omega) (by omega) (by omega) (by omega) (by omega) (by omega) (by omega) (by omega)
  have on : ∀ q, q < p → a 58 0 q = 1 → ∃ i j, i < t ∧ j < 3 ∧ a 60 0 q = nI (3 * i + j) := by
    intro q hq h1
    obtain ⟨g1, g2, g3, g4, g5, g6, g7, g8, g9, g10, g11⟩ := hF.2.2 q hq
    rcases g11 with ⟨e, _⟩ | ⟨_, ⟨i, j, hi, hj, e, _⟩, _⟩ | ⟨e, _⟩
    · rw [e] at h1
      exact absurd h1 (by decide)
    · exact ⟨i, j, hi, hj, e⟩
    · rw [e] at h1
      exact absurd h1 (by decide)
  have lT : ∀ i, ldT a' i = ldT a i := by
    intro i
    funext q
    unfold ldT
    rw [ww 58 (by omega), ww 60 (by omega)]
  have lW : ∀ m x, ldW a' m x = ldW a m x := by
    intro m x
    funext q
    unfold ldW
    rw [ww 58 (by omega), ww 60 (by omega), ww 61 (by omega), ww 56 (by omega)]
  have hO : ∀ m q, onM a' m 2 q = onM a m 2 q := by
    intro m q
    unfold onM
    rw [ww 58 (by omega), ww 60 (by omega), ww 61 (by omega)]
  have nT' : sumN (ldT a t) p = 0 := by
    refine sumN_0 p (fun q hq => ?_)
    unfold ldT
    refine if_neg (fun h => ?_)
    obtain ⟨i, j, hi, hj, e⟩ := on q hq h.1
    have h2 := h.2
    rw [e, l3, nI_div (by omega) (by omega), neq (by omega) (by omega)] at h2
    omega
  have nM : ∀ j q, j < 3 → q < p → ¬ (a 58 0 q = 1 ∧ a 60 0 q = nI (3 * t + j)) := by
    intro j q hj hq h
    obtain ⟨i, j', hi, hj', e⟩ := on q hq h.1
    have h2 := h.2
    rw [e, neq (by omega) (by omega)] at h2
    omega
  have nW : ∀ j x, j < 3 → sumN (ldW a (3 * t + j) x) p = 0 := by
    intro j x hj
    refine sumN_0 p (fun q hq => ?_)
    unfold ldW
    exact if_neg (fun h => nM j q hj hq ⟨h.1, h.2.1⟩)
  refine ⟨I, S, Hh, B, T, M, hA.cg ?_ ?_ ?_ ?_ ?_ ?_ ?_ ?_, hB.cg ?_ ?_ ?_ ?_ ?_ ?_ ?_ ?_ ?_ ?_, ⟨hC.1, (w10 12 (by decide)).trans hC.2.1, (w11 1 (by decide) (by decide)).trans hC.2.2⟩, ?_, ?_, ?_, (hG.k).cg ?_ ?_ ?_ ?_ ?_ ?_ ?_ ?_ ?_, hH.cg ?_ ?_ ?_ ?_ ?_ ?_ ?_ ?_ ?_ ?_ ?_ ?_ ?_ ?_ ?_, hT.cg ?_ ?_ ?_ ?_, ?_⟩
  all_goals first
    | exact ww _ (by omega)
    | exact w10 _ (by decide)
    | exact w11 _ (by decide) (by decide)
    | exact congrFun (congrFun (ww _ (by omega)) _) _
    | skip
  · refine ⟨v8, v11, fun i hi => ?_⟩
    rw [lT]
    by_cases c : i = t
    · subst c
      rw [x1, x2, x4, x5, v47, v48, nT']
      exact ⟨rfl, rfl, rfl, Or.inl ⟨r, hr, rfl, rfl, rfl⟩⟩
    · have hi' : i < t := by omega
      rw [u9 i 1 hi', u9 i 2 hi', u9 i 3 hi', u9 i 4 hi', u9 i 5 hi', u47 i hi', u48 i hi', ww 49 (by omega), ww 50 (by omega)]
      exact hD.2.2 i hi'
  · intro m hm
    rw [lW, lW, lW]
    simp only [hO]
    by_cases c : m < 3 * t
    · rw [u3 m 0 c, u3 m 1 c, u3 m 2 c, u3 m 3 c, u3 m 4 c, u3 m 5 c, u3 m 6 c, u3 m 7 c, u51 m c, u52 m c, u53 m c, u54 m c]
      exact hE m c
    · obtain ⟨j, hj, rfl⟩ : ∃ j, j < 3 ∧ m = 3 * t + j := ⟨m - 3 * t, by omega, by omega⟩
      rw [v3 j 0 hj (by decide), v3 j 1 hj (by decide), v3 j 2 hj (by decide), v3 j 3 hj (by decide), v3 j 4 hj (by decide), v3 j 5 hj (by decide), v3 j 6 hj (by decide), v3 j 7 hj (by decide), v51 j hj, v52 j hj, v53 j hj, v54 j hj, nW j 0 hj, nW j 1 hj, nW j 2 hj]
      obtain ⟨s1, s2⟩ := hsv j hj
      refine ⟨rfl, rfl, rfl, Or.inl rfl, rfl, ⟨0, by omega, rfl⟩, ⟨sv j, s1, s2, rfl⟩, ⟨0, 0, 0, by omega, rfl, rfl, rfl⟩, rfl, rfl, rfl, Or.inl ⟨rfl, fun q hq h => nM j q hj hq ⟨h.1, h.2.1⟩⟩⟩
  · refine ⟨(w10 9 (by decide)).trans hF.1, (w11 20 (by decide) (by decide)).trans hF.2.1, fun q hq => ?_⟩
    have ew : wth a' B q = wth a B q := by
      refine wth_cg (q' := 0) ?_ ?_ ?_ ?_ ?_ ?_ ?_ ?_ ?_ ?_ ?_ ?_
      all_goals rw [ww _ (by omega)]
    obtain ⟨g1, g2, g3, g4, g5, g6, g7, g8, g9, g10, g11⟩ := hF.2.2 q hq
    simp only [ww 4 (by omega), ww 55 (by omega), ww 56 (by omega), ww 57 (by omega), ww 58 (by omega), ww 59 (by omega), ww 60 (by omega), ww 61 (by omega), ww 62 (by omega), ww 64 (by omega), ew]
    refine ⟨g1, g2, g3, g4, g5, g6, g7, g8, g9, g10, ?_⟩
    rcases g11 with h | ⟨k1, ⟨i, j, hi, hj, k2, k3, k4, k5⟩, k6⟩ | h
    · exact Or.inl h
    · refine Or.inr (Or.inl ⟨k1, ⟨i, j, by omega, hj, k2, k3, k4, ?_⟩, k6⟩)
      rw [u47 i hi]
      exact k5
    · exact Or.inr (Or.inr h)
  · rw [w10 11 (by decide), w11 49 (by decide) (by decide)]
    exact hJ
