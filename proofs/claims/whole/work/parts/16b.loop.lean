def ob_inn (Iv : Nat → Nat → Nat → qa → Prop) : Prop := ∀ (t p k : Nat) (a : qa) (x1 x2 x3 : Int32), k < 512 → t ≤ 4 → p ≤ 100 → q_isb x3 → Iv t p k a → wp_X10_inn t p x1 x2 x3 a (fun r a1 => wp_X11_inn t p x1 x2 x3 a1 (fun r' a2 => r = r' ∧ Iv t p (k + 1) a2))
def ob_string (Iv : Nat → Nat → Nat → qa → Prop) : Prop := ∀ (t p k : Nat) (s : q_S) (a : qa) (x1 x2 x3 x4 : Int32), k < 512 → q_Sh t p s → Iv t p k a → wp_X10_string t p s x1 x2 x3 x4 a (fun r h1 => ∃ a1 s1 t1 p1, h1 = (a1, s1) ∧ q_Sh t1 p1 s1 ∧ wp_X11_string t1 p1 x1 x2 x3 x4 a1 (fun r' a2 => r = r' ∧ Iv t1 p1 (k + 1) a2))
def ob_snow (Iv : Nat → Nat → Nat → qa → Prop) : Prop := ∀ (t p k : Nat) (a : qa) (x1 x2 x3 : Int32), k < 512 → t ≤ 4 → p ≤ 100 → Iv t p k a → wp_X10_snow t p x1 x2 x3 a (fun r a1 => wp_X11_snow t p x1 x2 x3 a1 (fun r' a2 => r = r' ∧ Iv t p (k + 1) a2))
def ob_shut (Iv : Nat → Nat → Nat → qa → Prop) : Prop := ∀ (t p k : Nat) (a : qa) (x1 x2 x3 : Int32), k < 512 → t ≤ 4 → p ≤ 100 → Iv t p k a → wp_X10_shut t p x1 x2 x3 a (fun r a1 => wp_X11_shut t p x1 x2 x3 a1 (fun r' a2 => r = r' ∧ Iv t p (k + 1) a2))
def ob_pack (Iv : Nat → Nat → Nat → qa → Prop) : Prop := ∀ (t p k : Nat) (s : q_S) (a : qa) (x1 x2 x3 x4 : Int32), k < 512 → q_Sh t p s → Iv t p k a → wp_X10_pack t p s x1 x2 x3 x4 a (fun r h1 => ∃ a1 s1 t1 p1, h1 = (a1, s1) ∧ q_Sh t1 p1 s1 ∧ wp_X11_pack t1 p1 x1 x2 x3 x4 a1 (fun r' a2 => r = r' ∧ Iv t1 p1 (k + 1) a2))
def ob_lay (Iv : Nat → Nat → Nat → qa → Prop) : Prop := ∀ (t p k : Nat) (a : qa) (x1 x2 x3 x4 : Int32), k < 512 → t ≤ 4 → p ≤ 100 → Iv t p k a → wp_X10_lay t p x1 x2 x3 x4 a (fun r a1 => wp_X11_lay t p x1 x2 x3 x4 a1 (fun r' a2 => r = r' ∧ Iv t p (k + 1) a2))
def ob_down (Iv : Nat → Nat → Nat → qa → Prop) : Prop := ∀ (t p k : Nat) (a : qa) (x1 : Int32), k < 512 → t ≤ 4 → p ≤ 100 → Iv t p k a → wp_X10_down t p x1 a (fun r a1 => wp_X11_down t p x1 a1 (fun r' a2 => r = r' ∧ Iv t p (k + 1) a2))
def ob_go (Iv : Nat → Nat → Nat → qa → Prop) : Prop := ∀ (t p k : Nat) (a : qa) (x1 x2 : Int32), k < 512 → t ≤ 4 → p ≤ 100 → q_isb x2 → Iv t p k a → wp_X10_go t p x1 x2 a (fun r a1 => wp_X11_go t p x1 x2 a1 (fun r' a2 => r = r' ∧ Iv t p (k + 1) a2))
def ob_hours (Iv : Nat → Nat → Nat → qa → Prop) : Prop := ∀ (t p k : Nat) (a : qa) (x1 : Int32), k < 512 → t ≤ 4 → p ≤ 100 → Iv t p k a → wp_X10_hours t p x1 a (fun r a1 => wp_X11_hours t p x1 a1 (fun r' a2 => r = r' ∧ Iv t p (k + 1) a2))
def ob_best (Iv : Nat → Nat → Nat → qa → Prop) : Prop := ∀ (t p k : Nat) (a : qa) (x1 x2 : Int32), k < 512 → t ≤ 4 → p ≤ 100 → Iv t p k a → wp_X10_best t p x1 x2 a (fun r a1 => wp_X11_best t p x1 x2 a1 (fun r' a2 => r = r' ∧ Iv t p (k + 1) a2))
def ob_bestOf (Iv : Nat → Nat → Nat → qa → Prop) : Prop := ∀ (t p k : Nat) (a : qa) (x1 x2 x3 : Int32), k < 512 → t ≤ 4 → p ≤ 100 → Iv t p k a → wp_X10_bestOf t p x1 x2 x3 a (fun r a1 => wp_X11_bestOf t p x1 x2 x3 a1 (fun r' a2 => r = r' ∧ Iv t p (k + 1) a2))
def ob_feed (Iv : Nat → Nat → Nat → qa → Prop) : Prop := ∀ (t p k : Nat) (a : qa) (x1 x2 x3 x4 x5 : Int32), k < 512 → t ≤ 4 → p ≤ 100 → Iv t p k a → wp_X10_feed t p x1 x2 x3 x4 x5 a (fun r a1 => wp_X11_feed t p x1 x2 x3 x4 x5 a1 (fun r' a2 => r = r' ∧ Iv t p (k + 1) a2))
def ob_end (Iv : Nat → Nat → Nat → qa → Prop) : Prop := ∀ (t p k : Nat) (a : qa) (x1 : Int32), k < 512 → t ≤ 4 → p ≤ 100 → Iv t p k a → wp_X10_end t p x1 a (fun r a1 => wp_X11_end t p x1 a1 (fun r' a2 => r = r' ∧ Iv t p (k + 1) a2))
def ob_bargain (Iv : Nat → Nat → Nat → qa → Prop) : Prop := ∀ (t p k : Nat) (a : qa), k < 512 → t ≤ 4 → p ≤ 100 → Iv t p k a → wp_X10_bargain t p  a (fun r a1 => wp_X11_bargain t p  a1 (fun r' a2 => r = r' ∧ Iv t p (k + 1) a2))
def ob_place (Iv : Nat → Nat → Nat → qa → Prop) : Prop := ∀ (t p k : Nat) (a : qa), k < 512 → t ≤ 4 → p ≤ 100 → Iv t p k a → wp_X10_place t p  a (fun r a1 => wp_X11_place t p  a1 (fun r' a2 => r = r' ∧ Iv t p (k + 1) a2))
def ob_stringOf (Iv : Nat → Nat → Nat → qa → Prop) : Prop := ∀ (t p k : Nat) (a : qa) (x1 x2 : Int32), k < 512 → t ≤ 4 → p ≤ 100 → Iv t p k a → wp_X10_stringOf t p x1 x2 a (fun r a1 => wp_X11_stringOf t p x1 x2 a1 (fun r' a2 => r = r' ∧ Iv t p (k + 1) a2))
def ob_muleOf (Iv : Nat → Nat → Nat → qa → Prop) : Prop := ∀ (t p k : Nat) (a : qa) (x1 x2 x3 : Int32), k < 512 → t ≤ 4 → p ≤ 100 → Iv t p k a → wp_X10_muleOf t p x1 x2 x3 a (fun r a1 => wp_X11_muleOf t p x1 x2 x3 a1 (fun r' a2 => r = r' ∧ Iv t p (k + 1) a2))
def ob_of (Iv : Nat → Nat → Nat → qa → Prop) : Prop := ∀ (t p k : Nat) (a : qa) (x1 x2 : Int32), k < 512 → t ≤ 4 → p ≤ 100 → Iv t p k a → wp_X10_of t p x1 x2 a (fun r a1 => wp_X11_of t p x1 x2 a1 (fun r' a2 => r = r' ∧ Iv t p (k + 1) a2))
def ob_was (Iv : Nat → Nat → Nat → qa → Prop) : Prop := ∀ (t p k : Nat) (a : qa) (x1 x2 : Int32), k < 512 → t ≤ 4 → p ≤ 100 → Iv t p k a → wp_X10_was t p x1 x2 a (fun r a1 => wp_X11_was t p x1 x2 a1 (fun r' a2 => r = r' ∧ Iv t p (k + 1) a2))
def ob_count (Iv : Nat → Nat → Nat → qa → Prop) : Prop := ∀ (t p k : Nat) (a : qa) (x1 : Int32), k < 512 → t ≤ 4 → p ≤ 100 → Iv t p k a → wp_X10_count t p x1 a (fun r a1 => wp_X11_count t p x1 a1 (fun r' a2 => r = r' ∧ Iv t p (k + 1) a2))
def ob_all (Iv : Nat → Nat → Nat → qa → Prop) : Prop := ob_inn Iv ∧ ob_string Iv ∧ ob_snow Iv ∧ ob_shut Iv ∧ ob_pack Iv ∧ ob_lay Iv ∧ ob_down Iv ∧ ob_go Iv ∧ ob_hours Iv ∧ ob_best Iv ∧ ob_bestOf Iv ∧ ob_feed Iv ∧ ob_end Iv ∧ ob_bargain Iv ∧ ob_place Iv ∧ ob_stringOf Iv ∧ ob_muleOf Iv ∧ ob_of Iv ∧ ob_was Iv ∧ ob_count Iv
def ob_18 (g : q_G) (K : List q_V → q_H → Prop) (sb L : Nat) (Iv : Nat → Nat → Nat → qa → Prop) : Prop := ∀ (t p k : Nat) (s : q_S) (a : qa) (u : Nat × Nat) (i : Int32), k < 512 → q_Sh t p s → Iv t p k a → u.1 + 100 ≤ room_1.cells → u.2 + 2000 ≤ room_1.slots → lw_in i L → (∀ (a2 : qa) (u2 : Nat × Nat), Iv t p (k + 1) a2 → u2.1 ≤ u.1 + 100 → u2.2 ≤ u.2 + 2000 → q_E g mL_law room_1 K u2 1040 (lw_ls sb i) [] (a2, s)) → q_E g mL_law room_1 K u 922 (lw_ls sb i) [] (a, s)
theorem q_bz_b (x : Int32) : q_isb (q_bz x) := by
  unfold q_bz
  by_cases h : x = 0
  · rw [if_pos h]; exact Or.inl rfl
  · rw [if_neg h]; exact Or.inr rfl
theorem lw_gt {a L : Nat} (hL : L ≤ 3072) (ha : a ≤ 3078) : (nI L - 6 < nI a) ↔ L < a + 6 := by
  have h6 : (6 : Int32) = nI 6 := by decide
  rw [h6, Int32.lt_iff_toInt_lt, pk_sub_toInt (by omega) (by omega), nI_toInt (by omega)]
  omega
set_option maxHeartbeats 8000000 in
set_option maxRecDepth 100000 in
theorem law_loop {g : q_G} {sb L : Nat} {xs : Nat → Int32} (hXL : q_gL g sb L xs) (hX : q_gX g) {K : List q_V → q_H → Prop} (hK : ∀ h, K [q_I 1] h) {Iv : Nat → Nat → Nat → qa → Prop} (H : ob_all Iv) (H18 : ob_18 g K sb L Iv) (hL : L ≤ 3072) (hIk : ∀ t p k a, Iv t p k a → Iv t p (k + 1) a) : ∀ (n j : Nat), L + 1 ≤ 6 * j + 6 * n → 6 * j ≤ L → ∀ (t p : Nat) (s : q_S) (a : qa) (u : Nat × Nat), q_Sh t p s → Iv t p j a → u.1 ≤ 1000 + 100 * j → u.2 ≤ 100000 + 2000 * j → q_E g mL_law room_1 K u 23 (lw_ls sb (nI (6 * j))) [] (a, s) := by
  intro n
  induction n with
  | zero =>
    intro j h1 h2
    omega
  | succ n ih =>
    intro j h1 h2 t p s a u hS hI hu1 hu2
    have ht4 : t ≤ 4 := hS.2.2.2.2.2.2.2.2.2.2.2.2.1
    have hp4 : p ≤ 100 := hS.2.2.2.2.2.2.2.2.2.2.2.2.2
    refine xe_iload dL_law_23 rfl ?_
    refine xe_aload_n dL_law_25 rfl q_rvA ?_
    refine xe_slen hXL dL_law_26 ?_
    refine xe_bipush 6 dL_law_27 (by decide) ?_
    refine xe_isub dL_law_29 ?_
    refine xe_ic_gt 1046 dL_law_30 (by decide) (fun c => ?_) (fun c => ?_)
    · refine xe_iconst 1 dL_law_1046 (by decide) ?_
      exact xe_iret .boolean dL_law_1047 rfl (by decide) (hK _)
    · rw [lw_gt hL (by omega)] at c
      have hj6 : 6 * j + 6 ≤ L := by omega
      have hin : lw_in (nI (6 * j)) L := fun k hk => by rw [nI_add]; exact vp_in_nI (by omega) (by omega)
      have hend : ∀ (t p : Nat) (s : q_S) (a : qa) (u2 : Nat × Nat), q_Sh t p s → Iv t p (j + 1) a → u2.1 ≤ u.1 + 100 → u2.2 ≤ u.2 + 2000 → q_E g mL_law room_1 K u2 1040 (lw_ls sb (nI (6 * j))) [] (a, s) := by
        intro t p s a u2 hS hI ha hb
        refine xe_iinc (_ + 6) dL_law_1040 (by decide) rfl rfl ?_
        refine xe_goto 23 dL_law_1043 (by decide) ?_
        have e : nI (6 * j) + 6 = nI (6 * (j + 1)) := by
          rw [show (6 : Int32) = nI 6 by decide, nI_add]
          rfl
        rw [e]
        have q1 : u2.1 ≤ 1000 + 100 * (j + 1) := by omega
        have q2 : u2.2 ≤ 100000 + 2000 * (j + 1) := by omega
        have q3 := ih (j + 1) (by omega) (by omega) t p s a u2 hS hI q1 q2
        exact q3
      refine xe_aload_n dL_law_33 rfl q_rvA ?_
      refine xe_iload dL_law_34 rfl ?_
      refine xe_sld hXL dL_law_36 (vp_in_nI (by omega) (by omega)) ?_
      refine xe_bipush 31 dL_law_37 (by decide) ?_
      refine xe_iand dL_law_39 ?_
      by_cases e_0 : xs (nI (6 * j)).toNatClampNeg &&& 31 = 0
      · have e9 := q_toI e_0 (show (0 : Int32).toInt = 0 by decide)
        refine xe_swIn 140 dL_law_40 (by omega) (by omega) (by rw [e9]; rfl) (by decide) ?_
        exact lw_c0 hXL hS ⟨by show u.1 ≤ 601024; omega, by show u.2 ≤ 7293034; omega⟩ hin (N := fun a2 => Iv t p (j + 1) a2) (H.1 t p j a _ _ _ (by omega) ht4 hp4 (q_bz_b _) hI) (fun a2 hI2 => hend t p s a2 u hS hI2 (by omega) (by omega))
      by_cases e_1 : xs (nI (6 * j)).toNatClampNeg &&& 31 = 1
      · have e9 := q_toI e_1 (show (1 : Int32).toInt = 1 by decide)
        refine xe_swIn 205 dL_law_40 (by omega) (by omega) (by rw [e9]; rfl) (by decide) ?_
        exact lw_c1 hXL hS ⟨by show u.1 + 5 ≤ 601024; omega, by show u.2 + 33 ≤ 7293034; omega⟩ hin (N := fun t1 p1 a2 => Iv t1 p1 (j + 1) a2) (H.2.1 t p j s a _ _ _ _ (by omega) hS hI) (fun t1 p1 s1 a2 hS1 hI2 => hend t1 p1 s1 a2 _ hS1 hI2 (by show u.1 + 5 ≤ _; omega) (by show u.2 + 33 ≤ _; omega))
      by_cases e_2 : xs (nI (6 * j)).toNatClampNeg &&& 31 = 2
      · have e9 := q_toI e_2 (show (2 : Int32).toInt = 2 by decide)
        refine xe_swIn 266 dL_law_40 (by omega) (by omega) (by rw [e9]; rfl) (by decide) ?_
        exact lw_c2 hXL hS ⟨by show u.1 ≤ 601024; omega, by show u.2 ≤ 7293034; omega⟩ hin (N := fun a2 => Iv t p (j + 1) a2) (H.2.2.1 t p j a _ _ _ (by omega) ht4 hp4 hI) (fun a2 hI2 => hend t p s a2 u hS hI2 (by omega) (by omega))
      by_cases e_3 : xs (nI (6 * j)).toNatClampNeg &&& 31 = 3
      · have e9 := q_toI e_3 (show (3 : Int32).toInt = 3 by decide)
        refine xe_swIn 315 dL_law_40 (by omega) (by omega) (by rw [e9]; rfl) (by decide) ?_
        exact lw_c3 hXL hS ⟨by show u.1 ≤ 601024; omega, by show u.2 ≤ 7293034; omega⟩ hin (N := fun a2 => Iv t p (j + 1) a2) (H.2.2.2.1 t p j a _ _ _ (by omega) ht4 hp4 hI) (fun a2 hI2 => hend t p s a2 u hS hI2 (by omega) (by omega))
      by_cases e_4 : xs (nI (6 * j)).toNatClampNeg &&& 31 = 4
      · have e9 := q_toI e_4 (show (4 : Int32).toInt = 4 by decide)
        refine xe_swIn 364 dL_law_40 (by omega) (by omega) (by rw [e9]; rfl) (by decide) ?_
        exact lw_c4 hXL hS ⟨by show u.1 + 1 ≤ 601024; omega, by show u.2 + 10 ≤ 7293034; omega⟩ hin (N := fun t1 p1 a2 => Iv t1 p1 (j + 1) a2) (H.2.2.2.2.1 t p j s a _ _ _ _ (by omega) hS hI) (fun t1 p1 s1 a2 hS1 hI2 => hend t1 p1 s1 a2 _ hS1 hI2 (by show u.1 + 1 ≤ _; omega) (by show u.2 + 10 ≤ _; omega))
      by_cases e_5 : xs (nI (6 * j)).toNatClampNeg &&& 31 = 5
      · have e9 := q_toI e_5 (show (5 : Int32).toInt = 5 by decide)
        refine xe_swIn 425 dL_law_40 (by omega) (by omega) (by rw [e9]; rfl) (by decide) ?_
        exact lw_c5 hXL hS ⟨by show u.1 ≤ 601024; omega, by show u.2 ≤ 7293034; omega⟩ hin (N := fun a2 => Iv t p (j + 1) a2) (H.2.2.2.2.2.1 t p j a _ _ _ _ (by omega) ht4 hp4 hI) (fun a2 hI2 => hend t p s a2 u hS hI2 (by omega) (by omega))
      by_cases e_6 : xs (nI (6 * j)).toNatClampNeg &&& 31 = 6
      · have e9 := q_toI e_6 (show (6 : Int32).toInt = 6 by decide)
        refine xe_swIn 486 dL_law_40 (by omega) (by omega) (by rw [e9]; rfl) (by decide) ?_
        exact lw_c6 hXL hS ⟨by show u.1 ≤ 601024; omega, by show u.2 ≤ 7293034; omega⟩ hin (N := fun a2 => Iv t p (j + 1) a2) (H.2.2.2.2.2.2.1 t p j a _ (by omega) ht4 hp4 hI) (fun a2 hI2 => hend t p s a2 u hS hI2 (by omega) (by omega))
      by_cases e_7 : xs (nI (6 * j)).toNatClampNeg &&& 31 = 7
      · have e9 := q_toI e_7 (show (7 : Int32).toInt = 7 by decide)
        refine xe_swIn 511 dL_law_40 (by omega) (by omega) (by rw [e9]; rfl) (by decide) ?_
        exact lw_c7 hXL hS ⟨by show u.1 ≤ 601024; omega, by show u.2 ≤ 7293034; omega⟩ hin (N := fun a2 => Iv t p (j + 1) a2) (H.2.2.2.2.2.2.2.1 t p j a _ _ (by omega) ht4 hp4 (q_bz_b _) hI) (fun a2 hI2 => hend t p s a2 u hS hI2 (by omega) (by omega))
      by_cases e_8 : xs (nI (6 * j)).toNatClampNeg &&& 31 = 8
      · have e9 := q_toI e_8 (show (8 : Int32).toInt = 8 by decide)
        refine xe_swIn 564 dL_law_40 (by omega) (by omega) (by rw [e9]; rfl) (by decide) ?_
        exact lw_c8 hXL hS ⟨by show u.1 ≤ 601024; omega, by show u.2 ≤ 7293034; omega⟩ hin (N := fun a2 => Iv t p (j + 1) a2) (H.2.2.2.2.2.2.2.2.1 t p j a _ (by omega) ht4 hp4 hI) (fun a2 hI2 => hend t p s a2 u hS hI2 (by omega) (by omega))
      by_cases e_9 : xs (nI (6 * j)).toNatClampNeg &&& 31 = 9
      · have e9 := q_toI e_9 (show (9 : Int32).toInt = 9 by decide)
        refine xe_swIn 589 dL_law_40 (by omega) (by omega) (by rw [e9]; rfl) (by decide) ?_
        exact lw_c9 hXL hS ⟨by show u.1 ≤ 601024; omega, by show u.2 ≤ 7293034; omega⟩ hin (N := fun a2 => Iv t p (j + 1) a2) (H.2.2.2.2.2.2.2.2.2.1 t p j a _ _ (by omega) ht4 hp4 hI) (fun a2 hI2 => hend t p s a2 u hS hI2 (by omega) (by omega))
      by_cases e_10 : xs (nI (6 * j)).toNatClampNeg &&& 31 = 10
      · have e9 := q_toI e_10 (show (10 : Int32).toInt = 10 by decide)
        refine xe_swIn 626 dL_law_40 (by omega) (by omega) (by rw [e9]; rfl) (by decide) ?_
        exact lw_c10 hXL hS ⟨by show u.1 ≤ 601024; omega, by show u.2 ≤ 7293034; omega⟩ hin (N := fun a2 => Iv t p (j + 1) a2) (H.2.2.2.2.2.2.2.2.2.2.1 t p j a _ _ _ (by omega) ht4 hp4 hI) (fun a2 hI2 => hend t p s a2 u hS hI2 (by omega) (by omega))
      by_cases e_11 : xs (nI (6 * j)).toNatClampNeg &&& 31 = 11
      · have e9 := q_toI e_11 (show (11 : Int32).toInt = 11 by decide)
        refine xe_swIn 675 dL_law_40 (by omega) (by omega) (by rw [e9]; rfl) (by decide) ?_
        exact lw_c11 hXL hS ⟨by show u.1 ≤ 601024; omega, by show u.2 ≤ 7293034; omega⟩ hin (N := fun a2 => Iv t p (j + 1) a2) (H.2.2.2.2.2.2.2.2.2.2.2.1 t p j a _ _ _ _ _ (by omega) ht4 hp4 hI) (fun a2 hI2 => hend t p s a2 u hS hI2 (by omega) (by omega))
      by_cases e_12 : xs (nI (6 * j)).toNatClampNeg &&& 31 = 12
      · have e9 := q_toI e_12 (show (12 : Int32).toInt = 12 by decide)
        refine xe_swIn 748 dL_law_40 (by omega) (by omega) (by rw [e9]; rfl) (by decide) ?_
        exact lw_c12 hXL hS ⟨by show u.1 ≤ 601024; omega, by show u.2 ≤ 7293034; omega⟩ hin (N := fun a2 => Iv t p (j + 1) a2) (H.2.2.2.2.2.2.2.2.2.2.2.2.1 t p j a _ (by omega) ht4 hp4 hI) (fun a2 hI2 => hend t p s a2 u hS hI2 (by omega) (by omega))
      by_cases e_13 : xs (nI (6 * j)).toNatClampNeg &&& 31 = 13
      · have e9 := q_toI e_13 (show (13 : Int32).toInt = 13 by decide)
        refine xe_swIn 773 dL_law_40 (by omega) (by omega) (by rw [e9]; rfl) (by decide) ?_
        exact lw_c13 hXL hX hS ⟨by show u.1 ≤ 601024; omega, by show u.2 ≤ 7293034; omega⟩ hin (N := fun a2 => Iv t p (j + 1) a2) (H.2.2.2.2.2.2.2.2.2.2.2.2.2.1 t p j a  (by omega) ht4 hp4 hI) (fun a2 hI2 => hend t p s a2 u hS hI2 (by omega) (by omega))
      by_cases e_14 : xs (nI (6 * j)).toNatClampNeg &&& 31 = 14
      · have e9 := q_toI e_14 (show (14 : Int32).toInt = 14 by decide)
        refine xe_swIn 786 dL_law_40 (by omega) (by omega) (by rw [e9]; rfl) (by decide) ?_
        exact lw_c14 hXL hS ⟨by show u.1 ≤ 601024; omega, by show u.2 ≤ 7293034; omega⟩ hin (N := fun a2 => Iv t p (j + 1) a2) (H.2.2.2.2.2.2.2.2.2.2.2.2.2.2.1 t p j a  (by omega) ht4 hp4 hI) (fun a2 hI2 => hend t p s a2 u hS hI2 (by omega) (by omega))
      by_cases e_15 : xs (nI (6 * j)).toNatClampNeg &&& 31 = 15
      · have e9 := q_toI e_15 (show (15 : Int32).toInt = 15 by decide)
        refine xe_swIn 799 dL_law_40 (by omega) (by omega) (by rw [e9]; rfl) (by decide) ?_
        exact lw_c15 hXL hS ⟨by show u.1 ≤ 601024; omega, by show u.2 ≤ 7293034; omega⟩ hin (N := fun a2 => Iv t p (j + 1) a2) (H.2.2.2.2.2.2.2.2.2.2.2.2.2.2.2.1 t p j a _ _ (by omega) ht4 hp4 hI) (fun a2 hI2 => hend t p s a2 u hS hI2 (by omega) (by omega))
      by_cases e_16 : xs (nI (6 * j)).toNatClampNeg &&& 31 = 16
      · have e9 := q_toI e_16 (show (16 : Int32).toInt = 16 by decide)
        refine xe_swIn 836 dL_law_40 (by omega) (by omega) (by rw [e9]; rfl) (by decide) ?_
        exact lw_c16 hXL hS ⟨by show u.1 ≤ 601024; omega, by show u.2 ≤ 7293034; omega⟩ hin (N := fun a2 => Iv t p (j + 1) a2) (H.2.2.2.2.2.2.2.2.2.2.2.2.2.2.2.2.1 t p j a _ _ _ (by omega) ht4 hp4 hI) (fun a2 hI2 => hend t p s a2 u hS hI2 (by omega) (by omega))
      by_cases e_17 : xs (nI (6 * j)).toNatClampNeg &&& 31 = 17
      · have e9 := q_toI e_17 (show (17 : Int32).toInt = 17 by decide)
        refine xe_swIn 885 dL_law_40 (by omega) (by omega) (by rw [e9]; rfl) (by decide) ?_
        exact lw_c17 hXL hS ⟨by show u.1 ≤ 601024; omega, by show u.2 ≤ 7293034; omega⟩ hin (N := fun a2 => Iv t p (j + 1) a2) (H.2.2.2.2.2.2.2.2.2.2.2.2.2.2.2.2.2.1 t p j a _ _ (by omega) ht4 hp4 hI) (fun a2 hI2 => hend t p s a2 u hS hI2 (by omega) (by omega))
      by_cases e_18 : xs (nI (6 * j)).toNatClampNeg &&& 31 = 18
      · have e9 := q_toI e_18 (show (18 : Int32).toInt = 18 by decide)
        refine xe_swIn 922 dL_law_40 (by omega) (by omega) (by rw [e9]; rfl) (by decide) ?_
        exact H18 t p j s a u _ (by omega) hS hI (by show u.1 + 100 ≤ 601024; omega) (by show u.2 + 2000 ≤ 7293034; omega) hin (fun a2 u2 hI2 hu1 hu2 => hend t p s a2 u2 hS hI2 (by omega) (by omega))
      by_cases e_19 : xs (nI (6 * j)).toNatClampNeg &&& 31 = 19
      · have e9 := q_toI e_19 (show (19 : Int32).toInt = 19 by decide)
        refine xe_swIn 978 dL_law_40 (by omega) (by omega) (by rw [e9]; rfl) (by decide) ?_
        exact lw_c19 hXL hS ⟨by show u.1 ≤ 601024; omega, by show u.2 ≤ 7293034; omega⟩ hin (N := fun a2 => Iv t p (j + 1) a2) (H.2.2.2.2.2.2.2.2.2.2.2.2.2.2.2.2.2.2.1 t p j a _ _ (by omega) ht4 hp4 hI) (fun a2 hI2 => hend t p s a2 u hS hI2 (by omega) (by omega))
      by_cases e_20 : xs (nI (6 * j)).toNatClampNeg &&& 31 = 20
      · have e9 := q_toI e_20 (show (20 : Int32).toInt = 20 by decide)
        refine xe_swIn 1015 dL_law_40 (by omega) (by omega) (by rw [e9]; rfl) (by decide) ?_
        exact lw_c20 hXL hS ⟨by show u.1 ≤ 601024; omega, by show u.2 ≤ 7293034; omega⟩ hin (N := fun a2 => Iv t p (j + 1) a2) (H.2.2.2.2.2.2.2.2.2.2.2.2.2.2.2.2.2.2.2 t p j a _ (by omega) ht4 hp4 hI) (fun a2 hI2 => hend t p s a2 u hS hI2 (by omega) (by omega))
      have z_0 := lv_neT e_0 (show (0 : Int32).toInt = 0 by decide)
      have z_1 := lv_neT e_1 (show (1 : Int32).toInt = 1 by decide)
      have z_2 := lv_neT e_2 (show (2 : Int32).toInt = 2 by decide)
      have z_3 := lv_neT e_3 (show (3 : Int32).toInt = 3 by decide)
      have z_4 := lv_neT e_4 (show (4 : Int32).toInt = 4 by decide)
      have z_5 := lv_neT e_5 (show (5 : Int32).toInt = 5 by decide)
      have z_6 := lv_neT e_6 (show (6 : Int32).toInt = 6 by decide)
      have z_7 := lv_neT e_7 (show (7 : Int32).toInt = 7 by decide)
      have z_8 := lv_neT e_8 (show (8 : Int32).toInt = 8 by decide)
      have z_9 := lv_neT e_9 (show (9 : Int32).toInt = 9 by decide)
      have z_10 := lv_neT e_10 (show (10 : Int32).toInt = 10 by decide)
      have z_11 := lv_neT e_11 (show (11 : Int32).toInt = 11 by decide)
      have z_12 := lv_neT e_12 (show (12 : Int32).toInt = 12 by decide)
      have z_13 := lv_neT e_13 (show (13 : Int32).toInt = 13 by decide)
      have z_14 := lv_neT e_14 (show (14 : Int32).toInt = 14 by decide)
      have z_15 := lv_neT e_15 (show (15 : Int32).toInt = 15 by decide)
      have z_16 := lv_neT e_16 (show (16 : Int32).toInt = 16 by decide)
      have z_17 := lv_neT e_17 (show (17 : Int32).toInt = 17 by decide)
      have z_18 := lv_neT e_18 (show (18 : Int32).toInt = 18 by decide)
      have z_19 := lv_neT e_19 (show (19 : Int32).toInt = 19 by decide)
      have z_20 := lv_neT e_20 (show (20 : Int32).toInt = 20 by decide)
      refine xe_swOut 1040 dL_law_40 (by omega) (by decide) ?_
      exact hend t p s a u hS (hIk t p j a hI) (by omega) (by omega)
