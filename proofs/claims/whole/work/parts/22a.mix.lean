def mix (a b : qa) : qa := fun c => if c < 40 ∧ c ≠ 11 then a c else b c
theorem mix_c {a b : qa} {c : Nat} (h : c < 40 ∧ c ≠ 11) : mix a b c = a c := if_pos h
theorem mix_r {a b : qa} {c : Nat} (h : ¬ (c < 40 ∧ c ≠ 11)) : mix a b c = b c := if_neg h
theorem mix_s (a : qa) : mix a a = a := by
  funext c
  unfold mix
  by_cases h : c < 40 ∧ c ≠ 11
  · rw [if_pos h]
  · rw [if_neg h]
theorem mix_qc {a b : qa} {c i k : Nat} {x : Int32} (h : c < 40 ∧ c ≠ 11) : qs (mix a b) c i k x = mix (qs a c i k x) b := by
  funext d j n
  by_cases hd : d < 40 ∧ d ≠ 11
  · rw [mix_c hd]
    unfold qs
    rw [mix_c hd]
  · have hne : d ≠ c := fun e => hd (by rw [e]; exact h)
    rw [mix_r hd, qs_nc hne, mix_r hd]
theorem mix_qr {a b : qa} {c i k : Nat} {x : Int32} (h : ¬ (c < 40 ∧ c ≠ 11)) : qs (mix a b) c i k x = mix a (qs b c i k x) := by
  funext d j n
  by_cases hd : d < 40 ∧ d ≠ 11
  · have hne : d ≠ c := fun e => h (by rw [← e]; exact hd)
    rw [mix_c hd, qs_nc hne, mix_c hd]
  · rw [mix_r hd]
    unfold qs
    rw [mix_r hd]
theorem mix_qx {a b : qa} {c i k : Nat} {x : Int32} (h : ¬ (c < 40 ∧ c ≠ 11)) : mix (qs a c i k x) b = mix a b := by
  funext d
  by_cases hd : d < 40 ∧ d ≠ 11
  · rw [mix_c hd, mix_c hd]
    funext j n
    exact qs_nc (fun e => h (by rw [← e]; exact hd))
  · rw [mix_r hd, mix_r hd]
theorem mix_qy {a b : qa} {c i k : Nat} {x : Int32} (h : c < 40 ∧ c ≠ 11) : mix a (qs b c i k x) = mix a b := by
  funext d
  by_cases hd : d < 40 ∧ d ≠ 11
  · rw [mix_c hd, mix_c hd]
  · rw [mix_r hd, mix_r hd]
    funext j n
    exact qs_nc (fun e => hd (by rw [e]; exact h))
theorem qs_id {a : qa} {c i k : Nat} {x : Int32} (h : a c i k = x) : qs a c i k x = a := by
  funext d j n
  unfold qs
  by_cases e : d = c ∧ j = i ∧ n = k
  · obtain ⟨rfl, rfl, rfl⟩ := e
    rw [if_pos ⟨rfl, rfl, rfl⟩, h]
  · rw [if_neg e]
theorem mx_0 (a b : qa) : mix a b 0 = a 0 := rfl
theorem mx_1 (a b : qa) : mix a b 1 = a 1 := rfl
theorem mx_2 (a b : qa) : mix a b 2 = a 2 := rfl
theorem mx_3 (a b : qa) : mix a b 3 = a 3 := rfl
theorem mx_4 (a b : qa) : mix a b 4 = a 4 := rfl
theorem mx_5 (a b : qa) : mix a b 5 = a 5 := rfl
theorem mx_6 (a b : qa) : mix a b 6 = a 6 := rfl
theorem mx_7 (a b : qa) : mix a b 7 = a 7 := rfl
theorem mx_8 (a b : qa) : mix a b 8 = a 8 := rfl
theorem mx_9 (a b : qa) : mix a b 9 = a 9 := rfl
theorem mx_10 (a b : qa) : mix a b 10 = a 10 := rfl
theorem mx_11 (a b : qa) : mix a b 11 = b 11 := rfl
theorem mx_12 (a b : qa) : mix a b 12 = a 12 := rfl
theorem mx_13 (a b : qa) : mix a b 13 = a 13 := rfl
theorem mx_14 (a b : qa) : mix a b 14 = a 14 := rfl
theorem mx_15 (a b : qa) : mix a b 15 = a 15 := rfl
theorem mx_16 (a b : qa) : mix a b 16 = a 16 := rfl
theorem mx_17 (a b : qa) : mix a b 17 = a 17 := rfl
theorem mx_18 (a b : qa) : mix a b 18 = a 18 := rfl
theorem mx_19 (a b : qa) : mix a b 19 = a 19 := rfl
theorem mx_20 (a b : qa) : mix a b 20 = a 20 := rfl
theorem mx_21 (a b : qa) : mix a b 21 = a 21 := rfl
theorem mx_22 (a b : qa) : mix a b 22 = a 22 := rfl
theorem mx_23 (a b : qa) : mix a b 23 = a 23 := rfl
theorem mx_24 (a b : qa) : mix a b 24 = a 24 := rfl
theorem mx_25 (a b : qa) : mix a b 25 = a 25 := rfl
theorem mx_26 (a b : qa) : mix a b 26 = a 26 := rfl
theorem mx_27 (a b : qa) : mix a b 27 = a 27 := rfl
theorem mx_28 (a b : qa) : mix a b 28 = a 28 := rfl
theorem mx_29 (a b : qa) : mix a b 29 = a 29 := rfl
theorem mx_30 (a b : qa) : mix a b 30 = a 30 := rfl
theorem mx_31 (a b : qa) : mix a b 31 = a 31 := rfl
theorem mx_32 (a b : qa) : mix a b 32 = a 32 := rfl
theorem mx_33 (a b : qa) : mix a b 33 = a 33 := rfl
theorem mx_34 (a b : qa) : mix a b 34 = a 34 := rfl
theorem mx_35 (a b : qa) : mix a b 35 = a 35 := rfl
theorem mx_36 (a b : qa) : mix a b 36 = a 36 := rfl
theorem mx_37 (a b : qa) : mix a b 37 = a 37 := rfl
theorem mx_38 (a b : qa) : mix a b 38 = a 38 := rfl
theorem mx_39 (a b : qa) : mix a b 39 = a 39 := rfl
theorem mx_40 (a b : qa) : mix a b 40 = b 40 := rfl
theorem mx_41 (a b : qa) : mix a b 41 = b 41 := rfl
theorem mx_42 (a b : qa) : mix a b 42 = b 42 := rfl
theorem mx_43 (a b : qa) : mix a b 43 = b 43 := rfl
theorem mx_44 (a b : qa) : mix a b 44 = b 44 := rfl
theorem mx_45 (a b : qa) : mix a b 45 = b 45 := rfl
theorem mx_46 (a b : qa) : mix a b 46 = b 46 := rfl
theorem mx_47 (a b : qa) : mix a b 47 = b 47 := rfl
theorem mx_48 (a b : qa) : mix a b 48 = b 48 := rfl
theorem mx_49 (a b : qa) : mix a b 49 = b 49 := rfl
theorem mx_50 (a b : qa) : mix a b 50 = b 50 := rfl
theorem mx_51 (a b : qa) : mix a b 51 = b 51 := rfl
theorem mx_52 (a b : qa) : mix a b 52 = b 52 := rfl
theorem mx_53 (a b : qa) : mix a b 53 = b 53 := rfl
theorem mx_54 (a b : qa) : mix a b 54 = b 54 := rfl
theorem mx_55 (a b : qa) : mix a b 55 = b 55 := rfl
theorem mx_56 (a b : qa) : mix a b 56 = b 56 := rfl
theorem mx_57 (a b : qa) : mix a b 57 = b 57 := rfl
theorem mx_58 (a b : qa) : mix a b 58 = b 58 := rfl
theorem mx_59 (a b : qa) : mix a b 59 = b 59 := rfl
theorem mx_60 (a b : qa) : mix a b 60 = b 60 := rfl
theorem mx_61 (a b : qa) : mix a b 61 = b 61 := rfl
theorem mx_62 (a b : qa) : mix a b 62 = b 62 := rfl
theorem mx_63 (a b : qa) : mix a b 63 = b 63 := rfl
theorem mx_64 (a b : qa) : mix a b 64 = b 64 := rfl
theorem mx_65 (a b : qa) : mix a b 65 = b 65 := rfl
theorem mx_66 (a b : qa) : mix a b 66 = b 66 := rfl
theorem mx_67 (a b : qa) : mix a b 67 = b 67 := rfl
theorem mx_68 (a b : qa) : mix a b 68 = b 68 := rfl
theorem mx_69 (a b : qa) : mix a b 69 = b 69 := rfl
theorem mx_70 (a b : qa) : mix a b 70 = b 70 := rfl
theorem mx_71 (a b : qa) : mix a b 71 = b 71 := rfl
theorem mx_72 (a b : qa) : mix a b 72 = b 72 := rfl
theorem mx_73 (a b : qa) : mix a b 73 = b 73 := rfl
theorem mx_74 (a b : qa) : mix a b 74 = b 74 := rfl
theorem mx_75 (a b : qa) : mix a b 75 = b 75 := rfl
theorem mx_76 (a b : qa) : mix a b 76 = b 76 := rfl
theorem mx_77 (a b : qa) : mix a b 77 = b 77 := rfl
theorem mx_78 (a b : qa) : mix a b 78 = b 78 := rfl
theorem bt1 : ∀ (R : Fin 64) (l : Fin 6), nI R.val ||| (nI 1 <<< (nI l.val &&& 31)) = nI (R.val ||| 2 ^ l.val) := by decide +kernel
theorem bt2 : ∀ (R : Fin 64) (l : Fin 6), (nI R.val >>> (nI l.val &&& 31)) &&& nI 1 = nI 1 ↔ R.val.testBit l.val = true := by decide +kernel
theorem bt3 : ∀ (R : Fin 64) (l : Fin 6), R.val ||| 2 ^ l.val < 64 := by decide +kernel
theorem bt4 : ∀ (R : Fin 64) (l m : Fin 6), (R.val ||| 2 ^ l.val).testBit m.val = true ↔ R.val.testBit m.val = true ∨ m.val = l.val := by decide +kernel
def sP (X : qa) (Hh l i : Nat) : Prop := X 28 0 i = nI l ∧ ¬ nI Hh < X 29 0 i ∧ ¬ X 30 0 i < nI Hh
set_option maxHeartbeats 4000000 in
theorem sl_shutLegs {t p I S Hh : Nat} {X : qa} {post : Int32 → qa → Prop} (hI : I ≤ 6) (hS : S ≤ 60) (h8 : X 6 0 8 = nI S) (eL : ∀ j, j < S → ∃ l, l + 1 < I ∧ X 28 0 j = nI l) (kk : ∀ R, R < 64 → (∀ l, l < 6 → (R.testBit l = true ↔ ∃ i, i < S ∧ sP X Hh l i)) → post (nI R) X) : ∀ (m j R : Nat), j + m = S → R < 64 → (∀ l, l < 6 → (R.testBit l = true ↔ ∃ i, i < j ∧ sP X Hh l i)) → wl_X6_shutLegs_4 t p post (m + 1) (nI Hh) (nI R) (nI j) X := by
  intro m
  induction m with
  | zero =>
    intro j R hj hR hn
    obtain rfl : j = S := by omega
    simp (disch := first | assumption | omega) only [wl_X6_shutLegs_4, h8, l0, l1, l2, l3, l4, l5, l6, l7, l8, l9, l10, l20, l60, l61, l62, bb_t, bb_f, l100, l120, l512, l400, l401, l700, l9999, nm1, lm1, nlt, nle, neq, glt, gle, lgt, lge, geq, egq, mI_l, mI_e, e_mI, l_mI, le_mI, mI_le, bI_z, nC, vnI, nI_add, nI_sb, nI_mul, a1m, qs_eq, qs_nc, qs_ni, qs_nk, bq_l, bq_r, bq_l', bq_r', bq_t, bq_f, bq_t', bq_f', bq_n, bq_m, iT, iS, iN, true_and, and_true, eq_self, not_true_eq_false, not_false_eq_true, forall_const, bx_t, bx_f, reduceCtorEq, Option.some.injEq, forall_eq', ite_true, ite_false]
    exact kk R hR hn
  | succ m ih =>
    intro j R hj hR hn
    have hno : (¬ ∃ l, sP X Hh l j) → wl_X6_shutLegs_4 t p post (m + 1) (nI Hh) (nI R) (nI (j + 1)) X := by
      intro hno
      refine ih (j + 1) R (by omega) hR (fun l hl => ?_)
      rw [hn l hl]
      refine ⟨fun ⟨i, hi, h⟩ => ⟨i, by omega, h⟩, fun ⟨i, hi, h⟩ => ?_⟩
      by_cases c : i = j
      · subst c
        exact absurd ⟨l, h⟩ hno
      · exact ⟨i, by omega, h⟩
    obtain ⟨l', hl', el⟩ := eL j (by omega)
    have hyes : ¬ nI Hh < X 29 0 j → ¬ X 30 0 j < nI Hh → wl_X6_shutLegs_4 t p post (m + 1) (nI Hh) (nI (R ||| 2 ^ l')) (nI (j + 1)) X := by
      intro y1 y2
      refine ih (j + 1) (R ||| 2 ^ l') (by omega) (bt3 ⟨R, hR⟩ ⟨l', by omega⟩) (fun l hl => ?_)
      have b := bt4 ⟨R, hR⟩ ⟨l', by omega⟩ ⟨l, hl⟩
      rw [b, hn l hl]
      constructor
      · rintro (⟨i, hi, h⟩ | h)
        · exact ⟨i, by omega, h⟩
        · have h' : l = l' := h
          subst h'
          exact ⟨j, by omega, el, y1, y2⟩
      · rintro ⟨i, hi, h⟩
        by_cases c : i = j
        · subst c
          right
          have := h.1
          rw [el, neq (by omega) (by omega)] at this
          exact this.symm
        · exact Or.inl ⟨i, by omega, h⟩
    unfold wl_X6_shutLegs_4
    by_cases y1 : nI Hh < X 29 0 j
    · have := hno (fun ⟨l, h⟩ => h.2.1 y1)
      simp (disch := first | assumption | omega) only [h8, l0, l1, l2, l3, l4, l5, l6, l7, l8, l9, l10, l20, l60, l61, l62, bb_t, bb_f, l100, l120, l512, l400, l401, l700, l9999, nm1, lm1, nlt, nle, neq, glt, gle, lgt, lge, geq, egq, mI_l, mI_e, e_mI, l_mI, le_mI, mI_le, bI_z, nC, vnI, nI_add, nI_sb, nI_mul, a1m, qs_eq, qs_nc, qs_ni, qs_nk, bq_l, bq_r, bq_l', bq_r', bq_t, bq_f, bq_t', bq_f', bq_n, bq_m, iT, iS, iN, true_and, and_true, eq_self, not_true_eq_false, not_false_eq_true, forall_const, bx_t, bx_f, reduceCtorEq, Option.some.injEq, forall_eq', ite_true, ite_false]
      exact this
    by_cases y2 : X 30 0 j < nI Hh
    · have := hno (fun ⟨l, h⟩ => h.2.2 y2)
      simp (disch := first | assumption | omega) only [h8, l0, l1, l2, l3, l4, l5, l6, l7, l8, l9, l10, l20, l60, l61, l62, bb_t, bb_f, l100, l120, l512, l400, l401, l700, l9999, nm1, lm1, nlt, nle, neq, glt, gle, lgt, lge, geq, egq, mI_l, mI_e, e_mI, l_mI, le_mI, mI_le, bI_z, nC, vnI, nI_add, nI_sb, nI_mul, a1m, qs_eq, qs_nc, qs_ni, qs_nk, bq_l, bq_r, bq_l', bq_r', bq_t, bq_f, bq_t', bq_f', bq_n, bq_m, iT, iS, iN, true_and, and_true, eq_self, not_true_eq_false, not_false_eq_true, forall_const, bx_t, bx_f, reduceCtorEq, Option.some.injEq, forall_eq', ite_true, ite_false]
      exact this
    have := hyes y1 y2
    have b := bt1 ⟨R, hR⟩ ⟨l', by omega⟩
    have b' : nI R ||| nI 1 <<< (nI l' &&& 31) = nI (R ||| 2 ^ l') := b
    simp (disch := first | assumption | omega) only [h8, el, b', l0, l1, l2, l3, l4, l5, l6, l7, l8, l9, l10, l20, l60, l61, l62, bb_t, bb_f, l100, l120, l512, l400, l401, l700, l9999, nm1, lm1, nlt, nle, neq, glt, gle, lgt, lge, geq, egq, mI_l, mI_e, e_mI, l_mI, le_mI, mI_le, bI_z, nC, vnI, nI_add, nI_sb, nI_mul, a1m, qs_eq, qs_nc, qs_ni, qs_nk, bq_l, bq_r, bq_l', bq_r', bq_t, bq_f, bq_t', bq_f', bq_n, bq_m, iT, iS, iN, true_and, and_true, eq_self, not_true_eq_false, not_false_eq_true, forall_const, bx_t, bx_f, reduceCtorEq, Option.some.injEq, forall_eq', ite_true, ite_false]
    exact this
theorem sp_shutLegs {t p I S Hh : Nat} {X : qa} {post : Int32 → qa → Prop} (hI : I ≤ 6) (hS : S ≤ 60) (h8 : X 6 0 8 = nI S) (eL : ∀ j, j < S → ∃ l, l + 1 < I ∧ X 28 0 j = nI l) (kk : ∀ R, R < 64 → (∀ l, l < 6 → (R.testBit l = true ↔ ∃ i, i < S ∧ sP X Hh l i)) → post (nI R) X) : wp_X6_shutLegs t p (nI Hh) X post :=
  ⟨S + 1, sl_shutLegs hI hS h8 eL kk S 0 0 (by omega) (by omega) (fun l _ => ⟨fun h => by rw [Nat.zero_testBit] at h; exact absurd h (by decide), fun ⟨i, hi, _⟩ => by omega⟩)⟩
def lgO (r tg : Nat) : Nat := if tg ≤ r then r - 1 else r
def hdP (a : qa) (S Hh q : Nat) : Prop := ∃ r tg, r < 6 ∧ tg < 6 ∧ a 57 0 q = nI tg ∧ ¬ r = tg ∧ shE a S (nI (lgO r tg)) (nI Hh) (nI Hh) ∧ ((a 58 0 q = nI 0 ∧ a 59 0 q = nI r) ∨ (a 58 0 q = nI 1 ∧ ∃ i, a 60 0 q / nI 3 = nI i ∧ i < 4 ∧ a 47 0 i = nI r))
noncomputable def hdv (a : qa) (S Hh q : Nat) : Int32 := @ite _ (hdP a S Hh q) (Classical.propDecidable _) (nI 1) (nI 0)
theorem hdv_t {a : qa} {S Hh q : Nat} (h : hdP a S Hh q) : hdv a S Hh q = nI 1 := if_pos h
theorem hdv_f {a : qa} {S Hh q : Nat} (h : ¬ hdP a S Hh q) : hdv a S Hh q = nI 0 := if_neg h
noncomputable def hS (a : qa) (S Hh P : Nat) : qa := fun c i k => if c = 4 ∧ k = 8 ∧ i < P then a 4 i 8 + hdv a S Hh i else if c = 64 ∧ i = 0 ∧ k < P then a 64 0 k + hdv a S Hh k else a c i k
theorem hS_u {a : qa} {S Hh P c : Nat} (h4 : c ≠ 4) (h64 : c ≠ 64) : hS a S Hh P c = a c := by
  funext i k
  unfold hS
  rw [if_neg (fun h => h4 h.1), if_neg (fun h => h64 h.1)]
theorem hS_4 {a : qa} {S Hh P i k : Nat} (h : k ≠ 8 ∨ P ≤ i) : hS a S Hh P 4 i k = a 4 i k := by
  unfold hS
  rw [if_neg (fun x => by omega), if_neg (fun x => by omega)]
theorem hS_48 {a : qa} {S Hh P i : Nat} (h : i < P) : hS a S Hh P 4 i 8 = a 4 i 8 + hdv a S Hh i := by
  unfold hS
  rw [if_pos ⟨rfl, rfl, h⟩]
theorem hS_64 {a : qa} {S Hh P k : Nat} (h : P ≤ k) : hS a S Hh P 64 0 k = a 64 0 k := by
  unfold hS
  rw [if_neg (fun x => by omega), if_neg (fun x => by omega)]
theorem hS_64' {a : qa} {S Hh P k : Nat} (h : k < P) : hS a S Hh P 64 0 k = a 64 0 k + hdv a S Hh k := by
  unfold hS
  rw [if_neg (fun x => by omega), if_pos ⟨rfl, rfl, h⟩]
theorem hS_0 (a : qa) (S Hh : Nat) : hS a S Hh 0 = a := by
  funext c i k
  unfold hS
  rw [if_neg (fun x => by omega), if_neg (fun x => by omega)]
theorem hS_sc {a b : qa} {S Hh P : Nat} {x : Int32} (h : x = a 4 P 8 + hdv a S Hh P) : qs (mix (hS a S Hh P) b) 4 P 8 x = mix (hS a S Hh (P + 1)) b := by
  rw [mix_qc (by omega)]
  funext c
  by_cases hc : c < 40 ∧ c ≠ 11
  · rw [mix_c hc, mix_c hc]
    funext i k
    by_cases e : c = 4 ∧ i = P ∧ k = 8
    · obtain ⟨rfl, rfl, rfl⟩ := e
      rw [qs_eq, hS_48 (by omega), h]
    · unfold qs
      rw [if_neg e]
      unfold hS
      by_cases e1 : c = 4 ∧ k = 8 ∧ i < P
      · rw [if_pos e1, if_pos (by omega)]
      · rw [if_neg e1, if_neg (by omega), if_neg (by omega), if_neg (by omega)]
  · rw [mix_r hc, mix_r hc]
theorem hS_sr {a b : qa} {S Hh P : Nat} {x : Int32} (h : x = a 64 0 P + hdv a S Hh P) : qs (mix b (hS a S Hh P)) 64 0 P x = mix b (hS a S Hh (P + 1)) := by
  rw [mix_qr (by omega)]
  funext c
  by_cases hc : c < 40 ∧ c ≠ 11
  · rw [mix_c hc, mix_c hc]
  · rw [mix_r hc, mix_r hc]
    funext i k
    by_cases e : c = 64 ∧ i = 0 ∧ k = P
    · obtain ⟨rfl, rfl, rfl⟩ := e
      rw [qs_eq, hS_64' (by omega), h]
    · unfold qs
      rw [if_neg e]
      unfold hS
      have e0 : ¬ (c = 4 ∧ k = 8 ∧ i < P) := by omega
      have e0' : ¬ (c = 4 ∧ k = 8 ∧ i < P + 1) := by omega
      rw [if_neg e0, if_neg e0']
      by_cases e1 : c = 64 ∧ i = 0 ∧ k < P
      · rw [if_pos e1, if_pos (by omega)]
      · rw [if_neg e1, if_neg (by omega)]
theorem hS_s0 {a : qa} {S Hh P : Nat} (h : hdv a S Hh P = nI 0) : hS a S Hh (P + 1) = hS a S Hh P := by
  funext c i k
  unfold hS
  by_cases e : c = 4 ∧ k = 8 ∧ i = P
  · obtain ⟨rfl, rfl, rfl⟩ := e
    rw [if_pos ⟨rfl, rfl, by omega⟩, h, if_neg (by omega), if_neg (by omega), anz]
  · by_cases e1 : c = 4 ∧ k = 8 ∧ i < P
    · rw [if_pos e1, if_pos (by omega)]
    · rw [if_neg e1, if_neg (by omega)]
      by_cases e2 : c = 64 ∧ i = 0 ∧ k = P
      · obtain ⟨rfl, rfl, rfl⟩ := e2
        rw [if_pos ⟨rfl, rfl, by omega⟩, h, if_neg (by omega), anz]
      · by_cases e3 : c = 64 ∧ i = 0 ∧ k < P
        · rw [if_pos e3, if_pos (by omega)]
        · rw [if_neg e3, if_neg (by omega)]
