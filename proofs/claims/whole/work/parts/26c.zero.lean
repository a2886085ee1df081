def hh0 : q_H := (fun _ _ _ => 0, fun _ _ _ => none, fun _ => 0)
def hh1 : q_H := qi_X10 (q_nu hh0 10)
def hh2 : q_H := qi_X11 (q_nu hh1 11)
def hh3 : q_H := q_nu hh2 79
def ZZ (h : q_H) : Prop := ∀ d j n, h.1 d j n = 0 ∨ ((d = 5 ∧ n = 5) ∨ (d = 10 ∧ n = 11) ∨ (d = 11 ∧ n = 49))
theorem ZZ_sr {h : q_H} {c i k : Nat} {r : Option (Nat × Nat)} (z : ZZ h) : ZZ (q_sr h c i k r) := z
theorem ZZ_nu {h : q_H} {c : Nat} (z : ZZ h) : ZZ (q_nu h c) := by
  intro d j n
  show (if d = c ∧ j = h.2.2 c then (0 : Int32) else h.1 d j n) = 0 ∨ _
  by_cases e : d = c ∧ j = h.2.2 c
  · rw [if_pos e]; exact Or.inl rfl
  · rw [if_neg e]; exact z d j n
theorem ZZ_set {h : q_H} {c i k : Nat} (z : ZZ h) : ZZ (q_set h c i k 0) := by
  intro d j n
  show (if d = c ∧ j = i ∧ n = k then (0 : Int32) else h.1 d j n) = 0 ∨ _
  by_cases e : d = c ∧ j = i ∧ n = k
  · rw [if_pos e]; exact Or.inl rfl
  · rw [if_neg e]; exact z d j n
theorem ZZ_setx {h : q_H} {c i k : Nat} {x : Int32} (hc : (c = 5 ∧ k = 5) ∨ (c = 10 ∧ k = 11) ∨ (c = 11 ∧ k = 49)) (z : ZZ h) : ZZ (q_set h c i k x) := by
  intro d j n
  show (if d = c ∧ j = i ∧ n = k then x else h.1 d j n) = 0 ∨ _
  by_cases e : d = c ∧ j = i ∧ n = k
  · right
    obtain ⟨rfl, rfl, rfl⟩ := e
    exact hc
  · rw [if_neg e]; exact z d j n
def NN (c0 : Nat) (h : q_H) : Prop := ∀ j n, h.2.1 c0 j n = none
theorem NN_set {c0 : Nat} {h : q_H} {c i k : Nat} {x : Int32} (z : NN c0 h) : NN c0 (q_set h c i k x) := z
theorem NN_nu {c0 : Nat} {h : q_H} {c : Nat} (z : NN c0 h) : NN c0 (q_nu h c) := by
  intro j n
  show (if c0 = c ∧ j = h.2.2 c then none else h.2.1 c0 j n) = none
  by_cases e : c0 = c ∧ j = h.2.2 c
  · rw [if_pos e]
  · rw [if_neg e]; exact z j n
theorem NN_sr {c0 : Nat} {h : q_H} {c i k : Nat} {r : Option (Nat × Nat)} (hc : c0 ≠ c) (z : NN c0 h) : NN c0 (q_sr h c i k r) := by
  intro j n
  show (if c0 = c ∧ j = i ∧ n = k then r else h.2.1 c0 j n) = none
  rw [if_neg (fun e => hc e.1)]
  exact z j n
theorem ZZ_X0 {h : q_H} {i : Nat} (z : ZZ h) : ZZ (qi_X0 h i) := by
  unfold qi_X0
  repeat' first | exact z | apply ZZ_set | apply ZZ_sr | apply ZZ_nu
theorem ZZ_X1 {h : q_H} {i : Nat} (z : ZZ h) : ZZ (qi_X1 h i) := by
  unfold qi_X1
  repeat' first | exact z | apply ZZ_set | apply ZZ_sr | apply ZZ_nu
theorem ZZ_X2 {h : q_H} {i : Nat} (z : ZZ h) : ZZ (qi_X2 h i) := by
  unfold qi_X2
  repeat' first | exact z | apply ZZ_set | apply ZZ_sr | apply ZZ_nu
theorem ZZ_X6 {h : q_H} {i : Nat} (z : ZZ h) : ZZ (qi_X6 h i) := by
  unfold qi_X6
  repeat' first | exact z | apply ZZ_set | apply ZZ_sr | apply ZZ_nu
theorem ZZ_X7 {h : q_H} {i : Nat} (z : ZZ h) : ZZ (qi_X7 h i) := by
  unfold qi_X7
  repeat' first | exact z | apply ZZ_set | apply ZZ_sr | apply ZZ_nu
theorem ZZ_X8 {h : q_H} {i j : Nat} (z : ZZ h) : ZZ (qi_X8 h i j) := by
  unfold qi_X8
  repeat' first | exact z | apply ZZ_set | apply ZZ_sr | apply ZZ_nu
theorem ZZ_X5 {h : q_H} {i j : Nat} (z : ZZ h) : ZZ (qi_X5 h i j) := by
  unfold qi_X5
  refine ZZ_sr (ZZ_X8 (ZZ_nu (ZZ_setx (Or.inl ⟨rfl, rfl⟩) ?_)))
  repeat' first | exact z | apply ZZ_set | apply ZZ_sr | apply ZZ_nu
set_option maxRecDepth 10000 in
theorem ZZ_X11 {h : q_H} (z : ZZ h) : ZZ (qi_X11 h) := by
  unfold qi_X11
  repeat' first | exact z | apply ZZ_set | apply ZZ_sr | apply ZZ_nu | exact ZZ_setx (Or.inr (Or.inr ⟨rfl, rfl⟩)) (by repeat' first | exact z | apply ZZ_set | apply ZZ_sr | apply ZZ_nu)
theorem ZZ_X10a {h : q_H} (z : ZZ h) : ZZ (qi_X10a h) := by
  unfold qi_X10a
  refine ZZ_set (ZZ_setx (Or.inr (Or.inl ⟨rfl, rfl⟩)) (ZZ_set (ZZ_set (ZZ_set (ZZ_sr (ZZ_X1 (ZZ_nu (ZZ_sr (ZZ_X5 (ZZ_nu (ZZ_sr (ZZ_X7 (ZZ_nu (ZZ_sr (ZZ_X2 (ZZ_nu (ZZ_sr (ZZ_nu (ZZ_sr (ZZ_nu (ZZ_sr (ZZ_nu (ZZ_sr (ZZ_X6 (ZZ_nu z)))))))))))))))))))))))))
theorem ZZ_X10b {h : q_H} {n : Nat} (z : ZZ h) : ∀ k, ZZ (qi_X10b h n k) := by
  intro k
  induction k with
  | zero => exact z
  | succ k ih =>
    show ZZ (qi_X10s (qi_X10b h n k) n k)
    unfold qi_X10s
    exact ZZ_sr (ZZ_X0 (ZZ_nu ih))
theorem ZZ_3 : ZZ hh3 := ZZ_nu (ZZ_X11 (ZZ_nu (ZZ_X10b (ZZ_X10a (ZZ_nu (fun _ _ _ => Or.inl rfl))) 10)))
theorem NN_X0 {c0 : Nat} {h : q_H} {i : Nat} (hc : c0 = 37 ∨ c0 = 38) (z : NN c0 h) : NN c0 (qi_X0 h i) := by
  unfold qi_X0
  repeat' first | exact z | apply NN_set | apply NN_nu | refine NN_sr (by omega) ?_
theorem NN_X1 {c0 : Nat} {h : q_H} {i : Nat} (hc : c0 = 37 ∨ c0 = 38) (z : NN c0 h) : NN c0 (qi_X1 h i) := by
  unfold qi_X1
  repeat' first | exact z | apply NN_set | apply NN_nu | refine NN_sr (by omega) ?_
theorem NN_X2 {c0 : Nat} {h : q_H} {i : Nat} (hc : c0 = 37 ∨ c0 = 38) (z : NN c0 h) : NN c0 (qi_X2 h i) := by
  unfold qi_X2
  repeat' first | exact z | apply NN_set | apply NN_nu | refine NN_sr (by omega) ?_
theorem NN_X6 {c0 : Nat} {h : q_H} {i : Nat} (hc : c0 = 37 ∨ c0 = 38) (z : NN c0 h) : NN c0 (qi_X6 h i) := by
  unfold qi_X6
  repeat' first | exact z | apply NN_set | apply NN_nu | refine NN_sr (by omega) ?_
theorem NN_X7 {c0 : Nat} {h : q_H} {i : Nat} (hc : c0 = 37 ∨ c0 = 38) (z : NN c0 h) : NN c0 (qi_X7 h i) := by
  unfold qi_X7
  repeat' first | exact z | apply NN_set | apply NN_nu | refine NN_sr (by omega) ?_
theorem NN_X8 {c0 : Nat} {h : q_H} {i j : Nat} (hc : c0 = 37 ∨ c0 = 38) (z : NN c0 h) : NN c0 (qi_X8 h i j) := by
  unfold qi_X8
  repeat' first | exact z | apply NN_set | apply NN_nu | refine NN_sr (by omega) ?_
theorem NN_X5 {c0 : Nat} {h : q_H} {i j : Nat} (hc : c0 = 37 ∨ c0 = 38) (z : NN c0 h) : NN c0 (qi_X5 h i j) := by
  unfold qi_X5
  refine NN_sr (by omega) (NN_X8 hc ?_)
  repeat' first | exact z | apply NN_set | apply NN_nu | refine NN_sr (by omega) ?_
set_option maxRecDepth 10000 in
theorem NN_X11 {c0 : Nat} {h : q_H} (hc : c0 = 37 ∨ c0 = 38) (z : NN c0 h) : NN c0 (qi_X11 h) := by
  unfold qi_X11
  repeat' first | exact z | apply NN_set | apply NN_nu | refine NN_sr (by omega) ?_
theorem NN_X10a {c0 : Nat} {h : q_H} (hc : c0 = 37 ∨ c0 = 38) (z : NN c0 h) : NN c0 (qi_X10a h) := by
  unfold qi_X10a
  repeat' first | exact z | apply NN_set | apply NN_nu | refine NN_sr (by omega) ?_ | refine NN_X1 hc ?_ | refine NN_X5 hc ?_ | refine NN_X7 hc ?_ | refine NN_X2 hc ?_ | refine NN_X6 hc ?_
theorem NN_X10b {c0 : Nat} {h : q_H} {n : Nat} (hc : c0 = 37 ∨ c0 = 38) (z : NN c0 h) : ∀ k, NN c0 (qi_X10b h n k) := by
  intro k
  induction k with
  | zero => exact z
  | succ k ih =>
    show NN c0 (qi_X10s (qi_X10b h n k) n k)
    unfold qi_X10s
    exact NN_sr (by omega) (NN_X0 hc (NN_nu ih))
theorem NN_3 {c0 : Nat} (hc : c0 = 37 ∨ c0 = 38) : NN c0 hh3 := NN_nu (NN_X11 hc (NN_nu (NN_X10b hc (NN_X10a hc (NN_nu (fun _ _ => rfl))) 10)))
theorem e3_11 : hh1.2.2 11 = 0 := by decide +kernel
theorem e3_79 : hh2.2.2 79 = 0 := by decide +kernel
theorem e3_B : ∀ b, b < 10 → ∀ k, k < 5 → hh3.2.1 0 b k = some (12 + k, b) := by decide +kernel
theorem e3_A : ∀ j, j < 10 → hh3.2.1 39 0 j = some (0, j) := by decide +kernel
theorem e3_n : hh3.2.2 0 = 10 ∧ hh3.2.2 9 = 0 ∧ hh3.2.2 4 = 0 ∧ hh3.2.2 3 = 0 ∧ hh3.2.2 36 = 0 := by decide +kernel
theorem e3_s : ∀ c k x, q_st c k = some x → hh3.2.1 c 0 k = some x := by
  intro c k x
  unfold q_st
  split <;> intro h <;> cases h <;> decide +kernel
theorem Sh_0 : q_Sh 0 0 hh3.2 := by
  refine ⟨e3_s, fun b k hb hk => e3_B b hb k hk, fun i hi => by omega, fun i j hi => by omega, fun j => ?_, fun j => ?_, e3_A, e3_n.1, e3_n.2.1, e3_n.2.2.1, e3_n.2.2.2.1, e3_n.2.2.2.2, by decide, by decide⟩
  · rw [if_neg (by omega)]
    exact NN_3 (Or.inl rfl) 0 j
  · rw [if_neg (by omega)]
    exact NN_3 (Or.inr rfl) 0 j
theorem z3 (d j n : Nat) (h : ¬ ((d = 5 ∧ n = 5) ∨ (d = 10 ∧ n = 11) ∨ (d = 11 ∧ n = 49))) : hh3.1 d j n = 0 := (ZZ_3 d j n).elim id (fun q => absurd q h)
theorem e3_p : hh3.1 10 0 11 = hh3.1 11 0 49 := by decide +kernel
theorem Inv_0 : Inv 0 0 0 hh3.1 := by
  refine ⟨0, 0, 0, 0, 0, 0, ⟨by decide, z3 _ _ _ (by omega), z3 _ _ _ (by omega), fun j => (z3 _ _ _ (by omega)).trans (z3 _ _ _ (by omega)).symm, fun j => (z3 _ _ _ (by omega)).trans (z3 _ _ _ (by omega)).symm, fun j => (z3 _ _ _ (by omega)).trans (z3 _ _ _ (by omega)).symm, fun j hj => by omega, fun j hj => by omega, fun j => Or.inl (z3 _ _ _ (by omega))⟩, ⟨by decide, z3 _ _ _ (by omega), z3 _ _ _ (by omega), fun j => (z3 _ _ _ (by omega)).trans (z3 _ _ _ (by omega)).symm, fun j => (z3 _ _ _ (by omega)).trans (z3 _ _ _ (by omega)).symm, fun j => (z3 _ _ _ (by omega)).trans (z3 _ _ _ (by omega)).symm, fun j => (z3 _ _ _ (by omega)).trans (z3 _ _ _ (by omega)).symm, fun j hj => by omega⟩, ⟨by decide, z3 _ _ _ (by omega), z3 _ _ _ (by omega)⟩, ⟨z3 _ _ _ (by omega), z3 _ _ _ (by omega), fun i hi => by omega⟩, fun m hm => by omega, ⟨z3 _ _ _ (by omega), z3 _ _ _ (by omega), fun q hq => by omega⟩, ⟨by decide, z3 _ _ _ (by omega), z3 _ _ _ (by omega), fun j hj => by omega⟩, ⟨by decide, z3 _ _ _ (by omega), z3 _ _ _ (by omega), fun b hb => by omega⟩, ⟨by decide, z3 _ _ _ (by omega), z3 _ _ _ (by omega), fun j hj => by omega⟩, e3_p⟩
theorem pr_all : ob_all Inv := ⟨pr_inn, pr_string, pr_snow, pr_shut, pr_pack, pr_lay, pr_down, pr_go, pr_hours, pr_best, pr_bestOf, pr_feed, pr_end, pr_bargain, pr_place, pr_stringOf, pr_muleOf, pr_of, pr_was, pr_count⟩
set_option maxHeartbeats 4000000 in
set_option maxRecDepth 100000 in
theorem law_start {g : q_G} {sb L : Nat} {xs : Nat → Int32} (hXL : q_gL g sb L xs) (hX : q_gX g) (hT : q_gT g) {K : List q_V → q_H → Prop} (hK : ∀ h, K [q_I 1] h) (hL : L ≤ 3072) : q_E g mL_law room_1 K (0, 0) 0 [some (.inl (.ref sb)), none, none, none, none, none, none] [] hh0 := by
  refine xe_new (c := 10) dL_law_0 rfl kL_8 q_ins10.1 q_ins10.2 (Nat.le_of_ble_eq_true rfl) (Nat.le_of_ble_eq_true rfl) ?_
  refine xe_dup dL_law_3 rfl ?_
  refine xe_ci (y' := mX10_init) (c := 10) (i := 0) (as := []) dL_law_4 (Or.inl lL_15) tX10_init cm_X10_init rfl rfl (Nat.le_of_ble_eq_true rfl) ⟨Nat.le_of_ble_eq_true rfl, Nat.le_of_ble_eq_true rfl⟩ ⟨Nat.le_of_ble_eq_true rfl, Nat.le_of_ble_eq_true rfl⟩ (fun v1 h1 hl1 hk1 hm1 => ?_)
  obtain ⟨rfl, rfl⟩ := hk1
  show q_E g mL_law room_1 K _ 7 _ [q_O 10 0] hh1
  refine xe_astore_n dL_law_7 (by decide) q_rvO ?_
  refine xe_new (c := 11) dL_law_8 rfl kL_16 q_ins11.1 q_ins11.2 (Nat.le_of_ble_eq_true rfl) (Nat.le_of_ble_eq_true rfl) ?_
  rw [e3_11]
  refine xe_dup dL_law_11 rfl ?_
  refine xe_ci (y' := mX11_init) (c := 11) (i := 0) (as := []) dL_law_12 (Or.inl lL_18) tX11_init cm_X11_init rfl rfl (Nat.le_of_ble_eq_true rfl) ⟨Nat.le_of_ble_eq_true rfl, Nat.le_of_ble_eq_true rfl⟩ ⟨Nat.le_of_ble_eq_true rfl, Nat.le_of_ble_eq_true rfl⟩ (fun v1 h1 hl1 hk1 hm1 => ?_)
  obtain ⟨rfl, rfl⟩ := hk1
  show q_E g mL_law room_1 K _ 15 _ [q_O 11 0] hh2
  refine xe_astore_n dL_law_15 (by decide) q_rvO ?_
  refine xe_iconst 1 dL_law_16 (by decide) ?_
  refine xe_newa (c := 79) dL_law_17 rfl rfl q_ac_long (fun _ _ h => h) (by decide) (by decide) (by decide) (Nat.le_of_ble_eq_true rfl) (Nat.le_of_ble_eq_true rfl) ?_
  rw [e3_79]
  show q_E g mL_law room_1 K _ 19 _ [q_O 79 0] hh3
  refine xe_astore_n dL_law_19 (by decide) q_rvO ?_
  refine xe_iconst 0 dL_law_20 (by decide) ?_
  refine xe_istore dL_law_21 (by decide) ?_
  exact law_loop hXL hX hK pr_all (pr_18 hXL hT) hL (fun _ _ _ _ h => h.k) (L + 1) 0 (by omega) (by omega) 0 0 hh3.2 hh3.1 _ Sh_0 Inv_0 (Nat.le_of_ble_eq_true rfl) (Nat.le_of_ble_eq_true rfl)
