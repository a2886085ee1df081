abbrev q_V : Type := Value ⊕ (Nat × Nat)
abbrev q_H : Type := (Nat → Nat → Nat → Int32) × (Nat → Nat → Nat → Option (Nat × Nat)) × (Nat → Nat)
abbrev q_M : Type := MethodName × ByteArray × Nat × Option FieldType
abbrev q_G : Type := Launch × va_G × (FieldType → ClassId) × Nat × (State → Prop)
abbrev q_I (x : Int32) : q_V := .inl (.int x)
abbrev q_J (x : Int64) : q_V := .inl (.long x)
abbrev q_N : q_V := .inl .null
abbrev q_O (c i : Nat) : q_V := .inr (c, i)
def q_cl : List vw_C := [(RX0, TX0, 8), (RX1, TX1, 9), (RX2, TX2, 4), (RX3, TX3, 8), (RX4, TX4, 10), (RX5, TX5, 6), (RX6, TX6, 9), (RX7, TX7, 2), (RX8, TX8, 7), (RX9, TX9, 6), (RX10, TX10, 13), (RX11, TX11, 58)]
def q_ty (c : Nat) : Nat → FieldType := match c with
  | 0 => tyX0
  | 1 => tyX1
  | 2 => tyX2
  | 3 => tyX3
  | 4 => tyX4
  | 5 => tyX5
  | 6 => tyX6
  | 7 => tyX7
  | 8 => tyX8
  | 9 => tyX9
  | 10 => tyX10
  | 11 => tyX11
  | _ => fun _ => .int
def q_pk (c : Nat) : Option (FieldType × Nat) := match c with
  | 12 => some (.int, 20)
  | 13 => some (.int, 20)
  | 14 => some (.int, 80)
  | 15 => some (.int, 80)
  | 16 => some (.int, 80)
  | 17 => some (.int, 10)
  | 18 => some (.int, 10)
  | 19 => some (.int, 11)
  | 20 => some (.int, 10)
  | 21 => some (.int, 10)
  | 22 => some (.int, 512)
  | 23 => some (.int, 512)
  | 24 => some (.int, 512)
  | 25 => some (.int, 6)
  | 26 => some (.int, 6)
  | 27 => some (.boolean, 6)
  | 28 => some (.int, 60)
  | 29 => some (.int, 60)
  | 30 => some (.int, 60)
  | 31 => some (.int, 60)
  | 32 => some (.int, 400)
  | 33 => some (.int, 401)
  | 34 => some (.int, 401)
  | 35 => some (.int, 401)
  | 36 => some ((.object "MuleRoad$Mule"), 3)
  | 37 => some ((.object "MuleRoad$Train"), 4)
  | 38 => some ((.object "MuleRoad$Pack"), 100)
  | 39 => some ((.object "MuleRoad$Bargain"), 10)
  | 40 => some (.int, 6)
  | 41 => some (.int, 6)
  | 42 => some (.boolean, 6)
  | 43 => some (.int, 60)
  | 44 => some (.int, 60)
  | 45 => some (.int, 60)
  | 46 => some (.int, 60)
  | 47 => some (.int, 4)
  | 48 => some (.int, 4)
  | 49 => some (.boolean, 4)
  | 50 => some (.int, 4)
  | 51 => some (.int, 12)
  | 52 => some (.int, 12)
  | 53 => some (.boolean, 12)
  | 54 => some (.int, 12)
  | 55 => some (.int, 100)
  | 56 => some (.int, 100)
  | 57 => some (.int, 100)
  | 58 => some (.int, 100)
  | 59 => some (.int, 100)
  | 60 => some (.int, 100)
  | 61 => some (.int, 100)
  | 62 => some (.int, 100)
  | 63 => some (.int, 100)
  | 64 => some (.int, 100)
  | 65 => some (.int, 700)
  | 66 => some (.int, 700)
  | 67 => some (.int, 700)
  | 68 => some (.int, 10)
  | 69 => some (.int, 10)
  | 70 => some (.int, 10)
  | 71 => some (.byte, 400)
  | 72 => some (.int, 11)
  | 73 => some (.int, 11)
  | 74 => some (.int, 220)
  | 75 => some (.int, 220)
  | 76 => some (.int, 880)
  | 77 => some (.int, 880)
  | 78 => some (.int, 880)
  | 79 => some (.long, 1)
  | _ => none
def q_gw : List Cond := lw_tbl.filter goodWord
def q_isN (w : Cond) : Bool := match w with
  | .fieldLinkNest _ _ _ _ _ _ => true
  | .methodLinkNest _ _ _ _ => true
  | _ => false
def q_nw : List Cond := lw_tbl.filter q_isN
def q_ov : List String := ["MuleRoad$Mule", "MuleRoad$Train", "MuleRoad$Pack", "MuleRoad$Bargain"]
def q_wy (y : q_M) : List Cond := .code y.1 y.2.1 y.2.2.1 y.2.2.2 :: q_gw
theorem q_in {w : Cond} (h1 : w ∈ lw_tbl) (h2 : goodWord w = true) : w ∈ q_gw := List.mem_filter.mpr ⟨h1, h2⟩
theorem q_inN {w : Cond} (h1 : w ∈ lw_tbl) (h2 : q_isN w = true) : w ∈ q_nw := List.mem_filter.mpr ⟨h1, h2⟩
theorem q_lay0 : ∀ w ∈ u_ws RX0 TX0 8, w ∈ q_gw := by
  intro w hw
  have h1 : (u_ws RX0 TX0 8).all (fun w => decide (w ∈ lw_tbl) && goodWord w) = true := by decide +kernel
  have h2 := List.all_eq_true.mp h1 w hw
  simp only [Bool.and_eq_true, decide_eq_true_eq] at h2
  exact q_in h2.1 h2.2
theorem q_nf0 : ∀ k, k < 8 → q_ty 0 k ≠ .float ∧ q_ty 0 k ≠ .double := by decide +kernel
theorem q_lay1 : ∀ w ∈ u_ws RX1 TX1 9, w ∈ q_gw := by
  intro w hw
  have h1 : (u_ws RX1 TX1 9).all (fun w => decide (w ∈ lw_tbl) && goodWord w) = true := by decide +kernel
  have h2 := List.all_eq_true.mp h1 w hw
  simp only [Bool.and_eq_true, decide_eq_true_eq] at h2
  exact q_in h2.1 h2.2
theorem q_nf1 : ∀ k, k < 9 → q_ty 1 k ≠ .float ∧ q_ty 1 k ≠ .double := by decide +kernel
theorem q_lay2 : ∀ w ∈ u_ws RX2 TX2 4, w ∈ q_gw := by
  intro w hw
  have h1 : (u_ws RX2 TX2 4).all (fun w => decide (w ∈ lw_tbl) && goodWord w) = true := by decide +kernel
  have h2 := List.all_eq_true.mp h1 w hw
  simp only [Bool.and_eq_true, decide_eq_true_eq] at h2
  exact q_in h2.1 h2.2
theorem q_nf2 : ∀ k, k < 4 → q_ty 2 k ≠ .float ∧ q_ty 2 k ≠ .double := by decide +kernel
theorem q_lay3 : ∀ w ∈ u_ws RX3 TX3 8, w ∈ q_gw := by
  intro w hw
  have h1 : (u_ws RX3 TX3 8).all (fun w => decide (w ∈ lw_tbl) && goodWord w) = true := by decide +kernel
  have h2 := List.all_eq_true.mp h1 w hw
  simp only [Bool.and_eq_true, decide_eq_true_eq] at h2
  exact q_in h2.1 h2.2
theorem q_nf3 : ∀ k, k < 8 → q_ty 3 k ≠ .float ∧ q_ty 3 k ≠ .double := by decide +kernel
theorem q_lay4 : ∀ w ∈ u_ws RX4 TX4 10, w ∈ q_gw := by
  intro w hw
  have h1 : (u_ws RX4 TX4 10).all (fun w => decide (w ∈ lw_tbl) && goodWord w) = true := by decide +kernel
  have h2 := List.all_eq_true.mp h1 w hw
  simp only [Bool.and_eq_true, decide_eq_true_eq] at h2
  exact q_in h2.1 h2.2
theorem q_nf4 : ∀ k, k < 10 → q_ty 4 k ≠ .float ∧ q_ty 4 k ≠ .double := by decide +kernel
theorem q_lay5 : ∀ w ∈ u_ws RX5 TX5 6, w ∈ q_gw := by
  intro w hw
  have h1 : (u_ws RX5 TX5 6).all (fun w => decide (w ∈ lw_tbl) && goodWord w) = true := by decide +kernel
  have h2 := List.all_eq_true.mp h1 w hw
  simp only [Bool.and_eq_true, decide_eq_true_eq] at h2
  exact q_in h2.1 h2.2
theorem q_nf5 : ∀ k, k < 6 → q_ty 5 k ≠ .float ∧ q_ty 5 k ≠ .double := by decide +kernel
theorem q_lay6 : ∀ w ∈ u_ws RX6 TX6 9, w ∈ q_gw := by
  intro w hw
  have h1 : (u_ws RX6 TX6 9).all (fun w => decide (w ∈ lw_tbl) && goodWord w) = true := by decide +kernel
  have h2 := List.all_eq_true.mp h1 w hw
  simp only [Bool.and_eq_true, decide_eq_true_eq] at h2
  exact q_in h2.1 h2.2
theorem q_nf6 : ∀ k, k < 9 → q_ty 6 k ≠ .float ∧ q_ty 6 k ≠ .double := by decide +kernel
theorem q_lay7 : ∀ w ∈ u_ws RX7 TX7 2, w ∈ q_gw := by
  intro w hw
  have h1 : (u_ws RX7 TX7 2).all (fun w => decide (w ∈ lw_tbl) && goodWord w) = true := by decide +kernel
  have h2 := List.all_eq_true.mp h1 w hw
  simp only [Bool.and_eq_true, decide_eq_true_eq] at h2
  exact q_in h2.1 h2.2
theorem q_nf7 : ∀ k, k < 2 → q_ty 7 k ≠ .float ∧ q_ty 7 k ≠ .double := by decide +kernel
theorem q_lay8 : ∀ w ∈ u_ws RX8 TX8 7, w ∈ q_gw := by
  intro w hw
  have h1 : (u_ws RX8 TX8 7).all (fun w => decide (w ∈ lw_tbl) && goodWord w) = true := by decide +kernel
  have h2 := List.all_eq_true.mp h1 w hw
  simp only [Bool.and_eq_true, decide_eq_true_eq] at h2
  exact q_in h2.1 h2.2
theorem q_nf8 : ∀ k, k < 7 → q_ty 8 k ≠ .float ∧ q_ty 8 k ≠ .double := by decide +kernel
theorem q_lay9 : ∀ w ∈ u_ws RX9 TX9 6, w ∈ q_gw := by
  intro w hw
  have h1 : (u_ws RX9 TX9 6).all (fun w => decide (w ∈ lw_tbl) && goodWord w) = true := by decide +kernel
  have h2 := List.all_eq_true.mp h1 w hw
  simp only [Bool.and_eq_true, decide_eq_true_eq] at h2
  exact q_in h2.1 h2.2
theorem q_nf9 : ∀ k, k < 6 → q_ty 9 k ≠ .float ∧ q_ty 9 k ≠ .double := by decide +kernel
theorem q_lay10 : ∀ w ∈ u_ws RX10 TX10 13, w ∈ q_gw := by
  intro w hw
  have h1 : (u_ws RX10 TX10 13).all (fun w => decide (w ∈ lw_tbl) && goodWord w) = true := by decide +kernel
  have h2 := List.all_eq_true.mp h1 w hw
  simp only [Bool.and_eq_true, decide_eq_true_eq] at h2
  exact q_in h2.1 h2.2
theorem q_nf10 : ∀ k, k < 13 → q_ty 10 k ≠ .float ∧ q_ty 10 k ≠ .double := by decide +kernel
theorem q_lay11 : ∀ w ∈ u_ws RX11 TX11 58, w ∈ q_gw := by
  intro w hw
  have h1 : (u_ws RX11 TX11 58).all (fun w => decide (w ∈ lw_tbl) && goodWord w) = true := by decide +kernel
  have h2 := List.all_eq_true.mp h1 w hw
  simp only [Bool.and_eq_true, decide_eq_true_eq] at h2
  exact q_in h2.1 h2.2
theorem q_nf11 : ∀ k, k < 58 → q_ty 11 k ≠ .float ∧ q_ty 11 k ≠ .double := by decide +kernel
def q_ok (c : Nat) (q : vw_C) : Prop := (∀ k, k < q.2.2 → parseFieldDescriptor (q.2.1 k).2.2.1 = some (q_ty c k)) ∧ (∀ a, a < q.2.2 → ∀ b, b < q.2.2 → a ≠ b → (q.2.1 a).2.1 ≠ (q.2.1 b).2.1) ∧ (∀ w ∈ u_ws q.1 q.2.1 q.2.2, w ∈ q_gw) ∧ ∀ k, k < q.2.2 → q_ty c k ≠ .float ∧ q_ty c k ≠ .double
theorem q_cl_ok : ∀ (c : Nat) (q : vw_C), q_cl[c]? = some q → q_ok c q := by
  intro c q hq
  match c, hq with
  | 0, hq => cases hq; exact ⟨tyX0_ok, nmX0, q_lay0, q_nf0⟩
  | 1, hq => cases hq; exact ⟨tyX1_ok, nmX1, q_lay1, q_nf1⟩
  | 2, hq => cases hq; exact ⟨tyX2_ok, nmX2, q_lay2, q_nf2⟩
  | 3, hq => cases hq; exact ⟨tyX3_ok, nmX3, q_lay3, q_nf3⟩
  | 4, hq => cases hq; exact ⟨tyX4_ok, nmX4, q_lay4, q_nf4⟩
  | 5, hq => cases hq; exact ⟨tyX5_ok, nmX5, q_lay5, q_nf5⟩
  | 6, hq => cases hq; exact ⟨tyX6_ok, nmX6, q_lay6, q_nf6⟩
  | 7, hq => cases hq; exact ⟨tyX7_ok, nmX7, q_lay7, q_nf7⟩
  | 8, hq => cases hq; exact ⟨tyX8_ok, nmX8, q_lay8, q_nf8⟩
  | 9, hq => cases hq; exact ⟨tyX9_ok, nmX9, q_lay9, q_nf9⟩
  | 10, hq => cases hq; exact ⟨tyX10_ok, nmX10, q_lay10, q_nf10⟩
  | 11, hq => cases hq; exact ⟨tyX11_ok, nmX11, q_lay11, q_nf11⟩
  | k + 12, hq => simp [q_cl] at hq
theorem q_cl_pk : ∀ (c : Nat) (q : vw_C), q_cl[c]? = some q → q_pk c = none := by
  intro c q hq
  match c, hq with
  | 0, hq => rfl
  | 1, hq => rfl
  | 2, hq => rfl
  | 3, hq => rfl
  | 4, hq => rfl
  | 5, hq => rfl
  | 6, hq => rfl
  | 7, hq => rfl
  | 8, hq => rfl
  | 9, hq => rfl
  | 10, hq => rfl
  | 11, hq => rfl
  | k + 12, hq => simp [q_cl] at hq
def q_fl (own : String) (idx c k : Nat) : Prop := ∃ q : vw_C, q_cl[c]? = some q ∧ k < q.2.2 ∧ (Cond.fieldLink own idx (q.2.1 k).1 (q.2.1 k).2.1 (q.2.1 k).2.2.1 ∈ q_gw ∨ ∃ host, Cond.fieldLinkNest own idx (q.2.1 k).1 (q.2.1 k).2.1 (q.2.1 k).2.2.1 host ∈ q_nw)
def q_lk (y y' : q_M) (idx : Nat) : Prop := Cond.methodLink y.1.cls idx y'.1 ∈ q_gw ∨ ∃ host, Cond.methodLinkNest y.1.cls idx y'.1 host ∈ q_nw
def q_nm (y' : q_M) (n : Nat) : Prop := Cond.initialized y'.1.cls ∈ q_gw ∧ Cond.code y'.1 y'.2.1 y'.2.2.1 y'.2.2.2 ∈ q_gw ∧ (y'.1.cls ≠ "java/lang/invoke/MethodHandle" ∧ y'.1.cls ≠ "java/lang/invoke/VarHandle" ∧ (parseMethodDescriptor y'.1.desc).map (fun d => d.parameters.length) = some n)
def q_mV (y' : q_M) (n : Nat) : Prop := q_nm y' n ∧ Cond.instanceMethod y'.1 ∈ q_gw ∧ Cond.selects y'.1.cls y'.1 y'.1 ∈ q_gw
def q_mS (y' : q_M) (n : Nat) : Prop := q_nm y' n ∧ Cond.static y'.1 ∈ q_gw
def q_mI (y' : q_M) (n : Nat) : Prop := q_nm y' n ∧ y'.1.name = "<init>" ∧ Cond.instanceMethod y'.1 ∈ q_gw ∧ y'.2.2.2 = none
