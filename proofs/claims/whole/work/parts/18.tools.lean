theorem q_ib {x : Int32} (h : q_isb x) : vp_nar .boolean x = x := by
  rcases h with rfl | rfl <;> rfl
theorem q_lti {x y : Int32} : x < y ↔ x.toInt < y.toInt := Int32.lt_iff_toInt_lt
theorem q_lei {x y : Int32} : x ≤ y ↔ x.toInt ≤ y.toInt := Int32.le_iff_toInt_le
theorem q_eqi {x y : Int32} : x = y ↔ x.toInt = y.toInt := Int32.toInt_inj.symm
def mx : Nat := 2147483648
theorem nT {n : Nat} (h : n < 2147483648) : (nI n).toInt = n := nI_toInt h
theorem i32c (x : Int32) : x < 0 ∨ ∃ n, n < 2147483648 ∧ x = nI n := by
  by_cases h : x < 0
  · exact Or.inl h
  · right
    have h1 : 0 ≤ x.toInt := by
      have := Int32.not_lt.mp h
      rw [q_lei] at this
      exact this
    have h2 := Int32.toInt_lt x
    refine ⟨x.toInt.toNat, by omega, ?_⟩
    rw [q_eqi, nT (by omega)]
    omega
theorem nlt {a b : Nat} (ha : a < 2147483648) (hb : b < 2147483648) : (nI a < nI b) = (a < b) := by
  rw [q_lti, nT ha, nT hb]
  exact propext Int.ofNat_lt
theorem nle {a b : Nat} (ha : a < 2147483648) (hb : b < 2147483648) : (nI a ≤ nI b) = (a ≤ b) := by
  rw [q_lei, nT ha, nT hb]
  exact propext Int.ofNat_le
theorem neq {a b : Nat} (ha : a < 2147483648) (hb : b < 2147483648) : (nI a = nI b) = (a = b) := by
  rw [q_eqi, nT ha, nT hb]
  exact propext Int.ofNat_inj
theorem nT0 (n : Nat) : (nI n).toInt < 0 ∨ 0 ≤ (nI n).toInt := by omega
theorem z0 : (0 : Int32).toInt = 0 := by decide
theorem glt {x : Int32} {b : Nat} (h : x < 0) (hb : b < 2147483648) : (x < nI b) = True := by
  rw [q_lti, nT hb]
  rw [q_lti, z0] at h
  exact eq_true (by omega)
theorem gle {x : Int32} {b : Nat} (h : x < 0) (hb : b < 2147483648) : (x ≤ nI b) = True := by
  rw [q_lei, nT hb]
  rw [q_lti, z0] at h
  exact eq_true (by omega)
theorem lgt {x : Int32} {b : Nat} (h : x < 0) (hb : b < 2147483648) : (nI b < x) = False := by
  rw [q_lti, nT hb]
  rw [q_lti, z0] at h
  exact eq_false (by omega)
theorem lge {x : Int32} {b : Nat} (h : x < 0) (hb : b < 2147483648) : (nI b ≤ x) = False := by
  rw [q_lei, nT hb]
  rw [q_lti, z0] at h
  exact eq_false (by omega)
theorem geq {x : Int32} {b : Nat} (h : x < 0) (hb : b < 2147483648) : (x = nI b) = False := by
  rw [q_eqi, nT hb]
  rw [q_lti, z0] at h
  exact eq_false (by omega)
theorem egq {x : Int32} {b : Nat} (h : x < 0) (hb : b < 2147483648) : (nI b = x) = False := by
  rw [q_eqi, nT hb]
  rw [q_lti, z0] at h
  exact eq_false (by omega)
theorem m1n : (-1 : Int32) < 0 := by decide
theorem bq_t {c A B : Prop} (h : c) : ((c → A) ∧ (¬ c → B)) = A := propext ⟨fun x => x.1 h, fun x => ⟨fun _ => x, fun y => absurd h y⟩⟩
theorem bq_f {c A B : Prop} (h : ¬ c) : ((c → A) ∧ (¬ c → B)) = B := propext ⟨fun x => x.2 h, fun x => ⟨fun y => absurd y h, fun _ => x⟩⟩
theorem bq_t' {c A B : Prop} (h : c) : ((¬ c → A) ∧ (c → B)) = B := propext ⟨fun x => x.2 h, fun x => ⟨fun y => absurd h y, fun _ => x⟩⟩
theorem bq_f' {c A B : Prop} (h : ¬ c) : ((¬ c → A) ∧ (c → B)) = A := propext ⟨fun x => x.1 h, fun x => ⟨fun _ => x, fun y => absurd y h⟩⟩
theorem qs_eq (a : qa) (c i k : Nat) (x : Int32) : qs a c i k x c i k = x := by simp [qs]
theorem qs_nc {a : qa} {c i k d j n : Nat} {x : Int32} (h : d ≠ c) : qs a c i k x d j n = a d j n := by simp [qs, h]
theorem qs_ni {a : qa} {c i k d j n : Nat} {x : Int32} (h : j ≠ i) : qs a c i k x d j n = a d j n := by simp [qs, h]
theorem qs_nk {a : qa} {c i k d j n : Nat} {x : Int32} (h : n ≠ k) : qs a c i k x d j n = a d j n := by simp [qs, h]
theorem vnI {n N : Nat} (h : n < N) (hN : N < 2147483648) : vp_in (nI n) N = True := eq_true (vp_in_nI h hN)
theorem nC {n : Nat} (h : n < 2147483648) : (nI n).toNatClampNeg = n := nI_clamp h
theorem nI_sub {a b : Nat} (h : b ≤ a) : nI a - nI b = nI (a - b) := by
  have e : nI a = nI (a - b) + nI b := by rw [nI_add, Nat.sub_add_cancel h]
  rw [e]
  exact Int32.add_sub_cancel _ _
theorem nI_sb {a b : Nat} (h : b ≤ a) : nI a - nI b = nI (a - b) := nI_sub h
theorem nI_mul (a b : Nat) : nI a * nI b = nI (a * b) := (Int32.ofNat_mul a b).symm
theorem nI_div {a b : Nat} (ha : a < 2147483648) (hb : b < 2147483648) : nI a / nI b = nI (a / b) := by
  have hq : a / b ≤ a := Nat.div_le_self a b
  rw [q_eqi, Int32.toInt_div, nT ha, nT hb, nT (by omega)]
  rw [Int.tdiv_eq_ediv_of_nonneg (by omega), ← Int.natCast_ediv]
  generalize a / b = q at hq
  exact Int.bmod_eq_of_le (by simp <;> omega) (by simp <;> omega)
theorem a1m (x : Int32) : x + nI 1 - nI 1 = x := Int32.add_sub_cancel _ _
theorem l0 : (0 : Int32) = nI 0 := rfl
theorem l1 : (1 : Int32) = nI 1 := rfl
theorem l2 : (2 : Int32) = nI 2 := rfl
theorem l3 : (3 : Int32) = nI 3 := rfl
theorem l4 : (4 : Int32) = nI 4 := rfl
theorem l5 : (5 : Int32) = nI 5 := rfl
theorem l6 : (6 : Int32) = nI 6 := rfl
theorem l7 : (7 : Int32) = nI 7 := rfl
theorem l8 : (8 : Int32) = nI 8 := rfl
theorem l9 : (9 : Int32) = nI 9 := rfl
theorem l10 : (10 : Int32) = nI 10 := rfl
theorem l20 : (20 : Int32) = nI 20 := rfl
theorem l60 : (60 : Int32) = nI 60 := rfl
theorem l100 : (100 : Int32) = nI 100 := rfl
theorem l120 : (120 : Int32) = nI 120 := rfl
theorem l511 : (511 : Int32) = nI 511 := rfl
theorem l512 : (512 : Int32) = nI 512 := rfl
theorem l400 : (400 : Int32) = nI 400 := rfl
theorem l401 : (401 : Int32) = nI 401 := rfl
theorem l700 : (700 : Int32) = nI 700 := rfl
theorem l9999 : (9999 : Int32) = nI 9999 := rfl
def mI : Int32 := -1
theorem nm1 : -nI 1 = mI := rfl
theorem lm1 : (-1 : Int32) = mI := rfl
theorem mI_n : mI < 0 := by decide
theorem mI_l {b : Nat} (hb : b < 2147483648) : (mI < nI b) = True := glt mI_n hb
theorem mI_e {b : Nat} (hb : b < 2147483648) : (mI = nI b) = False := geq mI_n hb
theorem e_mI {b : Nat} (hb : b < 2147483648) : (nI b = mI) = False := egq mI_n hb
theorem l_mI {b : Nat} (hb : b < 2147483648) : (nI b < mI) = False := lgt mI_n hb
theorem le_mI {b : Nat} (hb : b < 2147483648) : (nI b ≤ mI) = False := lge mI_n hb
theorem mI_le {b : Nat} (hb : b < 2147483648) : (mI ≤ nI b) = True := gle mI_n hb
def bI (b : Prop) [Decidable b] : Int32 := if b then nI 1 else nI 0
theorem bI_t {b : Prop} [Decidable b] (h : b) : bI b = nI 1 := if_pos h
theorem bI_f {b : Prop} [Decidable b] (h : ¬ b) : bI b = nI 0 := if_neg h
theorem bI_z {b : Prop} [Decidable b] : (bI b = nI 0) = (¬ b) := by
  by_cases h : b
  · rw [bI_t h]
    exact propext ⟨fun q => absurd q (by decide), fun q => absurd h q⟩
  · rw [bI_f h]
    exact propext ⟨fun _ => h, fun _ => rfl⟩
theorem bx_t {A : Prop} : ((True → A)) = A := propext ⟨fun x => x trivial, fun x _ => x⟩
theorem bx_f {A : Prop} : ((False → A)) = True := propext ⟨fun _ => trivial, fun _ x => x.elim⟩
theorem bq_l {A B : Prop} : ((True → A) ∧ (¬ True → B)) = A := bq_t trivial
theorem bq_r {A B : Prop} : ((False → A) ∧ (¬ False → B)) = B := bq_f id
theorem bq_l' {A B : Prop} : ((¬ True → A) ∧ (True → B)) = B := bq_t' trivial
theorem bq_r' {A B : Prop} : ((¬ False → A) ∧ (False → B)) = A := bq_f' id
theorem bq_n {c A B : Prop} (h : c) : ((¬ c → A) ∧ (¬ ¬ c → B)) = B := propext ⟨fun x => x.2 (fun q => q h), fun x => ⟨fun y => absurd h y, fun _ => x⟩⟩
theorem bq_m {c A B : Prop} (h : ¬ c) : ((¬ c → A) ∧ (¬ ¬ c → B)) = A := propext ⟨fun x => x.1 h, fun x => ⟨fun _ => x, fun y => absurd h y⟩⟩
theorem iT {c A : Prop} (h : ¬ c) : (c → A) = True := propext ⟨fun _ => trivial, fun _ q => absurd q h⟩
theorem iS {c A : Prop} (h : c) : (c → A) = A := propext ⟨fun x => x h, fun x _ => x⟩
theorem nne {a b : Nat} (h : ¬ a = b) (ha : a < 2147483648) (hb : b < 2147483648) : ¬ nI a = nI b := by
  rw [neq ha hb]
  exact h
theorem az (x : Int32) : x + 0 = x := Int32.add_zero x
def lstV (f : Nat → Bool) (v : Nat → Int32) : Nat → Int32
  | 0 => mI
  | n + 1 => if f n then v n else lstV f v n
theorem iN {c A : Prop} (h : c) : (¬ c → A) = True := propext ⟨fun _ => trivial, fun _ q => absurd h q⟩
theorem l61 : (61 : Int32) = nI 61 := rfl
theorem l62 : (62 : Int32) = nI 62 := rfl
def bb (b : Bool) : Int32 := if b then nI 1 else nI 0
theorem bb_t : bb true = nI 1 := rfl
theorem bb_f : bb false = nI 0 := rfl
theorem i_alc (x y z : Int32) : x + (y + z) = y + (x + z) := by rw [← Int32.add_assoc, Int32.add_comm x y, Int32.add_assoc]
theorem anz (x : Int32) : x + nI 0 = x := Int32.add_zero x
