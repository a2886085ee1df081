abbrev qa : Type := Nat → Nat → Nat → Int32
abbrev q_S : Type := (Nat → Nat → Nat → Option (Nat × Nat)) × (Nat → Nat)
def qs (a : qa) (c i k : Nat) (x : Int32) : qa := fun d j n => if d = c ∧ j = i ∧ n = k then x else a d j n
def q_Rm (d mc ms : Nat) : Room := { frames := d, cells := mc, slots := ms, locals := 60 * d }
def q_om (c : Nat) (r : Option Nat) : Option (Nat × Nat) := match r with
  | none => none
  | some i => some (c, i)
def q_kI (s : q_S) (post : Int32 → qa → Prop) : List q_V → q_H → Prop := fun v h => ∃ x a, v = [q_I x] ∧ h = (a, s) ∧ post x a
def q_kV (s : q_S) (post : qa → Prop) : List q_V → q_H → Prop := fun v h => ∃ a, v = [] ∧ h = (a, s) ∧ post a
def q_kR (c : Nat) (s : q_S) (post : Option Nat → qa → Prop) : List q_V → q_H → Prop := fun v h => ∃ r a, v = [q_rr (q_om c r)] ∧ h = (a, s) ∧ post r a
theorem q_nil {P : q_V → Prop} : ∀ v ∈ ([] : List q_V), P v := fun v hv => by cases hv
theorem q_rvR {r : Option (Nat × Nat)} : q_rv (q_rr r) := by
  cases r with
  | none => exact q_rvN
  | some q => exact q_rvO
def q_isb (x : Int32) : Prop := x = 0 ∨ x = 1
theorem q_bn2 {x : Int32} (h : q_isb x) : narrow .boolean (.int x) = .int x ∧ fits .boolean (.int x) = true := by
  rcases h with rfl | rfl <;> exact ⟨rfl, rfl⟩
theorem q_ltI {j : Int32} {n : Nat} (h : vp_in j n) : j.toNatClampNeg < n := Nat.not_le.mp fun q => h (Or.inr q)
theorem q_toI {x k : Int32} {a : Int} (h : x = k) (hk : k.toInt = a) : x.toInt = a := by rw [h, hk]
def q_lsub : List (Option q_V) → List (Option q_V) → Prop
  | [], [] => True
  | none :: l', _ :: l => q_lsub l' l
  | some v :: l', o :: l => o = some v ∧ q_lsub l' l
  | _, _ => False
theorem q_lsub_at : ∀ (l' l : List (Option q_V)), q_lsub l' l → l'.length = l.length ∧ ∀ (i : Nat) (v : q_V), l'[i]? = some (some v) → l[i]? = some (some v) := by
  intro l'
  induction l' with
  | nil =>
    intro l h
    cases l with
    | nil => exact ⟨rfl, fun i v hi => hi⟩
    | cons o l => exact absurd h id
  | cons o' l' ih =>
    intro l h
    cases l with
    | nil => cases o' <;> exact absurd h id
    | cons o l =>
      cases o' with
      | none =>
        obtain ⟨h1, h2⟩ := ih l h
        refine ⟨by simp [h1], fun i v hi => ?_⟩
        cases i with
        | zero => simp at hi
        | succ i => simpa using h2 i v (by simpa using hi)
      | some w =>
        obtain ⟨h1, h2⟩ := ih l h.2
        refine ⟨by simp [h1], fun i v hi => ?_⟩
        cases i with
        | zero =>
          simp at hi
          subst hi
          simpa using h.1
        | succ i => simpa using h2 i v (by simpa using hi)
def q_st (c k : Nat) : Option (Nat × Nat) := match c, k with
  | 1, 0 => some (17, 0)
  | 1, 1 => some (18, 0)
  | 1, 2 => some (19, 0)
  | 1, 3 => some (20, 0)
  | 1, 4 => some (21, 0)
  | 2, 0 => some (22, 0)
  | 2, 1 => some (23, 0)
  | 2, 2 => some (24, 0)
  | 5, 0 => some (8, 0)
  | 6, 0 => some (25, 0)
  | 6, 1 => some (26, 0)
  | 6, 2 => some (27, 0)
  | 6, 3 => some (28, 0)
  | 6, 4 => some (29, 0)
  | 6, 5 => some (30, 0)
  | 6, 6 => some (31, 0)
  | 7, 0 => some (32, 0)
  | 8, 0 => some (7, 0)
  | 8, 1 => some (33, 0)
  | 8, 2 => some (34, 0)
  | 8, 3 => some (35, 0)
  | 10, 0 => some (6, 0)
  | 10, 1 => some (37, 0)
  | 10, 2 => some (38, 0)
  | 10, 3 => some (39, 0)
  | 10, 4 => some (2, 0)
  | 10, 5 => some (7, 0)
  | 10, 6 => some (5, 0)
  | 10, 7 => some (1, 0)
  | 11, 3 => some (40, 0)
  | 11, 4 => some (41, 0)
  | 11, 5 => some (42, 0)
  | 11, 7 => some (43, 0)
  | 11, 8 => some (44, 0)
  | 11, 9 => some (45, 0)
  | 11, 10 => some (46, 0)
  | 11, 12 => some (47, 0)
  | 11, 13 => some (48, 0)
  | 11, 14 => some (49, 0)
  | 11, 15 => some (50, 0)
  | 11, 16 => some (51, 0)
  | 11, 17 => some (52, 0)
  | 11, 18 => some (53, 0)
  | 11, 19 => some (54, 0)
  | 11, 21 => some (55, 0)
  | 11, 22 => some (56, 0)
  | 11, 23 => some (57, 0)
  | 11, 24 => some (58, 0)
  | 11, 25 => some (59, 0)
  | 11, 26 => some (60, 0)
  | 11, 27 => some (61, 0)
  | 11, 28 => some (62, 0)
  | 11, 29 => some (63, 0)
  | 11, 30 => some (64, 0)
  | 11, 32 => some (65, 0)
  | 11, 33 => some (66, 0)
  | 11, 34 => some (67, 0)
  | 11, 35 => some (68, 0)
  | 11, 37 => some (69, 0)
  | 11, 38 => some (70, 0)
  | 11, 41 => some (71, 0)
  | 11, 51 => some (72, 0)
  | 11, 52 => some (73, 0)
  | 11, 53 => some (74, 0)
  | 11, 54 => some (75, 0)
  | 11, 55 => some (76, 0)
  | 11, 56 => some (77, 0)
  | 11, 57 => some (78, 0)
  | _, _ => none
def q_Sh (t p : Nat) (s : q_S) : Prop :=
  (∀ c k x, q_st c k = some x → s.1 c 0 k = some x) ∧ (∀ b k, b < 10 → k < 5 → s.1 0 b k = some (12 + k, b)) ∧ (∀ i, i < t → s.1 9 i 0 = some (36, i)) ∧ (∀ i j, i < t → j < 3 → s.1 36 i j = some (3, 3 * i + j)) ∧ (∀ j, s.1 37 0 j = q_om 9 (if j < t then some j else none)) ∧ (∀ j, s.1 38 0 j = q_om 4 (if j < p then some j else none)) ∧ (∀ j, j < 10 → s.1 39 0 j = some (0, j)) ∧ s.2 0 = 10 ∧ s.2 9 = t ∧ s.2 4 = p ∧ s.2 3 = 3 * t ∧ s.2 36 = t ∧ t ≤ 4 ∧ p ≤ 100
theorem q_sg {t p : Nat} {s : q_S} (hS : q_Sh t p s) {c k : Nat} {x : Nat × Nat} (h : q_st c k = some x) : s.1 c 0 k = some x := hS.1 c k x h
theorem q_sB {t p : Nat} {s : q_S} (hS : q_Sh t p s) {b k : Nat} (hb : b < 10) (hk : k < 5) : s.1 0 b k = some (12 + k, b) := hS.2.1 b k hb hk
theorem q_sT9 {t p : Nat} {s : q_S} (hS : q_Sh t p s) {i : Nat} (hi : i < t) : s.1 9 i 0 = some (36, i) := hS.2.2.1 i hi
theorem q_sM {t p : Nat} {s : q_S} (hS : q_Sh t p s) {i j : Nat} (hi : i < t) (hj : j < 3) : s.1 36 i j = some (3, 3 * i + j) := hS.2.2.2.1 i j hi hj
theorem q_sQ37 {t p : Nat} {s : q_S} (hS : q_Sh t p s) (j : Nat) : s.1 37 0 j = q_om 9 (if j < t then some j else none) := hS.2.2.2.2.1 j
theorem q_sQ38 {t p : Nat} {s : q_S} (hS : q_Sh t p s) (j : Nat) : s.1 38 0 j = q_om 4 (if j < p then some j else none) := hS.2.2.2.2.2.1 j
theorem q_sA {t p : Nat} {s : q_S} (hS : q_Sh t p s) {j : Nat} (hj : j < 10) : s.1 39 0 j = some (0, j) := hS.2.2.2.2.2.2.1 j hj
theorem q_lt0 {t p : Nat} {s : q_S} {a : qa} (hS : q_Sh t p s) {b : Nat} (h : q_vk (a, s) (q_O 0 b)) : b < 10 := by
  have h1 : b < s.2 0 := h
  rwa [hS.2.2.2.2.2.2.2.1] at h1
theorem q_lt9 {t p : Nat} {s : q_S} {a : qa} (hS : q_Sh t p s) {b : Nat} (h : q_vk (a, s) (q_O 9 b)) : b < t := by
  have h1 : b < s.2 9 := h
  rwa [hS.2.2.2.2.2.2.2.2.1] at h1
section QSH
variable {g : q_G} {y : q_M} {R : Room} {K : List q_V → q_H → Prop} {u : Nat × Nat} {pc : Nat} {st : List q_V}
theorem q_wk {ls ls0 : List (Option q_V)} {h : q_H} (hs : q_lsub ls ls0) (kk : q_E g y R K u pc ls st h) : q_E g y R K u pc ls0 st h := by
  intro p e s m args below meth c Q ad0 n0 ad H locs L C F D hL hv h1 h2
  obtain ⟨e1, e2⟩ := q_lsub_at ls ls0 hs
  exact kk p e s m args below meth c Q ad0 n0 ad H locs L C F D ⟨hL.1, hL.2.1, e1.trans hL.2.2.1, fun i v hi => hL.2.2.2 i v (e2 i v hi)⟩ hv h1 h2
variable {ls : List (Option q_V)} {a : qa} {s : q_S}
theorem xf_puti {idx c i k : Nat} {x : Int32} (hd : decode y.2.1 pc = .ok (.putfield idx, 3)) (hf : q_fl y.1.cls idx c k) (hfin : ∀ q, q_cl[c]? = some q → (q.2.1 k).2.2.2 = false ∨ ((q.2.1 k).2.2.2 = true ∧ y.1.name = "<init>" ∧ (q.2.1 k).1 = y.1.cls ∧ Cond.fieldLink y.1.cls idx (q.2.1 k).1 (q.2.1 k).2.1 (q.2.1 k).2.2.1 ∈ q_gw)) (hn : narrow (q_ty c k) (.int x) = .int x ∧ fits (q_ty c k) (.int x) = true) (ht : ∀ x v, q_tv (q_ty c k) x v = .int x) (kk : q_E g y R K u (pc + 3) ls st (qs a c i k x, s)) : q_E g y R K u pc ls (q_I x :: q_O c i :: st) (a, s) := xe_puti hd hf hfin hn ht kk
theorem xf_iast {c i n : Nat} {j x : Int32} (hd : decode y.2.1 pc = .ok (.iastore, 1)) (hp : q_pk c = some (.int, n)) (hj : vp_in j n) (kk : q_E g y R K u (pc + 1) ls st (qs a c i j.toNatClampNeg x, s)) : q_E g y R K u pc ls (q_I x :: q_I j :: q_O c i :: st) (a, s) := xe_iast hd hp hj kk
theorem xf_bast {c i n : Nat} {j x : Int32} (hd : decode y.2.1 pc = .ok (.bastore, 1)) (hp : q_pk c = some (.byte, n)) (hj : vp_in j n) (kk : q_E g y R K u (pc + 1) ls st (qs a c i j.toNatClampNeg (vp_nar .byte x), s)) : q_E g y R K u pc ls (q_I x :: q_I j :: q_O c i :: st) (a, s) := xe_bast hd hp hj kk
theorem xf_zast {c i n : Nat} {j x : Int32} (hd : decode y.2.1 pc = .ok (.bastore, 1)) (hp : q_pk c = some (.boolean, n)) (hj : vp_in j n) (kk : q_E g y R K u (pc + 1) ls st (qs a c i j.toNatClampNeg (vp_nar .boolean x), s)) : q_E g y R K u pc ls (q_I x :: q_I j :: q_O c i :: st) (a, s) := xe_zast hd hp hj kk
theorem xe_aretR {r : Option (Nat × Nat)} {C0 : String} {h : q_H} (hd : decode y.2.1 pc = .ok (.areturn, 1)) (hy : y.2.2.2 = some (.object C0)) (hk : K [q_rr r] h) : q_E g y R K u pc ls [q_rr r] h := by
  cases r with
  | none => exact xe_aretN hd hy hk
  | some q => exact xe_aretO hd hy hk
end QSH
theorem q_rm1 {n d : Nat} (m : Nat) (h : m ≤ 41) : (q_Rm (n + d) 0 0).frames + 1 ≤ (q_Rm (n + 1 + d) 0 0).frames ∧ 8 + (m + 11) + (q_Rm (n + d) 0 0).locals ≤ (q_Rm (n + 1 + d) 0 0).locals := by
  show n + d + 1 ≤ n + 1 + d ∧ 8 + (m + 11) + 60 * (n + d) ≤ 60 * (n + 1 + d)
  omega
theorem q_rm2 {n d D : Nat} (m : Nat) (h : m ≤ 41) (hd : d + 1 ≤ D) : (q_Rm d 0 0).frames + 1 ≤ (q_Rm (n + 1 + D) 0 0).frames ∧ 8 + (m + 11) + (q_Rm d 0 0).locals ≤ (q_Rm (n + 1 + D) 0 0).locals := by
  show d + 1 ≤ n + 1 + D ∧ 8 + (m + 11) + 60 * d ≤ 60 * (n + 1 + D)
  omega
theorem q_rm3 {n d : Nat} (m : Nat) (h : m ≤ 41 ∧ d ≤ 3) (hn : n ≤ 14) : (q_Rm (n + d) 0 0).frames + 1 ≤ (q_Rm 20 0 0).frames ∧ 8 + (m + 11) + (q_Rm (n + d) 0 0).locals ≤ (q_Rm 20 0 0).locals := by
  show n + d + 1 ≤ 20 ∧ 8 + (m + 11) + 60 * (n + d) ≤ 60 * 20
  omega
