theorem ar_p {args : Array Value} {s : State} {ty : FieldType} (h : (Cond.arrayClass ty).before args s = true) : ∃ cA, s.vm.findClass ("[" ++ ty.toString) = some cA ∧ ArrOfT s cA ty := by
  obtain ⟨c, k, comp, h1, h2, h3⟩ := Cond.arrayClass_spec h
  exact ⟨c, h1, fun n z => ⟨fun q hq => (by cases hq), k, h2, comp, h3⟩⟩
theorem ar_o {args : Array Value} {s : State} {C : String} (h : (Cond.arrayOver (.object C)).before args s = true) : ∃ cA, s.vm.findClass ("[" ++ (FieldType.object C).toString) = some cA ∧ ArrOfT s cA (.object C) ∧ va_RA s cA (.object C) := by
  obtain ⟨comp, c, k, h1, h2, h3, h4, h5⟩ := Cond.arrayOver_spec h
  exact ⟨c, h5, fun n z => ⟨fun q hq => (by cases hq), k, h3, comp, h4⟩, k, comp, h3, h4, h1, h5⟩
def ar (s : State) (ty : FieldType) : ClassId := (s.vm.findClass ("[" ++ ty.toString)).getD 0
theorem q_pk_t : ∀ c x, q_pk c = some x → x.1 = .int ∨ x.1 = .boolean ∨ x.1 = .byte ∨ x.1 = .long ∨ x.1 = .object "MuleRoad$Mule" ∨ x.1 = .object "MuleRoad$Train" ∨ x.1 = .object "MuleRoad$Pack" ∨ x.1 = .object "MuleRoad$Bargain" := by
  intro c x
  unfold q_pk
  split <;> intro h <;> cases h <;> simp
theorem sw_o1 : Cond.arrayOver (.object "MuleRoad$Mule") ∈ lw_tbl := by decide +kernel
theorem sw_o2 : Cond.arrayOver (.object "MuleRoad$Train") ∈ lw_tbl := by decide +kernel
theorem sw_o3 : Cond.arrayOver (.object "MuleRoad$Pack") ∈ lw_tbl := by decide +kernel
theorem sw_o4 : Cond.arrayOver (.object "MuleRoad$Bargain") ∈ lw_tbl := by decide +kernel
theorem ar_all {args : Array Value} {s : State} (hts : ∀ w ∈ lw_tbl, w.before args s = true) : ∀ c x, q_pk c = some x → ArrOfT s (ar s x.1) x.1 ∧ va_RA s (ar s x.1) x.1 := by
  have hp : ∀ ty : FieldType, Cond.arrayClass ty ∈ q_gw → (∀ cA, s.vm.findClass ("[" ++ ty.toString) = some cA → va_RA s cA ty) → ArrOfT s (ar s ty) ty ∧ va_RA s (ar s ty) ty := by
    intro ty hw hr
    obtain ⟨cA, h1, h2⟩ := ar_p (hts _ (List.mem_filter.mp hw).1)
    have e : ar s ty = cA := by unfold ar; rw [h1]; rfl
    rw [e]
    exact ⟨h2, hr cA h1⟩
  have ho : ∀ C : String, Cond.arrayOver (.object C) ∈ lw_tbl → ArrOfT s (ar s (.object C)) (.object C) ∧ va_RA s (ar s (.object C)) (.object C) := by
    intro C hw
    obtain ⟨cA, h1, h2, h3⟩ := ar_o (hts _ hw)
    have e : ar s (.object C) = cA := by unfold ar; rw [h1]; rfl
    rw [e]
    exact ⟨h2, h3⟩
  intro c x hx
  rcases q_pk_t c x hx with e | e | e | e | e | e | e | e <;> rw [e]
  · exact hp _ q_ac_int (fun _ h => h)
  · exact hp _ q_ac_boolean (fun _ h => h)
  · exact hp _ q_ac_byte (fun _ h => h)
  · exact hp _ q_ac_long (fun _ h => h)
  · exact ho _ sw_o1
  · exact ho _ sw_o2
  · exact ho _ sw_o3
  · exact ho _ sw_o4
def qv_fl : List Cond := flatC (Jvm.Cond.and given_1 narrow_1)
def qv_ts (k : Nat) : Term := .string (q_tw k).1 (q_tw k).2.1
set_option maxRecDepth 100000 in
theorem fl_1 : ∀ k, k < 16 → Cond.exactly (qv_ts k) "java/lang/String" ∈ qv_fl := by decide +kernel
set_option maxRecDepth 100000 in
theorem fl_2 : ∀ k, k < 16 → Cond.eq (.field (qv_ts k) "java/lang/String" "coder" "B") (.int 0) ∈ qv_fl := by decide +kernel
set_option maxRecDepth 100000 in
theorem fl_3 : ∀ k, k < 16 → Cond.arrayOf (.field (qv_ts k) "java/lang/String" "value" "[B") .byte ∈ qv_fl := by decide +kernel
set_option maxRecDepth 100000 in
theorem fl_4 : ∀ k, k < 16 → Cond.eq (.length (.field (qv_ts k) "java/lang/String" "value" "[B")) (.int (Int32.ofNat (q_tx k).length)) ∈ qv_fl := by decide +kernel
set_option maxRecDepth 100000 in
theorem fl_5 : ∀ k, k < 16 → ∀ j, j < (q_tx k).length → Cond.eq (.elem (.field (qv_ts k) "java/lang/String" "value" "[B") (.int (Int32.ofNat j))) (.int ((q_tx k).getD j 0)) ∈ qv_fl := by decide +kernel
set_option maxRecDepth 100000 in
theorem fl_6 : ∀ k, k < 16 → Cond.stringRef (q_tw k).1 (q_tw k).2.1 (q_tw k).2.2 ∈ lw_tbl := by decide +kernel
theorem st_str {args : Array Value} {s : State} (hts : ∀ w ∈ lw_tbl, w.before args s = true) (hs : ∀ w ∈ qv_fl, w.before args s = true) (k : Nat) (hk : k < 16) : ∃ q v, q_sF (fun q => s.heap.size ≤ q) k q v s := by
  have hl := tx_l k
  have z : ∀ i : Nat, i < 1 → i = 0 := fun i hi => by omega
  obtain ⟨adK, adV, h1, h2⟩ := vk_Sof (args := args) (s := s) (N := 1) (tm := fun _ => qv_ts k) (len := [(q_tx k).length]) (byt := [q_tx k]) (A := fun q => s.heap.size ≤ q) (fun i hi => by rw [z i hi]; show (q_tx k).length < 2 ^ 31; omega) (fun i hi => hs _ (fl_1 k hk)) (fun i hi => hs _ (fl_2 k hk)) (fun i hi => hs _ (fl_3 k hk)) (fun i hi => by rw [z i hi]; exact hs _ (fl_4 k hk)) (fun i hi j hj => by rw [z i hi] at hj ⊢; exact hs _ (fl_5 k hk j hj)) (fun i j hi hj hij => by omega) (fun a h => Nat.not_le.mpr h)
  obtain ⟨a1, a2, a3, a4⟩ := h1.1 0 (by decide)
  exact ⟨adK 0, adV 0, a1, a2, a3, a4, vk_R.of (hts _ (fl_6 k hk)) (h2 0 (by decide))⟩
theorem fl_7 : Cond.exactly (.string RX10 267) "java/lang/String" ∈ qv_fl := by decide +kernel
theorem fl_8 : Cond.stringRef RX10 267 "no such pack was delivered" ∈ lw_tbl := by decide +kernel
theorem st_msg {args : Array Value} {s : State} (hts : ∀ w ∈ lw_tbl, w.before args s = true) (hs : ∀ w ∈ qv_fl, w.before args s = true) : ∃ q, vk_R RX10 267 "no such pack was delivered" q s := by
  obtain ⟨a, c, cell, k, h1, _⟩ := Cond.exactly_spec (args := args) (first := s) (o := none) (s := s) (idx := []) (hs _ fl_7)
  exact ⟨a, vk_R.of (hts _ fl_8) h1⟩
theorem fl_z1 : Cond.laysStatic "java/lang/String" "COMPACT_STRINGS" "Z" ∈ lw_tbl ∧ Cond.initialized "java/lang/String" ∈ lw_tbl ∧ Cond.eq (.static "java/lang/String" "COMPACT_STRINGS" "Z") (.int 1) ∈ qv_fl := by decide +kernel
theorem fl_z2 : Cond.laysStatic "jdk/internal/util/Preconditions" "SIOOBE_FORMATTER" "Ljava/util/function/BiFunction;" ∈ lw_tbl ∧ Cond.initialized "jdk/internal/util/Preconditions" ∈ lw_tbl ∧ Cond.isRef (.static "jdk/internal/util/Preconditions" "SIOOBE_FORMATTER" "Ljava/util/function/BiFunction;") ∈ qv_fl := by decide +kernel
theorem fl_z3 : Cond.laysStatic Bundle.tN "UNASSIGNED_STACK" Bundle.steD ∈ lw_tbl ∧ Cond.initialized Bundle.tN ∈ lw_tbl ∧ Cond.isRef (.static Bundle.tN "UNASSIGNED_STACK" Bundle.steD) ∈ qv_fl := by decide +kernel
theorem fl_z4 : Cond.laysStatic Bundle.tN "SUPPRESSED_SENTINEL" Bundle.listD ∈ lw_tbl ∧ Cond.isRef (.static Bundle.tN "SUPPRESSED_SENTINEL" Bundle.listD) ∈ qv_fl := by decide +kernel
theorem fl_nw : ∀ w ∈ (qx_aw RX10 269).filter (fun w => !goodWord w), w ∈ lw_tbl := by decide +kernel
/-- what holds of the start, and rides through the whole run -/
def q_Xp (D : Nat → Nat → Nat) (b sb L : Nat) (xs : Nat → Int32) : State → Prop := fun U => q_XS D b U ∧ q_XT D b U ∧ va_X sb L xs U U.heap ∧ sb < b ∧ sb < U.heap.size
theorem q_Xp_ok (D : Nat → Nat → Nat) (b sb L : Nat) (xs : Nat → Int32) : (∀ s U : State, q_Xp D b sb L xs s → s.WarmedH U.vm → s.heap.size ≤ U.heap.size → (∀ q : Nat, q < s.heap.size → q < b → U.heap[q]? = s.heap[q]?) → q_Xp D b sb L xs U) ∧ ∀ (U : State) (f : JFrame) (mk : MethodId) (a : Array Value), q_Xp D b sb L xs U → q_Xp D b sb L xs (U.calling f mk a) := by
  refine ⟨fun s U h hW hz hq => ?_, fun U f mk a h => ?_⟩
  · obtain ⟨h1, h2, h3, h4, h5⟩ := h
    exact ⟨(q_XS_ok D b).1 s U h1 hW hz hq, (q_XT_ok D b).1 s U h2 hW hz hq, (va_X.moved hW.alike h3).kept (hq sb h5 h4), h4, Nat.lt_of_lt_of_le h5 hz⟩
  · obtain ⟨h1, h2, h3, h4, h5⟩ := h
    exact ⟨(q_XS_ok D b).2 U f mk a h1, (q_XT_ok D b).2 U f mk a h2, va_X.moved (U := U.calling f mk a) (Vm.Alike.refl U.vm) h3, h4, h5⟩
set_option maxHeartbeats 4000000 in
theorem st_world {args : Array Value} {s : State} (l : Launch) {b L : Nat} {xs : Nat → Int32} (hts : ∀ w ∈ lw_tbl, w.before args s = true) (hgv : (Jvm.Cond.and given_1 narrow_1).before args s = true) (hX : va_X b L xs s s.heap) (hbl : b < s.heap.size) (hl : l.stackTraces = false) : ∃ g : q_G, g.1 = l ∧ q_K g s ∧ q_gX g ∧ q_gT g ∧ q_gL g b L xs ∧ g.2.2.2.1 = s.heap.size := by
  have hs : ∀ w ∈ qv_fl, w.before args s = true := flat_of_before _ hgv
  have hgw : ∀ w ∈ q_gw, w.before args s = true := fun w hw => hts w (List.mem_filter.mp hw).1
  obtain ⟨c0, i0, k0⟩ := u_known (C := RX0) (T := TX0) (N := 8) (n := 8) hgw q_lay0 (hgw _ q_ins0.1)
  obtain ⟨c1, i1, k1⟩ := u_known (C := RX1) (T := TX1) (N := 9) (n := 9) hgw q_lay1 (hgw _ q_ins1.1)
  obtain ⟨c2, i2, k2⟩ := u_known (C := RX2) (T := TX2) (N := 4) (n := 4) hgw q_lay2 (hgw _ q_ins2.1)
  obtain ⟨c3, i3, k3⟩ := u_known (C := RX3) (T := TX3) (N := 8) (n := 8) hgw q_lay3 (hgw _ q_ins3.1)
  obtain ⟨c4, i4, k4⟩ := u_known (C := RX4) (T := TX4) (N := 10) (n := 10) hgw q_lay4 (hgw _ q_ins4.1)
  obtain ⟨c5, i5, k5⟩ := u_known (C := RX5) (T := TX5) (N := 6) (n := 6) hgw q_lay5 (hgw _ q_ins5.1)
  obtain ⟨c6, i6, k6⟩ := u_known (C := RX6) (T := TX6) (N := 9) (n := 9) hgw q_lay6 (hgw _ q_ins6.1)
  obtain ⟨c7, i7, k7⟩ := u_known (C := RX7) (T := TX7) (N := 2) (n := 2) hgw q_lay7 (hgw _ q_ins7.1)
  obtain ⟨c8, i8, k8⟩ := u_known (C := RX8) (T := TX8) (N := 7) (n := 7) hgw q_lay8 (hgw _ q_ins8.1)
  obtain ⟨c9, i9, k9⟩ := u_known (C := RX9) (T := TX9) (N := 6) (n := 6) hgw q_lay9 (hgw _ q_ins9.1)
  obtain ⟨c10, i10, k10⟩ := u_known (C := RX10) (T := TX10) (N := 13) (n := 13) hgw q_lay10 (hgw _ q_ins10.1)
  obtain ⟨c11, i11, k11⟩ := u_known (C := RX11) (T := TX11) (N := 58) (n := 58) hgw q_lay11 (hgw _ q_ins11.1)
  have hstr : ∃ aK aV : Nat → Nat, ∀ k, k < 16 → q_sF (fun q => s.heap.size ≤ q) k (aK k) (aV k) s := by
    have h0 : ∀ k : Nat, ∃ q : Nat × Nat, k < 16 → q_sF (fun q => s.heap.size ≤ q) k q.1 q.2 s := by
      intro k
      by_cases hk : k < 16
      · obtain ⟨q, v, h⟩ := st_str hts hs k hk
        exact ⟨(q, v), fun _ => h⟩
      · exact ⟨(0, 0), fun h => absurd h hk⟩
    obtain ⟨ad, had⟩ := Classical.axiomOfChoice h0
    exact ⟨fun k => (ad k).1, fun k => (ad k).2, had⟩
  obtain ⟨aK, aV, hS⟩ := hstr
  obtain ⟨qm, hm⟩ := st_msg hts hs
  obtain ⟨D, eD⟩ : ∃ D : Nat → Nat → Nat, D = fun c k => if c = 100 then (if k = 16 then qm else aK k) else if c = 101 then aV k else ([i0, i1, i2, i3, i4, i5, i6, i7, i8, i9, i10, i11].getD c (fun _ => 0)) k := ⟨_, rfl⟩
  obtain ⟨dC, eC⟩ : ∃ dC : Nat → ClassId, dC = fun c => [c0, c1, c2, c3, c4, c5, c6, c7, c8, c9, c10, c11].getD c 0 := ⟨_, rfl⟩
  have hXS : q_XS D s.heap.size s := by
    refine ⟨fun k hk => ?_, va_Zof (hts _ fl_z1.1) (hts _ fl_z1.2.1) (va_eqt (hs _ fl_z1.2.2)) (fun a h => Nat.not_le.mpr h), va_Zqof (hts _ fl_z2.1) (hts _ fl_z2.2.1) (hs _ fl_z2.2.2) (fun a h => Nat.not_le.mpr h)⟩
    have e1 : D 100 k = aK k := by
      rw [eD]
      show (if (100 : Nat) = 100 then _ else _) = _
      rw [if_pos rfl, if_neg (by omega)]
    have e2 : D 101 k = aV k := by
      rw [eD]
      show (if (101 : Nat) = 100 then _ else _) = _
      rw [if_neg (by decide), if_pos rfl]
    rw [e1, e2]
    exact hS k hk
  have hXT : q_XT D s.heap.size s := by
    have e1 : D 100 16 = qm := by
      rw [eD]
      show (if (100 : Nat) = 100 then _ else _) = _
      rw [if_pos rfl, if_pos rfl]
    refine ⟨by rw [e1]; exact hm, vx_Zqof (hts _ fl_z3.1) (hts _ fl_z3.2.1) (hs _ fl_z3.2.2) (fun a h => Nat.not_le.mpr h), vx_Zqof (hts _ fl_z4.1) (hts _ fl_z3.2.1) (hs _ fl_z4.2) (fun a h => Nat.not_le.mpr h), fun w hw => va_Nw.of (q_XT_w hw).2 (hts _ (fl_nw w hw))⟩
  have hXp : q_Xp D s.heap.size b L xs s := ⟨hXS, hXT, hX, hbl, hbl⟩
  refine ⟨(l, (dC, D), ar s, s.heap.size, q_Xp D s.heap.size b L xs), rfl, ⟨fun c q hq => ?_, ar_all hts, fun w hw => va_Nw.of (q_nw_tab hw) (hts _ (List.mem_filter.mp hw).1), fun C hC => ?_, hXp, q_Xp_ok D s.heap.size b L xs⟩, fun U h => h.1, ⟨fun U h => h.2.1, hl⟩, fun U h => h.2.2, rfl⟩
  · show u_Kn s q.1 q.2.1 q.2.2 (dC c) (D c)
    match c, hq with
    | 0, hq => cases hq; rw [eC, eD]; exact k0
    | 1, hq => cases hq; rw [eC, eD]; exact k1
    | 2, hq => cases hq; rw [eC, eD]; exact k2
    | 3, hq => cases hq; rw [eC, eD]; exact k3
    | 4, hq => cases hq; rw [eC, eD]; exact k4
    | 5, hq => cases hq; rw [eC, eD]; exact k5
    | 6, hq => cases hq; rw [eC, eD]; exact k6
    | 7, hq => cases hq; rw [eC, eD]; exact k7
    | 8, hq => cases hq; rw [eC, eD]; exact k8
    | 9, hq => cases hq; rw [eC, eD]; exact k9
    | 10, hq => cases hq; rw [eC, eD]; exact k10
    | 11, hq => cases hq; rw [eC, eD]; exact k11
    | k + 12, hq => simp [q_cl] at hq
  · have hm : C = "MuleRoad$Mule" ∨ C = "MuleRoad$Train" ∨ C = "MuleRoad$Pack" ∨ C = "MuleRoad$Bargain" := by simpa [q_ov] using hC
    rcases hm with rfl | rfl | rfl | rfl
    · exact va_AO.of (hts _ sw_o1)
    · exact va_AO.of (hts _ sw_o2)
    · exact va_AO.of (hts _ sw_o3)
    · exact va_AO.of (hts _ sw_o4)
