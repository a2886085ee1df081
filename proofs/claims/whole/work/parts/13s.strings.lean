def q_tw (k : Nat) : String × Nat × String := match k with
  | 0 => ("MuleRoad$Tokens", 69, "and")
  | 1 => ("MuleRoad$Tokens", 81, "salt")
  | 2 => ("MuleRoad$Tokens", 83, "wire")
  | 3 => ("MuleRoad$Tokens", 85, "mail")
  | 4 => ("MuleRoad$Tokens", 87, "glass")
  | 5 => ("MuleRoad$Tokens", 89, "weight")
  | 6 => ("MuleRoad$Tokens", 91, "hours")
  | 7 => ("MuleRoad$Tokens", 93, "held")
  | 8 => ("MuleRoadModel", 270, "salt")
  | 9 => ("MuleRoadModel", 276, "wire")
  | 10 => ("MuleRoadModel", 278, "mail")
  | 11 => ("MuleRoadModel", 280, "glass")
  | 12 => ("MuleRoadModel", 282, "weight")
  | 13 => ("MuleRoadModel", 283, "hours")
  | 14 => ("MuleRoadModel", 285, "held")
  | _ => ("MuleRoadModel", 308, "and")
def q_tx (k : Nat) : List Int32 := match k with
  | 0 => [97, 110, 100]
  | 1 => [115, 97, 108, 116]
  | 2 => [119, 105, 114, 101]
  | 3 => [109, 97, 105, 108]
  | 4 => [103, 108, 97, 115, 115]
  | 5 => [119, 101, 105, 103, 104, 116]
  | 6 => [104, 111, 117, 114, 115]
  | 7 => [104, 101, 108, 100]
  | 8 => [115, 97, 108, 116]
  | 9 => [119, 105, 114, 101]
  | 10 => [109, 97, 105, 108]
  | 11 => [103, 108, 97, 115, 115]
  | 12 => [119, 101, 105, 103, 104, 116]
  | 13 => [104, 111, 117, 114, 115]
  | 14 => [104, 101, 108, 100]
  | _ => [97, 110, 100]
def q_sF (A : Nat → Prop) (k : Nat) (q v : Nat) (U : State) : Prop := va_O "java/lang/String" q A U U.heap ∧ va_OF "java/lang/String" "coder" "B" (.int 0) q A U U.heap ∧ va_OF "java/lang/String" "value" "[B" (.ref v) q A U U.heap ∧ va_T .byte v (q_tx k).length (fun j => .int ((q_tx k).getD j 0)) A U U.heap ∧ vk_R (q_tw k).1 (q_tw k).2.1 (q_tw k).2.2 q U
def q_XS (D : Nat → Nat → Nat) (b : Nat) : State → Prop := fun U => (∀ k, k < 16 → q_sF (fun q => b ≤ q) k (D 100 k) (D 101 k) U) ∧ va_Z "java/lang/String" "COMPACT_STRINGS" "Z" (.int 1) (fun q => b ≤ q) U U.heap ∧ va_Zq "jdk/internal/util/Preconditions" "SIOOBE_FORMATTER" "Ljava/util/function/BiFunction;" (fun q => b ≤ q) U U.heap
def q_gX (g : q_G) : Prop := ∀ U : State, g.2.2.2.2 U → q_XS g.2.1.2 g.2.2.2.1 U
theorem q_XS_ok (D : Nat → Nat → Nat) (b : Nat) : (∀ s U : State, q_XS D b s → s.WarmedH U.vm → s.heap.size ≤ U.heap.size → (∀ q : Nat, q < s.heap.size → q < b → U.heap[q]? = s.heap[q]?) → q_XS D b U) ∧ ∀ (U : State) (f : JFrame) (mk : MethodId) (a : Array Value), q_XS D b U → q_XS D b (U.calling f mk a) := by
  have two : ∀ s U : State, q_XS D b s → s.vm.Alike U.vm → (∀ k, k < 16 → vk_R (q_tw k).1 (q_tw k).2.1 (q_tw k).2.2 (D 100 k) s → vk_R (q_tw k).1 (q_tw k).2.1 (q_tw k).2.2 (D 100 k) U) → (∀ q : Nat, q < s.heap.size → q < b → U.heap[q]? = s.heap[q]?) → q_XS D b U := by
    intro s U h hA hR hq
    have hq2 : ∀ q : Nat, q < s.heap.size → ¬ b ≤ q → U.heap[q]? = s.heap[q]? := fun q h1 h2 => hq q h1 (Nat.not_le.mp h2)
    obtain ⟨h1, h2, h3⟩ := h
    refine ⟨fun k hk => ?_, (va_Z.moved hA h2).kept hq2, (va_Zq.moved hA h3).kept hq2⟩
    obtain ⟨a1, a2, a3, a4, a5⟩ := h1 k hk
    exact ⟨(va_O.moved hA a1).kept hq2, (va_OF.moved hA a2).kept hq2, (va_OF.moved hA a3).kept hq2, (va_T.moved hA a4).kept hq2, hR k hk a5⟩
  exact ⟨fun s U h hW _ hq => two s U h hW.alike (fun k _ => vk_R.warm hW) hq, fun U f mk a h => two U (U.calling f mk a) h (Vm.Alike.refl U.vm) (fun k _ => vk_R.same (U := U.calling f mk a) rfl) (fun q _ _ => rfl)⟩
abbrev q_Tx (g : q_G) (k : Nat) : q_V := .inl (.ref (g.2.1.2 100 k))
abbrev q_Tv (g : q_G) (k : Nat) : q_V := .inl (.ref (g.2.1.2 101 k))
theorem q_sc_char (x : Int32) : ((x &&& 255).toUInt32 % 65536).toInt32 = x &&& 255 := sc_c2 x
theorem q_tx_ok : ∀ k, k < 16 → ∀ j, j < (q_tx k).length → (q_tx k).getD j 0 &&& 255 = (q_tx k).getD j 0 := by decide +kernel
theorem q_tx_len : ∀ k, k < 16 → (q_tx k).length < 100 := by decide +kernel
section QST
variable {g : q_G} {y : q_M} {R : Room} {K : List q_V → q_H → Prop} {u : Nat × Nat} {pc : Nat} {ls : List (Option q_V)} {st : List q_V} {h : q_H}
theorem q_XC {p : Program} {s : State} {m : MethodId} {args : Array Value} {meth : Method} {c : Code} (hX : q_gX g) (C : q_Cx g y p s m args meth c) : q_XS g.2.1.2 g.2.2.2.1 s := by
  have h1 := C.2.2.2.2.2.2.2.2.1.2.2.2.2.1
  exact hX s h1
theorem xe_ldcS {idx k : Nat} (hX : q_gX g) (hk : k < 16) (hw : (q_tw k).1 = y.1.cls ∧ (q_tw k).2.1 = idx) (hd : decode y.2.1 pc = .ok (.ldc idx, 2)) (kk : q_E g y R K u (pc + 2) ls (q_Tx g k :: st) h) : q_E g y R K u pc ls st h := by
  intro p e s m args below meth c Q ad0 n0 ad H locs L C F D hL hv h1 h2
  have k2 := kk p e s m args below meth c Q ad0 n0 ad H locs L C F D hL (q_cs trivial hv) h1 h2
  have hZ := ((q_XC hX C).1 k hk).2.2.2.2
  rw [hw.1, hw.2] at hZ
  exact va_ldcS C.1 C.2.1 C.2.2.2.1 hZ hd k2
theorem xe_ldcW {idx k : Nat} (hX : q_gX g) (hk : k < 16) (hw : (q_tw k).1 = y.1.cls ∧ (q_tw k).2.1 = idx) (hd : decode y.2.1 pc = .ok (.ldc_w idx, 3)) (kk : q_E g y R K u (pc + 3) ls (q_Tx g k :: st) h) : q_E g y R K u pc ls st h := by
  intro p e s m args below meth c Q ad0 n0 ad H locs L C F D hL hv h1 h2
  have k2 := kk p e s m args below meth c Q ad0 n0 ad H locs L C F D hL (q_cs trivial hv) h1 h2
  have hZ := ((q_XC hX C).1 k hk).2.2.2.2
  rw [hw.1, hw.2] at hZ
  intro T hT X
  obtain ⟨t, a1, b1⟩ := k2 T hT X
  refine ⟨t, X.ldcStringW C.1 C.2.2.2.1 (text := (q_tw k).2.2) (a := g.2.1.2 100 k) ?_ ?_ (g := F0 m pc L (st.map (q_c ad))) rfl (by rw [C.2.1]; exact hd) t a1, b1⟩
  · exact hZ.1
  · exact hZ.2
theorem xe_gsi {idx : Nat} (hX : q_gX g) (hd : decode y.2.1 pc = .ok (.getstatic idx, 3)) (hl : Cond.fieldLink y.1.cls idx "java/lang/String" "COMPACT_STRINGS" "Z" ∈ q_gw) (kk : q_E g y R K u (pc + 3) ls (q_I 1 :: st) h) : q_E g y R K u pc ls st h := by
  intro p e s m args below meth c Q ad0 n0 ad H locs L C F D hL hv h1 h2
  have k2 := kk p e s m args below meth c Q ad0 n0 ad H locs L C F D hL (q_cs trivial hv) h1 h2
  exact va_gets C.1 C.2.1 (q_XC hX C).2.1 D.2.1 C.2.2.2.1 (C.2.2.2.2.1 _ hl) (fun _ z => z) hd k2
theorem xe_gsf {idx : Nat} (hX : q_gX g) (hd : decode y.2.1 pc = .ok (.getstatic idx, 3)) (hl : Cond.fieldLink y.1.cls idx "jdk/internal/util/Preconditions" "SIOOBE_FORMATTER" "Ljava/util/function/BiFunction;" ∈ q_gw) (kk : ∀ v : q_V, q_rv v → q_sc v = 1 → (∀ h', q_vk h' v) → q_E g y R K u (pc + 3) ls (v :: st) h) : q_E g y R K u pc ls st h := by
  intro p e s m args below meth c Q ad0 n0 ad H locs L C F D hL hv h1 h2
  rcases (q_XC hX C).2.2 with z | ⟨t, z⟩
  · exact va_gets C.1 C.2.1 z D.2.1 C.2.2.2.1 (C.2.2.2.2.1 _ hl) (fun _ z => z) hd (kk q_N q_rvN rfl (fun _ => trivial) p e s m args below meth c Q ad0 n0 ad H locs L C F D hL (q_cs trivial hv) h1 h2)
  · exact va_gets C.1 C.2.1 z D.2.1 C.2.2.2.1 (C.2.2.2.2.1 _ hl) (fun _ z => z) hd (kk (.inl (.ref t)) q_rvA rfl (fun _ => trivial) p e s m args below meth c Q ad0 n0 ad H locs L C F D hL (q_cs trivial hv) h1 h2)
theorem xe_gcod {idx k : Nat} (hX : q_gX g) (hk : k < 16) (hd : decode y.2.1 pc = .ok (.getfield idx, 3)) (hl : Cond.fieldLink y.1.cls idx "java/lang/String" "coder" "B" ∈ q_gw) (kk : q_E g y R K u (pc + 3) ls (q_I 0 :: st) h) : q_E g y R K u pc ls (q_Tx g k :: st) h := by
  intro p e s m args below meth c Q ad0 n0 ad H locs L C F D hL hv h1 h2
  have k2 := kk p e s m args below meth c Q ad0 n0 ad H locs L C F D hL (q_cs trivial (q_tl hv)) h1 h2
  exact vk_getf C.1 C.2.1 ((q_XC hX C).1 k hk).2.1 D.2.1 C.2.2.2.1 (C.2.2.2.2.1 _ hl) (fun _ z => z) hd k2
theorem xe_gval {idx k : Nat} (hX : q_gX g) (hk : k < 16) (hd : decode y.2.1 pc = .ok (.getfield idx, 3)) (hl : Cond.fieldLink y.1.cls idx "java/lang/String" "value" "[B" ∈ q_gw) (kk : q_E g y R K u (pc + 3) ls (q_Tv g k :: st) h) : q_E g y R K u pc ls (q_Tx g k :: st) h := by
  intro p e s m args below meth c Q ad0 n0 ad H locs L C F D hL hv h1 h2
  have k2 := kk p e s m args below meth c Q ad0 n0 ad H locs L C F D hL (q_cs trivial (q_tl hv)) h1 h2
  exact vk_getf C.1 C.2.1 ((q_XC hX C).1 k hk).2.2.1 D.2.1 C.2.2.2.1 (C.2.2.2.2.1 _ hl) (fun _ z => z) hd k2
theorem xe_tlen {k : Nat} (hX : q_gX g) (hk : k < 16) (hd : decode y.2.1 pc = .ok (.arraylength, 1)) (kk : q_E g y R K u (pc + 1) ls (q_I (nI (q_tx k).length) :: st) h) : q_E g y R K u pc ls (q_Tv g k :: st) h := by
  intro p e s m args below meth c Q ad0 n0 ad H locs L C F D hL hv h1 h2
  have k2 := kk p e s m args below meth c Q ad0 n0 ad H locs L C F D hL (q_cs trivial (q_tl hv)) h1 h2
  exact va_tlen C.1 C.2.1 ((q_XC hX C).1 k hk).2.2.2.1 D.2.1 rfl hd k2
theorem xe_tb {k : Nat} {j : Int32} (hX : q_gX g) (hk : k < 16) (hj : vp_in j (q_tx k).length) (hd : decode y.2.1 pc = .ok (.baload, 1)) (kk : q_E g y R K u (pc + 1) ls (q_I ((q_tx k).getD j.toNatClampNeg 0) :: st) h) : q_E g y R K u pc ls (q_I j :: q_Tv g k :: st) h := by
  intro p e s m args below meth c Q ad0 n0 ad H locs L C F D hL hv h1 h2
  have k2 := kk p e s m args below meth c Q ad0 n0 ad H locs L C F D hL (q_cs trivial (q_tl (q_tl hv))) h1 h2
  exact va_tb C.1 C.2.1 ((q_XC hX C).1 k hk).2.2.2.1 D.2.1 hj rfl hd k2
theorem xe_i2c {x : Int32} (hd : decode y.2.1 pc = .ok (.i2c, 1)) (kk : q_E g y R K u (pc + 1) ls (q_I ((x.toUInt32 % 65536).toInt32) :: st) h) : q_E g y R K u pc ls (q_I x :: st) h := by
  intro p e s m args below meth c Q ad0 n0 ad H locs L C F D hL hv h1 h2
  exact lv_i2c C.1 C.2.1 hd rfl (kk p e s m args below meth c Q ad0 n0 ad H locs L C F D hL (q_cs trivial (q_tl hv)) h1 h2)
theorem xe_cvS {y' : q_M} {idx n k : Nat} {as rest : List q_V} {R' : Room} {K' : List q_V → q_H → Prop} (hX : q_gX g) (hk : k < 16) (hd : decode y.2.1 pc = .ok (.invokevirtual idx, 3)) (hlk : Cond.methodLink y.1.cls idx y'.1 ∈ q_gw) (hs : q_mV y' n) (hqn : y'.1.cls = "java/lang/String") (hC : q_Ct g y' R' (q_Tx g k :: as) h K') (hst : st = as.reverse ++ q_Tx g k :: rest) (hn : as.length = n) (hw : (rest.map q_sc).sum ≤ 8) (hR : R'.frames + 1 ≤ R.frames ∧ 8 + (y'.2.2.1 + 11) + R'.locals ≤ R.locals) (hm : u.1 + R'.cells ≤ R.cells ∧ u.2 + R'.slots ≤ R.slots) (kk : ∀ v h', v.length ≤ 1 → K' v h' → (∀ c, h.2.2 c ≤ h'.2.2 c) → q_E g y R K (u.1 + R'.cells, u.2 + R'.slots) (pc + 3) ls (v ++ rest) h') : q_E g y R K u pc ls st h := by
  intro p e s m args below meth c0 Q ad0 n0 ad H locs L C F D hL hv h1 h2
  subst hst
  have hvr : ∀ v ∈ rest, q_vk h v := fun v hm => hv v (List.mem_append_right _ (List.mem_cons_of_mem _ hm))
  have hva : ∀ v ∈ q_Tx g k :: as, q_vk h v := fun v hm => (List.mem_cons.mp hm).elim (fun e => e ▸ trivial) (fun z => hv v (List.mem_append_left _ (List.mem_reverse.mpr z)))
  obtain ⟨cell, q1, q2, q3, -⟩ := ((q_XC hX C).1 k hk).1.kept D.2.1.2.1
  obtain ⟨hx, hb, hml, hown, hts, -, -, -, hK, hbs⟩ := id C
  obtain ⟨⟨hini, hcode, hdd⟩, hinst, hsel⟩ := hs
  have hpre : PreV s H y'.1.cls (g.2.1.2 100 k) (q_Pc g (q_Tx g k :: as) h ad) (as.map (q_c ad)) := ⟨q_blind, ⟨cell, q1, q2, by rw [hqn]; exact q3⟩, fun U hU hW => ⟨rfl, by rw [hU]; exact D.1, hK.call hW D.2.1 hU, by rw [hU]; exact Nat.le_trans hbs D.2.1.1⟩⟩
  have hstk : (F0 m pc L ((as.reverse ++ q_Tx g k :: rest).map (q_c ad))).stack = (as.map (q_c ad)).reverse ++ .ref (g.2.1.2 100 k) :: rest.map (q_c ad) := by
    show (as.reverse ++ q_Tx g k :: rest).map (q_c ad) = _
    rw [List.map_append, List.map_reverse]
    rfl
  have hcats : ((rest.map (q_c ad)).map fun v => v.category).sum ≤ 8 := by
    rw [List.map_map]
    have e : ((fun v : Value => v.category) ∘ q_c ad) = q_sc := funext (fun v => q_c_cat ad v)
    rw [e]
    exact hw
  exact q_goes C F (va_runV (Ts := q_gw) ⟨hx, hb, hml, hown, hts⟩ (hC hva ad) ⟨callB_of n hts (q_good hcode) rfl rfl rfl (hts _ hini) (hts _ hlk) hdd hR, hts _ hinst, hts _ hsel⟩ hpre rfl (by rw [List.length_map]; exact hn) hL.1 hstk (lv_room hcats) hd hm) D hL hvr hm kk
end QST
theorem tJ0_coder_7d493 : q_mV mJ0_coder_7d493 0 := ⟨⟨q_in (by decide +kernel) (by decide +kernel), q_in (by decide +kernel) (by decide +kernel), by decide +kernel⟩, q_in (by decide +kernel) (by decide +kernel), q_in (by decide +kernel) (by decide +kernel)⟩
theorem tJ0_isLatin1_aae02 : q_mV mJ0_isLatin1_aae02 0 := ⟨⟨q_in (by decide +kernel) (by decide +kernel), q_in (by decide +kernel) (by decide +kernel), by decide +kernel⟩, q_in (by decide +kernel) (by decide +kernel), q_in (by decide +kernel) (by decide +kernel)⟩
theorem tJ0_checkIndex_df160 : q_mS mJ0_checkIndex_df160 2 := ⟨⟨q_in (by decide +kernel) (by decide +kernel), q_in (by decide +kernel) (by decide +kernel), by decide +kernel⟩, q_in (by decide +kernel) (by decide +kernel)⟩
theorem tJ1_charAt_3b067 : q_mS mJ1_charAt_3b067 2 := ⟨⟨q_in (by decide +kernel) (by decide +kernel), q_in (by decide +kernel) (by decide +kernel), by decide +kernel⟩, q_in (by decide +kernel) (by decide +kernel)⟩
theorem tJ3_checkIndex_8e157 : q_mS mJ3_checkIndex_8e157 3 := ⟨⟨q_in (by decide +kernel) (by decide +kernel), q_in (by decide +kernel) (by decide +kernel), by decide +kernel⟩, q_in (by decide +kernel) (by decide +kernel)⟩
theorem lJ0_335 : Cond.methodLink RJ0 335 yJ0_coder_7d493 ∈ q_gw := q_in (by decide +kernel) (by decide +kernel)
theorem lJ0_492 : Cond.methodLink RJ0 492 yJ0_isLatin1_aae02 ∈ q_gw := q_in (by decide +kernel) (by decide +kernel)
theorem lJ0_495 : Cond.methodLink RJ0 495 yJ1_charAt_3b067 ∈ q_gw := q_in (by decide +kernel) (by decide +kernel)
theorem lJ0_1059 : Cond.methodLink RJ0 1059 yJ3_checkIndex_8e157 ∈ q_gw := q_in (by decide +kernel) (by decide +kernel)
theorem lJ1_9 : Cond.methodLink RJ1 9 yJ0_checkIndex_df160 ∈ q_gw := q_in (by decide +kernel) (by decide +kernel)
def wp_J0_length_8abf5 (t p : Nat) (k : Nat) (a : qa) (post : Int32 → qa → Prop) : Prop := k < 16 ∧ post (nI (q_tx k).length) a
def wp_J0_charAt_5068e (t p : Nat) (k : Nat) (x1 : Int32) (a : qa) (post : Int32 → qa → Prop) : Prop := k < 16 ∧ vp_in x1 (q_tx k).length ∧ post ((q_tx k).getD x1.toNatClampNeg 0) a
theorem ct_J0_coder {g : q_G} (hX : q_gX g) {s : q_S} {a : qa} {k : Nat} (hk : k < 16) : q_Ct g mJ0_coder_7d493 (q_Rm 1 0 0) [q_Tx g k] (a, s) (q_kI s (fun x a' => x = 0 ∧ a' = a)) := by
  refine q_mk rfl rfl (Nat.le_of_ble_eq_true rfl) (q_cs rfl q_nil) (fun hv => ?_)
  refine xe_gsi hX dJ0_coder_7d493_0 (q_in (by decide +kernel) (by decide +kernel)) ?_
  refine xe_if_eq 13 dJ0_coder_7d493_3 (by decide) (fun c => absurd c (by decide)) (fun _ => ?_)
  refine xe_aload_n dJ0_coder_7d493_6 rfl q_rvA ?_
  refine xe_gcod hX hk dJ0_coder_7d493_7 (q_in (by decide +kernel) (by decide +kernel)) ?_
  refine xe_goto 14 dJ0_coder_7d493_10 (by decide) ?_
  exact xe_iret .byte dJ0_coder_7d493_14 rfl (by decide) ⟨_, _, rfl, rfl, rfl, rfl⟩
theorem ct_J0_isLatin1 {g : q_G} (hX : q_gX g) {s : q_S} {a : qa} {k : Nat} (hk : k < 16) : q_Ct g mJ0_isLatin1_aae02 (q_Rm 1 0 0) [q_Tx g k] (a, s) (q_kI s (fun x a' => x = 1 ∧ a' = a)) := by
  refine q_mk rfl rfl (Nat.le_of_ble_eq_true rfl) (q_cs rfl q_nil) (fun hv => ?_)
  refine xe_gsi hX dJ0_isLatin1_aae02_0 (q_in (by decide +kernel) (by decide +kernel)) ?_
  refine xe_if_eq 17 dJ0_isLatin1_aae02_3 (by decide) (fun c => absurd c (by decide)) (fun _ => ?_)
  refine xe_aload_n dJ0_isLatin1_aae02_6 rfl q_rvA ?_
  refine xe_gcod hX hk dJ0_isLatin1_aae02_7 (q_in (by decide +kernel) (by decide +kernel)) ?_
  refine xe_if_ne 17 dJ0_isLatin1_aae02_10 (by decide) (fun c => absurd rfl c) (fun _ => ?_)
  refine xe_iconst 1 dJ0_isLatin1_aae02_13 (by decide) ?_
  refine xe_goto 18 dJ0_isLatin1_aae02_14 (by decide) ?_
  exact xe_iret .boolean dJ0_isLatin1_aae02_18 rfl (by decide) ⟨_, _, rfl, rfl, rfl, rfl⟩
theorem ct_J0_length_8abf5 {g : q_G} (hX : q_gX g) {s : q_S} {t p : Nat} {a : qa} {k : Nat} {post : Int32 → qa → Prop} (Wq : wp_J0_length_8abf5 t p k a post) : q_Ct g mJ0_length_8abf5 (q_Rm 2 0 0) [q_Tx g k] (a, s) (q_kI s post) := by
  obtain ⟨hk, Wq⟩ := Wq
  refine q_mk rfl rfl (Nat.le_of_ble_eq_true rfl) (q_cs rfl q_nil) (fun hv => ?_)
  refine xe_aload_n dJ0_length_8abf5_0 rfl q_rvA ?_
  refine xe_gval hX hk dJ0_length_8abf5_1 (q_in (by decide +kernel) (by decide +kernel)) ?_
  refine xe_tlen hX hk dJ0_length_8abf5_4 ?_
  refine xe_aload_n dJ0_length_8abf5_5 rfl q_rvA ?_
  refine xe_cvS (y' := mJ0_coder_7d493) hX hk dJ0_length_8abf5_6 lJ0_335 tJ0_coder_7d493 rfl (ct_J0_coder hX hk) rfl rfl (Nat.le_of_ble_eq_true rfl) ⟨Nat.le_of_ble_eq_true rfl, Nat.le_of_ble_eq_true rfl⟩ ⟨Nat.le_of_ble_eq_true rfl, Nat.le_of_ble_eq_true rfl⟩ (fun v1 h1 hl1 hk1 hm1 => ?_)
  obtain ⟨x, a', rfl, rfl, rfl, rfl⟩ := hk1
  refine xe_ishr dJ0_length_8abf5_9 ?_
  have e : nI (q_tx k).length >>> ((0 : Int32) &&& 31) = nI (q_tx k).length := sc_shr0 (by have := q_tx_len k hk; omega)
  exact xe_iret .int dJ0_length_8abf5_10 rfl rfl ⟨_, _, rfl, rfl, by rw [e]; exact Wq⟩
theorem ct_J3_checkIndex {g : q_G} {s : q_S} {a : qa} {x z : Int32} {v : q_V} (hv0 : q_sc v = 1) (h1 : ¬ x < 0) (h2 : x < z) : q_Ct g mJ3_checkIndex_8e157 (q_Rm 1 0 0) [q_I x, q_I z, v] (a, s) (q_kI s (fun w a' => w = x ∧ a' = a)) := by
  refine q_mk rfl rfl (Nat.le_of_ble_eq_true rfl) (q_cs rfl (q_cs rfl (q_cs hv0 q_nil))) (fun hv => ?_)
  refine xe_iload_n dJ3_checkIndex_8e157_0 rfl ?_
  refine xe_if_lt 9 dJ3_checkIndex_8e157_1 (by decide) (fun c => absurd c h1) (fun _ => ?_)
  refine xe_iload_n dJ3_checkIndex_8e157_4 rfl ?_
  refine xe_iload_n dJ3_checkIndex_8e157_5 rfl ?_
  refine xe_ic_lt 16 dJ3_checkIndex_8e157_6 (by decide) (fun _ => ?_) (fun c => absurd h2 c)
  refine xe_iload_n dJ3_checkIndex_8e157_16 rfl ?_
  exact xe_iret .int dJ3_checkIndex_8e157_17 rfl rfl ⟨_, _, rfl, rfl, rfl, rfl⟩
theorem ct_J0_checkIndex {g : q_G} (hX : q_gX g) {s : q_S} {a : qa} {x z : Int32} (h1 : ¬ x < 0) (h2 : x < z) : q_Ct g mJ0_checkIndex_df160 (q_Rm 2 0 0) [q_I x, q_I z] (a, s) (q_kV s (fun a' => a' = a)) := by
  refine q_mk rfl rfl (Nat.le_of_ble_eq_true rfl) (q_cs rfl (q_cs rfl q_nil)) (fun hv => ?_)
  refine xe_iload_n dJ0_checkIndex_df160_0 rfl ?_
  refine xe_iload_n dJ0_checkIndex_df160_1 rfl ?_
  refine xe_gsf hX dJ0_checkIndex_df160_2 (q_in (by decide +kernel) (by decide +kernel)) (fun v _ hsc _ => ?_)
  refine xe_cs (y' := mJ3_checkIndex_8e157) dJ0_checkIndex_df160_5 (Or.inl lJ0_1059) tJ3_checkIndex_8e157 (ct_J3_checkIndex hsc h1 h2) rfl rfl (Nat.le_of_ble_eq_true rfl) ⟨Nat.le_of_ble_eq_true rfl, Nat.le_of_ble_eq_true rfl⟩ ⟨Nat.le_of_ble_eq_true rfl, Nat.le_of_ble_eq_true rfl⟩ (fun v1 h1 hl1 hk1 hm1 => ?_)
  obtain ⟨w, a', rfl, rfl, rfl, rfl⟩ := hk1
  refine xe_pop dJ0_checkIndex_df160_8 rfl ?_
  exact xe_vret dJ0_checkIndex_df160_9 rfl ⟨_, rfl, rfl, rfl⟩
theorem ct_J1_charAt {g : q_G} (hX : q_gX g) {s : q_S} {a : qa} {k : Nat} (hk : k < 16) {x : Int32} (hx : vp_in x (q_tx k).length) : q_Ct g mJ1_charAt_3b067 (q_Rm 3 0 0) [q_Tv g k, q_I x] (a, s) (q_kI s (fun w a' => w = (q_tx k).getD x.toNatClampNeg 0 ∧ a' = a)) := by
  refine q_mk rfl rfl (Nat.le_of_ble_eq_true rfl) (q_cs rfl (q_cs rfl q_nil)) (fun hv => ?_)
  have hlen := q_tx_len k hk
  obtain ⟨j, hj, rfl⟩ := vp_in_of hx (by omega)
  refine xe_iload_n dJ1_charAt_3b067_0 rfl ?_
  refine xe_aload_n dJ1_charAt_3b067_1 rfl q_rvA ?_
  refine xe_tlen hX hk dJ1_charAt_3b067_2 ?_
  refine xe_cs (y' := mJ0_checkIndex_df160) dJ1_charAt_3b067_3 (Or.inl lJ1_9) tJ0_checkIndex_df160 (ct_J0_checkIndex hX (nI_pos (by omega)) (nI_lt hj (by omega))) rfl rfl (Nat.le_of_ble_eq_true rfl) ⟨Nat.le_of_ble_eq_true rfl, Nat.le_of_ble_eq_true rfl⟩ ⟨Nat.le_of_ble_eq_true rfl, Nat.le_of_ble_eq_true rfl⟩ (fun v1 h1 hl1 hk1 hm1 => ?_)
  obtain ⟨a', rfl, rfl, rfl⟩ := hk1
  refine xe_aload_n dJ1_charAt_3b067_6 rfl q_rvA ?_
  refine xe_iload_n dJ1_charAt_3b067_7 rfl ?_
  refine xe_tb hX hk hx dJ1_charAt_3b067_8 ?_
  refine xe_sipush 255 dJ1_charAt_3b067_9 (by decide) ?_
  refine xe_iand dJ1_charAt_3b067_12 ?_
  refine xe_i2c dJ1_charAt_3b067_13 ?_
  have e0 : (nI j).toNatClampNeg = j := nI_clamp (by omega)
  have e : ((((q_tx k).getD (nI j).toNatClampNeg 0) &&& 255).toUInt32 % 65536).toInt32 = (q_tx k).getD (nI j).toNatClampNeg 0 := by
    rw [q_sc_char, e0]
    exact q_tx_ok k hk j hj
  refine xe_iret .char dJ1_charAt_3b067_14 rfl (by rw [q_sc_char]; exact sc_nar _) ⟨_, _, rfl, rfl, e, rfl⟩
theorem ct_J0_charAt_5068e {g : q_G} (hX : q_gX g) {s : q_S} {t p : Nat} {a : qa} {k : Nat} {x1 : Int32} {post : Int32 → qa → Prop} (Wq : wp_J0_charAt_5068e t p k x1 a post) : q_Ct g mJ0_charAt_5068e (q_Rm 4 0 0) [q_Tx g k, q_I x1] (a, s) (q_kI s post) := by
  obtain ⟨hk, hx, Wq⟩ := Wq
  refine q_mk rfl rfl (Nat.le_of_ble_eq_true rfl) (q_cs rfl (q_cs rfl q_nil)) (fun hv => ?_)
  refine xe_aload_n dJ0_charAt_5068e_0 rfl q_rvA ?_
  refine xe_cvS (y' := mJ0_isLatin1_aae02) hX hk dJ0_charAt_5068e_1 lJ0_492 tJ0_isLatin1_aae02 rfl (ct_J0_isLatin1 hX hk) rfl rfl (Nat.le_of_ble_eq_true rfl) ⟨Nat.le_of_ble_eq_true rfl, Nat.le_of_ble_eq_true rfl⟩ ⟨Nat.le_of_ble_eq_true rfl, Nat.le_of_ble_eq_true rfl⟩ (fun v1 h1 hl1 hk1 hm1 => ?_)
  obtain ⟨x, a', rfl, rfl, rfl, rfl⟩ := hk1
  refine xe_if_eq 16 dJ0_charAt_5068e_4 (by decide) (fun c => absurd c (by decide)) (fun _ => ?_)
  refine xe_aload_n dJ0_charAt_5068e_7 rfl q_rvA ?_
  refine xe_gval hX hk dJ0_charAt_5068e_8 (q_in (by decide +kernel) (by decide +kernel)) ?_
  refine xe_iload_n dJ0_charAt_5068e_11 rfl ?_
  refine xe_cs (y' := mJ1_charAt_3b067) dJ0_charAt_5068e_12 (Or.inl lJ0_495) tJ1_charAt_3b067 (ct_J1_charAt hX hk hx) rfl rfl (Nat.le_of_ble_eq_true rfl) ⟨Nat.le_of_ble_eq_true rfl, Nat.le_of_ble_eq_true rfl⟩ ⟨Nat.le_of_ble_eq_true rfl, Nat.le_of_ble_eq_true rfl⟩ (fun v1 h1 hl1 hk1 hm1 => ?_)
  obtain ⟨w, a', rfl, rfl, rfl, rfl⟩ := hk1
  have hn : narrow .char (.int ((q_tx k).getD x1.toNatClampNeg 0)) = .int ((q_tx k).getD x1.toNatClampNeg 0) := by
    have := sc_nar ((q_tx k).getD x1.toNatClampNeg 0)
    rwa [q_tx_ok k hk _ (q_ltI hx)] at this
  exact xe_iret .char dJ0_charAt_5068e_15 rfl hn ⟨_, _, rfl, rfl, Wq⟩
