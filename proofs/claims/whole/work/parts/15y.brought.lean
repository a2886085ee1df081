theorem q_P.kept {g : q_G} {ad : Nat → Nat → Nat} {h : q_H} {H H1 : Heap} (hP : q_P g ad h H) (hk : ∀ q : Nat, q < H.size → H1[q]? = H[q]?) : q_P g ad h H1 := by
  obtain ⟨p1, p2, p3, p4⟩ := hP
  refine ⟨fun c i hi => ?_, p2, p3, p4⟩
  obtain ⟨a1, a2⟩ := p1 c i hi
  refine ⟨fun x hx => ?_, fun hx => ?_⟩
  · have e := a1 x hx
    rw [hk _ (Array.getElem?_eq_some_iff.mp e).1]
    exact e
  · obtain ⟨q, b1, cell, b2, b3⟩ := a2 hx
    exact ⟨q, b1, cell, by rw [hk _ (Array.getElem?_eq_some_iff.mp b2).1]; exact b2, b3⟩
theorem q_kx1 : Cond.classLink RX10 265 q_NE ∈ q_gw := q_in (by decide +kernel) (by decide +kernel)
theorem q_kx2 : Cond.initialized q_NE ∈ q_gw := q_in (by decide +kernel) (by decide +kernel)
def q_Xc (g : q_G) (h : q_H) (ad : Nat → Nat → Nat) (KX : q_H → Prop) : String → State → State → Prop := fun E s0 t => E = q_NE ∧ ∃ (h' : q_H) (ad' : Nat → Nat → Nat), KX h' ∧ q_P g ad' h' t.heap ∧ (∀ c, h.2.2 c ≤ h'.2.2 c ∧ ∀ i, i < h.2.2 c → ad' c i = ad c i) ∧ va_F (q_A g) s0 t
def q_CtX (g : q_G) (y : q_M) (R : Room) (as : List q_V) (h : q_H) (K : List q_V → q_H → Prop) (KX : q_H → Prop) : Prop := (∀ v ∈ as, q_vk h v) → ∀ ad, vx_Met g.1 y.1 (q_wy y) R (q_Pc g as h ad) (q_Qc g h ad K) (q_Xc g h ad KX) R.cells R.slots (q_A g)
theorem q_entry {ad : Nat → Nat → Nat} {h : q_H} {n : Nat} {as : List q_V} {ls : List (Option q_V)} {L : Array Slot} (hls : ls = as.map some ++ List.replicate (n - as.length) none) (hn : as.length ≤ n) (hc : ∀ v ∈ as, q_sc v = 1) (hvk : ∀ v ∈ as, q_vk h v) (hl : lv_has L n (lv_args 0 (as.map (q_c ad)))) : q_L ad h n ls L := by
  have hcat : ∀ v ∈ as.map (q_c ad), v.category = 1 := by
    intro v hv
    obtain ⟨w, hw, rfl⟩ := List.mem_map.mp hv
    rw [q_c_cat]
    exact hc w hw
  refine ⟨hl.1, hl.2.1, by rw [hls, List.length_append, List.length_map, List.length_replicate]; omega, fun i v hi => ?_⟩
  rw [hls] at hi
  by_cases hil : i < as.length
  · rw [List.getElem?_append_left (by rw [List.length_map]; exact hil), List.getElem?_map] at hi
    cases ha : as[i]? with
    | none => rw [ha] at hi; simp at hi
    | some w =>
      rw [ha] at hi
      simp at hi
      subst hi
      have hmem : w ∈ as := List.mem_of_getElem? ha
      refine ⟨?_, hvk w hmem, hc w hmem⟩
      have := q_args (as.map (q_c ad)) 0 hcat i (q_c ad w) (by rw [List.getElem?_map, ha]; rfl)
      rw [Nat.zero_add] at this
      exact hl.2.2 (i, q_c ad w) this
  · rw [List.getElem?_append_right (by rw [List.length_map]; omega), List.getElem?_replicate] at hi
    split at hi <;> simp at hi
theorem q_entryL {ad : Nat → Nat → Nat} {n : Nat} {as : List q_V} (hn : as.length ≤ n) (hc : ∀ v ∈ as, q_sc v = 1) : (lg_sl (as.map (q_c ad))).length ≤ n := by
  rw [q_sl _ (fun v hv => ?_), List.length_map]
  · exact hn
  · obtain ⟨w, hw, rfl⟩ := List.mem_map.mp hv
    rw [q_c_cat]
    exact hc w hw
def wp_X10_brought (t p : Nat) (x1 : Int32) (a : qa) (post : Int32 → qa → Prop) (px : qa → Prop) : Prop := wp_X10_packAt t p x1 a (fun r a2 => (r = none → px a2) ∧ ∀ i, r = some i → (a2 4 i 4 = 2 → post (a2 4 i 9) a2) ∧ (¬ a2 4 i 4 = 2 → px a2))
set_option maxHeartbeats 4000000 in
theorem ct_X10_brought {g : q_G} (hT : q_gT g) {s : q_S} {t p : Nat} (hS : q_Sh t p s) {x1 : Int32} {a : qa} {post : Int32 → qa → Prop} {px : qa → Prop} (Wq : wp_X10_brought t p x1 a post px) : q_CtX g mX10_brought (q_Rm 12 1 6) [q_O 10 0, q_I x1] (a, s) (q_kI s post) (fun h' => ∃ a', h' = (a', s) ∧ px a') := by
  intro hva ad
  have hE : q_E g mX10_brought (q_Rm 12 1 6) (fun v h' => (v = [] → ∃ a', h' = (a', s) ∧ px a') ∧ (v ≠ [] → q_kI s post v h')) (0, 0) 0 [some (q_O 10 0), some (q_I x1), none] [] (a, s) := by
    unfold wp_X10_brought at Wq
    refine xe_aload_n dX10_brought_0 rfl q_rvO ?_
    refine xe_iload_n dX10_brought_1 rfl ?_
    refine xe_cv (y' := mX10_packAt) dX10_brought_2 (Or.inl lX10_120) tX10_packAt rfl rfl (ct_X10_packAt hS Wq) rfl rfl (Nat.le_of_ble_eq_true rfl) ⟨Nat.le_of_ble_eq_true rfl, Nat.le_of_ble_eq_true rfl⟩ ⟨Nat.le_of_ble_eq_true rfl, Nat.le_of_ble_eq_true rfl⟩ (fun v1 h1 hl1 hk1 hm1 => ?_)
    obtain ⟨r, a2, rfl, rfl, Wq⟩ := hk1
    refine xe_astore_n dX10_brought_5 (by decide) q_rvR ?_
    refine xe_aload_n dX10_brought_6 rfl q_rvR ?_
    cases r with
    | none =>
      refine xe_ifnullN 18 dX10_brought_7 (by decide) ?_
      exact xe_exit ⟨rfl, rfl⟩ ⟨fun _ => ⟨_, rfl, Wq.1 rfl⟩, fun z => absurd rfl z⟩
    | some i =>
      replace Wq := Wq.2 i rfl
      refine xe_ifnullO dX10_brought_7 ?_
      refine xe_aload_n dX10_brought_10 rfl q_rvO ?_
      refine xe_geti dX10_brought_11 fX10_128 (fun _ _ => rfl) ?_
      refine xe_iconst 2 dX10_brought_14 (by decide) ?_
      refine xe_ic_eq 29 dX10_brought_15 (by decide) (fun c => ?_) (fun c => ?_)
      · refine xe_aload_n dX10_brought_29 rfl q_rvO ?_
        refine xe_geti dX10_brought_30 fX10_272 (fun _ _ => rfl) ?_
        exact xe_iret .int dX10_brought_33 rfl rfl ⟨fun z => absurd z (by simp), fun _ => ⟨_, _, rfl, rfl, Wq.1 c⟩⟩
      · exact xe_exit ⟨rfl, rfl⟩ ⟨fun _ => ⟨_, rfl, Wq.2 c⟩, fun z => absurd rfl z⟩
  have hc : ∀ v ∈ [q_O 10 0, q_I x1], q_sc v = 1 := q_cs rfl (q_cs rfl q_nil)
  refine vx_ofW (cc := mX10_brought.2.1) (maxL := 3) (ret := some .int) (by decide) rfl ?_
  intro p0 e s0 m args below meth c s₁ B hml htab hv
  obtain ⟨rfl, hP, hK, hbs⟩ := hv
  have hx := B.exec
  have hb := B.bytes
  have hr := B.returns
  have hts := atoms_spec (ws := q_wy mX10_brought) B.pre
  have hown : s0.vm.findClass RX10 = some m.cls := findClass_of_methodNamed B.named
  have hlocks := B.notSynchronized
  have hnm : meth.name = "brought" := (name_of_methodNamed B.named B.method).1
  have hl := lv_entry ([q_O 10 0, q_I x1].map (q_c ad)) (n := 3) (q_entryL (Nat.le_of_ble_eq_true rfl) hc)
  rw [lg_entry_eq]
  generalize (lg_sl ([q_O 10 0, q_I x1].map (q_c ad)) ++ List.replicate (3 - (lg_sl ([q_O 10 0, q_I x1].map (q_c ad))).length) Slot.unset).toArray = L at hl ⊢
  have hL : q_L ad (a, s) 3 [some (q_O 10 0), some (q_I x1), none] L := q_entry rfl (Nat.le_of_ble_eq_true rfl) hc hva hl
  have hts2 : ∀ w ∈ q_gw, w.before _ s0 = true := fun w hw => hts w (List.mem_cons_of_mem _ hw)
  refine hE p0 e s0 m _ below meth c _ ad s.2 ad s0.heap [] L ⟨hx, hb, hml, hown, hts2, hr, hlocks, hnm, hK, hbs⟩ ?_ ⟨hP, va_S.rf, fun c => ⟨Nat.le_refl _, fun _ _ => rfl⟩⟩ hL (fun v hv => by cases hv) (Nat.zero_le _) (Nat.zero_le _)
  intro pc L1 v h1 ad1 H locs u hk D hvv hrt hu1 hu2 hsz
  rcases hrt with ⟨x, ty, rfl, hy, hnn, hd⟩ | ⟨rfl, hy, hd⟩ | ⟨r, C0, rfl, hy, hrr, hd⟩ | ⟨rfl, -, -, rfl, rfl⟩
  · refine W.widen hu1 hu2 (vx_ret ?_)
    exact W.zret hx hb (hr.trans hy) hnn (fun t ht _ => ⟨_, h1, ad1, rfl, Nat.le_refl _, hk.2 (by simp), by rw [ht]; exact D.1, hvv, D.2.2, D.2.1.F ht⟩) D.2.1.2.2 hd
  · cases hy
  · cases hy
  · obtain ⟨e1, e2, e3, e4⟩ := hT.1 s0 hK.2.2.2.2.1
    have hat : ∀ w ∈ qx_aw RX10 269, w.before (([q_O 10 0, q_I x1].map (q_c ad)).toArray) s0 = true := vx_hat (fun w hw => hts2 w (q_in (qx_w1 w hw) (List.mem_filter.mp hw).2)) (fun w hw => hw) (fun w hw => va_Nw.use (q_XT_w hw).2 (e4 w hw))
    refine qx_throw (own := RX10) (ik := 265) (is := 267) (ic := 269) (sa := g.2.1.2 100 16) (A := q_A g) hx hb hT.2 hown (hts2 _ q_kx1) (hts2 _ q_kx2) e1 hat qx_w2 e2 e3 D.2.1 (hsz.trans hml.symm) dX10_brought_18 dX10_brought_21 dX10_brought_22 dX10_brought_25 dX10_brought_28 (fun x hx => (htab x hx).elim) (Nat.le_of_ble_eq_true rfl) (Nat.le_of_ble_eq_true rfl) (Nat.le_of_ble_eq_true rfl) (Nat.le_of_ble_eq_true rfl) hlocks ?_ D.2.1.2.2 (Nat.le_of_ble_eq_true rfl) (Nat.le_of_ble_eq_true rfl)
    intro t _ hsz2 hkp
    refine ⟨rfl, h1, ad1, hk.1 rfl, D.1.kept hkp, D.2.2, Nat.le_trans D.2.1.1 hsz2, fun q a1 a2 => (hkp q (Nat.lt_of_lt_of_le a1 D.2.1.1)).trans (D.2.1.2.1 q a1 a2)⟩
