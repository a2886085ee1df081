def mL_brought : q_M := (yL_brought, cL_brought, 4, some .int)
theorem tX10_brought2 : q_mV mX10_brought 1 := ⟨⟨q_in (by decide +kernel) (by decide +kernel), q_in (by decide +kernel) (by decide +kernel), by decide +kernel⟩, q_in (by decide +kernel) (by decide +kernel), q_in (by decide +kernel) (by decide +kernel)⟩
theorem lL_7b : Cond.methodLink RL 7 yX10_brought ∈ q_gw := q_in (by decide +kernel) (by decide +kernel)
theorem kL_13 : Cond.classLink RL 13 q_NE ∈ q_gw := q_in (by decide +kernel) (by decide +kernel)
theorem q_cx1 : Cond.castable q_NE q_NE ∈ (qx_aw RX10 269).filter (fun w => !goodWord w) := by decide +kernel
theorem q_cw1 : Cond.codeWith yL_brought cL_brought 4 (some .int) [(0, 9, 12, 13)] ∈ q_gw := q_in (by decide +kernel) (by decide +kernel)
def q_wL : List Cond := .codeWith yL_brought cL_brought 4 (some .int) [(0, 9, 12, 13)] :: q_gw
set_option maxHeartbeats 4000000 in
theorem ct_L_brought {g : q_G} (hT : q_gT g) {s : q_S} {t p : Nat} (hS : q_Sh t p s) {x1 : Int32} {a : qa} {post : Int32 → qa → Prop} (Wq : wp_X10_brought t p x1 a (fun r a2 => post 0 (qs a2 79 0 0 r)) (fun a2 => post 1 a2)) (hva : ∀ v ∈ [q_O 10 0, q_I x1, q_O 79 0], q_vk (a, s) v) (ad : Nat → Nat → Nat) : Met g.1 yL_brought q_wL (q_Rm 13 1 6) (q_Pc g [q_O 10 0, q_I x1, q_O 79 0] (a, s) ad) (q_Qc g (a, s) ad (q_kI s post)) 1 6 (q_A g) := by
  have hc : ∀ v ∈ [q_O 10 0, q_I x1, q_O 79 0], q_sc v = 1 := q_cs rfl (q_cs rfl (q_cs rfl q_nil))
  refine va_MetW (cc := cL_brought) (maxL := 4) (ret := some .int) (hh := [(0, 9, 12, 13)]) (by decide) rfl ?_
  intro p0 e s0 m args below meth c s₁ B hml hv
  obtain ⟨rfl, hP, hK, hbs⟩ := hv
  have hx := B.exec
  have hb := B.bytes
  have hr := B.returns
  have hts := atoms_spec (ws := q_wL) B.pre
  have hown : s0.vm.findClass RL = some m.cls := findClass_of_methodNamed B.named
  have hlocks := B.notSynchronized
  have hnm : meth.name = "brought" := (name_of_methodNamed B.named B.method).1
  have htab := vx_table (x := yL_brought) B (hts _ List.mem_cons_self)
  have hl := lv_entry ([q_O 10 0, q_I x1, q_O 79 0].map (q_c ad)) (n := 4) (q_entryL (Nat.le_of_ble_eq_true rfl) hc)
  rw [lg_entry_eq]
  generalize (lg_sl ([q_O 10 0, q_I x1, q_O 79 0].map (q_c ad)) ++ List.replicate (4 - (lg_sl ([q_O 10 0, q_I x1, q_O 79 0].map (q_c ad))).length) Slot.unset).toArray = L at hl ⊢
  have hL : q_L ad (a, s) 4 [some (q_O 10 0), some (q_I x1), some (q_O 79 0), none] L := q_entry rfl (Nat.le_of_ble_eq_true rfl) hc hva hl
  have hts2 : ∀ w ∈ q_gw, w.before _ s0 = true := fun w hw => hts w (List.mem_cons_of_mem _ hw)
  have C : q_Cx g mL_brought p0 s0 m _ meth c := ⟨hx, hb, hml, hown, hts2, hr, hlocks, hnm, hK, hbs⟩
  have D : q_D g ad s.2 s0 ad (a, s) s0.heap [] := ⟨hP, va_S.rf, fun c => ⟨Nat.le_refl _, fun _ _ => rfl⟩⟩
  have F : q_F g mL_brought (q_Rm 13 1 6) (q_kI s post) p0 e s0 m (([q_O 10 0, q_I x1, q_O 79 0].map (q_c ad)).toArray) below meth c (MQ below (q_Qc g (a, s) ad (q_kI s post)) (([q_O 10 0, q_I x1, q_O 79 0].map (q_c ad)).toArray) s0 1 6 (q_A g)) ad s.2 := by
    intro pc L1 v h1 ad1 H locs u hk D hvv hrt hu1 hu2 hsz
    refine W.widen hu1 hu2 ?_
    rcases hrt with ⟨x, ty, rfl, hy, hnn, hd⟩ | ⟨rfl, hy, hd⟩ | ⟨r, C0, rfl, hy, hrr, hd⟩ | ⟨rfl, z1, -, -, -⟩
    · exact W.zret hx hb (hr.trans hy) hnn (fun t ht _ => ⟨_, h1, ad1, rfl, Nat.le_refl _, hk, by rw [ht]; exact D.1, hvv, D.2.2, D.2.1.F ht⟩) D.2.1.2.2 hd
    · cases hy
    · cases hy
    · exact absurd z1 (by decide +kernel)
  refine lv_aload_n hx hb dL_brought_0 rfl (hL.2.2.2 2 _ rfl).1 ?_
  refine lv_iconst (v := 0) hx hb dL_brought_1 (by decide) ?_
  refine lv_aload_n hx hb dL_brought_2 rfl (hL.2.2.2 0 _ rfl).1 ?_
  refine lv_iload_n hx hb dL_brought_3 rfl (hL.2.2.2 1 _ rfl).1 ?_
  have hvb : ∀ v ∈ [q_O 10 0, q_I x1], q_vk (a, s) v := q_cs (q_hd hva) (q_cs trivial q_nil)
  have hvr : ∀ v ∈ [q_I 0, q_O 79 0], q_vk (a, s) v := q_cs trivial (q_cs (q_hd (q_tl (q_tl hva))) q_nil)
  obtain ⟨cell, q1, q2, q3, -⟩ := q_obj (c := 10) (i := 0) (q := (RX10, TX10, 13)) hP (q_hd hva) rfl
  have hpre : PreV s0 s0.heap RX10 (ad 10 0) (q_Pc g [q_O 10 0, q_I x1] (a, s) ad) [.int x1] := ⟨q_blind, ⟨cell, q1, by rw [q3]; rfl, by rw [q2]; exact (hK.1 10 _ rfl).2.1⟩, fun U hU hW => ⟨rfl, by rw [hU]; exact hP, hK.call hW D.2.1 hU, by rw [hU]; exact hbs⟩⟩
  have hrun := vx_runV (Ts := q_gw) (cells := 0) (slots := 0) (locs := []) (g := F0 m 4 L [.int x1, .ref (ad 10 0), .int 0, .ref (ad 79 0)]) (rest := [.int 0, .ref (ad 79 0)]) (R := q_Rm 13 1 6) (e := e) (below := below) (meth := meth) (index := 7) ⟨hx, hb, hml, hown, hts2⟩ (ct_X10_brought hT hS Wq hvb ad) ⟨callB_of 1 hts2 (q_good tX10_brought2.1.2.1) rfl rfl rfl (hts2 _ tX10_brought2.1.1) (hts2 _ lL_7b) tX10_brought2.1.2.2 ⟨Nat.le_of_ble_eq_true rfl, Nat.le_of_ble_eq_true rfl⟩, hts2 _ tX10_brought2.2.1, hts2 _ tX10_brought2.2.2⟩ hpre rfl rfl hL.1 rfl (lv_room (Nat.le_of_ble_eq_true rfl)) dL_brought_4 ⟨Nat.le_of_ble_eq_true rfl, Nat.le_of_ble_eq_true rfl⟩
  intro T hTT X
  rcases hrun T hTT X with ⟨vv, st₀, t1, T', Ls, h0, X', hLs, e1, e2, ⟨v, h', ad', hvv, hlen, ⟨r, a2, rfl, rfl, Wq⟩, hP2, hvk, hex, hF⟩, hgo⟩ | ⟨q, st₀, t1, T', Ls, E, ce, h0, X', hLs, e1, e2, ⟨rfl, h', ad', ⟨a2, rfl, Wq⟩, hP2, hex, hF⟩, hce, hcv, hcl, st⟩
  · cases hvv
    have D2 : q_D g ad s.2 s0 ad' (a2, s) T'.heap ([] ++ Ls) := by
      rw [e1]
      unfold va_F at hF
      rw [h0] at hF
      exact ⟨hP2, ⟨hF.1, fun q b1 b2 => hF.2 q b1 b2, fun q hq => hLs q (by simpa using hq)⟩, fun c => hex c⟩
    have hE : q_E g mL_brought (q_Rm 13 1 6) (q_kI s post) (0 + 1, 0 + 6) 7 [some (q_O 10 0), some (q_I x1), some (q_O 79 0), none] [q_I r, q_I 0, q_O 79 0] (a2, s) := by
      refine xe_i2l dL_brought_7 ?_
      refine xe_last dL_brought_8 rfl (by unfold vp_in; decide) ?_
      refine xe_goto 15 dL_brought_9 (by decide) ?_
      refine xe_iconst 0 dL_brought_15 (by decide) ?_
      exact xe_iret .int dL_brought_16 rfl rfl ⟨_, _, rfl, rfl, Wq⟩
    obtain ⟨t2, b1, b2⟩ := hE p0 e s0 m _ below meth c _ ad s.2 ad' T'.heap ([] ++ Ls) L C F D2 (hL.ext (fun c i hi => (hex c).2 i hi) (fun c => (hex c).1)) (q_cs trivial (q_vm hvr (fun c => (hex c).1))) (Nat.le_of_ble_eq_true rfl) (Nat.le_of_ble_eq_true rfl) T' rfl X'
    refine ⟨t2, hgo t2 ?_, b2⟩
    have e9 : ad' 79 0 = ad 79 0 := (hex 79).2 0 (q_hd (q_tl (q_tl hva)))
    have e8 : [q_I r, q_I 0, q_O 79 0].map (q_c ad') = [.int r, .int 0, .ref (ad 79 0)] := by
      show [Value.int r, Value.int 0, Value.ref (ad' 79 0)] = _
      rw [e9]
    rw [e8] at b1
    exact b1
  · have D2 : q_D g ad s.2 s0 ad' (a2, s) T'.heap ([] ++ Ls) := by
      rw [e1]
      unfold va_F at hF
      rw [h0] at hF
      exact ⟨hP2, ⟨hF.1, fun q b1 b2 => hF.2 q b1 b2, fun q hq => hLs q (by simpa using hq)⟩, fun c => hex c⟩
    have hE : q_E g mL_brought (q_Rm 13 1 6) (q_kI s post) (0 + 1, 0 + 6) 12 [some (q_O 10 0), some (q_I x1), some (q_O 79 0), none] [.inl (.ref q)] (a2, s) := by
      refine xe_astore_n dL_brought_12 (by decide) q_rvA ?_
      refine xe_iconst 1 dL_brought_13 (by decide) ?_
      exact xe_iret .int dL_brought_14 rfl rfl ⟨_, _, rfl, rfl, Wq⟩
    have hW := hE p0 e s0 m _ below meth c _ ad s.2 ad' T'.heap ([] ++ Ls) L C F D2 (hL.ext (fun c i hi => (hex c).2 i hi) (fun c => (hex c).1)) (q_cs trivial q_nil) (Nat.le_of_ble_eq_true rfl) (Nat.le_of_ble_eq_true rfl)
    have hcast : (Cond.castable q_NE q_NE).before (([q_O 10 0, q_I x1, q_O 79 0].map (q_c ad)).toArray) s0 = true := va_Nw.use (q_XT_w q_cx1).2 ((hT.1 s0 hK.2.2.2.2.1).2.2.2 _ q_cx1)
    have hcatch := cu_catch (p := p0) (l := g.1) (e := e) (R := q_Rm 13 1 6) (below := below) (meth := meth) (locs := [] ++ Ls) (cells := 0 + 1) (slots := 0 + 6) (pc := 4) (ls := L) (rest := [.int 0, .ref (ad 79 0)]) (H := T'.heap) (q := q) (ce := ce) hown ⟨0, 9, 12, 13⟩ (htab.trans rfl) (by decide) (by decide) (hts2 _ kL_13) hcast (by rw [e1]; exact hce) hcv hcl hW
    obtain ⟨t2, b1, b2⟩ := hcatch T' rfl X'
    exact ⟨t2, st.trans b1, b2⟩
