section VXS
variable {p : Program} {l : Launch} {e : Env} {R : Room} {s : State} {m : MethodId} {args : Array Value} {below : List Frame} {meth : Method} {c : Code} {T : State} {H : Heap} {locs : List Loc} {cells slots : Nat}
abbrev vx_CSW (R : Room) (s : State) (args : Array Value) (own : String) (index : Nat) (y : MethodName) (bytes : ByteArray) (maxL : Nat) (ret : Option FieldType) (hh : List (Nat × Nat × Nat × Nat)) (ws : List Cond) (rm : Room) (mc ms n : Nat) : Prop :=
  (rm.cells = mc ∧ rm.slots = ms ∧ rm.frames + 1 ≤ R.frames ∧ 8 + (maxL + 11) + rm.locals ≤ R.locals ∧ (∀ w ∈ ws, ∀ (a' : Array Value) (U : State), s.WarmedH U.vm → w.before a' U = true) ∧ Cond.codeWith y bytes maxL ret hh ∈ ws) ∧
  (Cond.codeWith y bytes maxL ret hh).before args s = true ∧ (Cond.initialized y.cls).before args s = true ∧ (y.cls ≠ "java/lang/invoke/MethodHandle" ∧ y.cls ≠ "java/lang/invoke/VarHandle") ∧
  (∀ sig, parseMethodDescriptor y.desc = some sig → n = sig.parameters.length) ∧ (Cond.methodLink own index y).before args s = true ∧ (Cond.static y).before args s = true
theorem vx_cwSW {own : String} {index maxL mc ms : Nat} {y : MethodName} {bytes : ByteArray} {ret : Option FieldType} {hh : List (Nat × Nat × Nat × Nat)} {Ts ws ws' : List Cond} {rm : Room} (n : Nat) (ht : ∀ w ∈ Ts, w.before args s = true) (hT : GoodIn Ts (va_wsS own index y ws)) (hw : ws = Cond.codeWith y bytes maxL ret hh :: ws') (hrc : rm.cells = mc) (hrs : rm.slots = ms)
    (hd : y.cls ≠ "java/lang/invoke/MethodHandle" ∧ y.cls ≠ "java/lang/invoke/VarHandle" ∧ (parseMethodDescriptor y.desc).map (fun d => d.parameters.length) = some n) (hR : rm.frames + 1 ≤ R.frames ∧ 8 + (maxL + 11) + rm.locals ≤ R.locals) :
    vx_CSW R s args own index y bytes maxL ret hh ws rm mc ms n := by
  have ok : ∀ w ∈ va_wsS own index y ws, w.before args s = true := fun w h => ht w (hT w h).1
  have hG : GoodIn Ts ws := fun w h => hT w (by unfold va_wsS; exact List.mem_append_right _ h)
  have hc : Cond.codeWith y bytes maxL ret hh ∈ ws := by rw [hw]; exact List.mem_cons_self
  refine ⟨⟨hrc, hrs, hR.1, hR.2, pay_in ht hG, hc⟩, ht _ (hG _ hc).1, ok _ (by simp [va_wsS]), ⟨hd.1, hd.2.1⟩, fun sig h => ?_, ok _ (by simp [va_wsS]), ok _ (by simp [va_wsS])⟩
  have h2 := hd.2.2
  rw [h] at h2
  exact (Option.some.inj h2).symm
theorem vx_callSW (X : Stand p l e R s m args below meth c T locs cells slots) (hexec : p.tables.exec = Jvm.exec) {own : String} {index : Nat} {y : MethodName} {bytes : ByteArray} {maxL : Nat} {ret : Option FieldType} {hh : List (Nat × Nat × Nat × Nat)}
    (hown : s.vm.findClass own = some m.cls) (hlink : (Cond.methodLink own index y).before args s = true) (hstat : (Cond.static y).before args s = true) (hinit : (Cond.initialized y.cls).before args s = true)
    (hcode : (Cond.codeWith y bytes maxL ret hh).before args s = true) (hy : y.cls ≠ "java/lang/invoke/MethodHandle" ∧ y.cls ≠ "java/lang/invoke/VarHandle")
    {W9 : Nat} {Pre : Pt → Array Value → Prop} {Post : Pt → Array Value → Option Value → Pt → Prop} (hK : Back l R p e below s args y 3 W9 Pre Post)
    {g : JFrame} (hg : g.method = m) (hsize : g.locals.size = c.maxLocals) {argsL rest : List Value} (hlen : ∀ sig, parseMethodDescriptor y.desc = some sig → argsL.length = sig.parameters.length)
    (hstack : g.stack = argsL.reverse ++ rest) (hW : 2 * g.monitorRoom + (rest.map fun v => v.category).sum ≤ W9) (hdg : decode c.code g.pc = .ok (.invokestatic index, 3))
    (hpre : ∀ vm₁, s.WarmedH vm₁ → Pre ⟨T.setVm vm₁, locs, cells, slots⟩ argsL.toArray) :
    ∃ (v : Option Value) (vm₁ : Vm) (B : Pt), s.WarmedH vm₁ ∧ Stand p l e R s m args below meth c B.U B.locs B.cells B.slots ∧ Post ⟨T.setVm vm₁, locs, cells, slots⟩ argsL.toArray v B ∧
      ∀ target, Steps p.tables e below (B.U.setTop { g with pc := g.pc + 3, stack := v.toList ++ rest }) target → Steps p.tables e below (T.setTop g) target := by
  obtain ⟨mk, methM, cM, hnamed, hmethM, -, -, -, -, -, -, hsigM⟩ := Cond.codeWith_spec hcode
  have hstatic : methM.isStatic = true := Cond.static_spec hnamed hmethM hstat
  obtain ⟨kP, hkP, -⟩ := className_of_methodNamed hnamed
  have hinitP : kP.init = .initialized := Cond.initialized_spec (findClass_of_methodNamed hnamed) hkP hinit
  obtain ⟨vm₁, X₁, hstep₁⟩ := X.invokestatic hexec hown hlink hnamed hmethM hstatic hkP hinitP hy (g := g) hg (argsL := argsL) (rest := rest) (hlen _ hsigM) hstack hdg
  obtain ⟨v, B, X', hpost, hsteps⟩ := hK m meth c ⟨T.setVm vm₁, locs, cells, slots⟩ { g with stack := rest } (.invokestatic index) mk argsL.toArray X₁ hg hsize hdg hW (X₁.named hnamed) (hpre vm₁ X₁.warmed)
  exact ⟨v, vm₁, B, X₁.warmed, X', hpost, fun target h => hstep₁ _ fun acts => by rw [doInvoke_state]; exact hsteps.trans h⟩
theorem vx_runSW {y : MethodName} {bytes cc : ByteArray} {maxL nL mc ms n index : Nat} {ret : Option FieldType} {hh : List (Nat × Nat × Nat × Nat)} {ws : List Cond} {rm : Room} {Pc : Array Value → State → Prop} {Qc : Array Value → State → Outcome → State → Prop} {free : Addr → Prop} {Ts : List Cond} {own : String} {As rest : List Value} {g : JFrame}
    (S : CallFix p m c cc nL s args Ts own) (hM : Met l y ws rm Pc Qc mc ms free) (cw : vx_CSW R s args own index y bytes maxL ret hh ws rm mc ms n) (hp : PreS s H Pc As)
    (hg : g.method = m) (hn : As.length = n) (hsize : g.locals.size = nL) (hstack : g.stack = As.reverse ++ rest) (hW : 2 * g.monitorRoom + (rest.map fun v => v.category).sum ≤ 8) (hdg : decode cc g.pc = .ok (.invokestatic index, 3)) (hf : cells + mc ≤ R.cells ∧ slots + ms ≤ R.slots) :
    va_Run p l e R s m args below meth c H locs cells slots mc ms g rest (Qc As.toArray) (free) := by
  obtain ⟨⟨hrc, hrs, hfr, hlo, hws, hcw⟩, hcode, hini, hy, hlen, hl, hstt⟩ := cw
  have hK : Back l R p e below s args y 3 8 (PreOf R mc ms Pc) (PostOf Qc mc ms free) := va_backW (hh := hh) (bytes := bytes) (maxL := maxL) (ret := ret) hM hp.1 hrc hrs hfr hlo hws hcw (fun a' U hW => word_at hW (Or.inl (by first | rfl | simp [Cond.onTables, Cond.keeps, Cond.steady])) hini)
  obtain ⟨hx, hb, hml, ho, -⟩ := S
  intro T hT X
  obtain ⟨v, vm₁, ⟨U', l2, c2, s2⟩, hW₁, X', ⟨g', mk, t, L, e1, e2, hq, h1, hL, h2, h3⟩, st⟩ := vx_callSW X hx (hh := hh) (bytes := bytes) (maxL := maxL) (ret := ret) ho hl hstt hini hcode hy hK hg (hsize.trans hml.symm) (argsL := As) (rest := rest) (fun sig h => hn.trans (hlen sig h)) hstack hW (by rw [hb]; exact hdg)
    (fun vm₁ hW₁ => ⟨hf.1, hf.2, hp.2 (T.setVm vm₁) hT hW₁⟩)
  dsimp only [Pt.U, Pt.locs, Pt.cells, Pt.slots] at X' e1 e2 h1 h2 h3 st
  subst h1; subst h2; subst h3
  exact ⟨v, (T.setVm vm₁).calling g' mk As.toArray, t, U', L, hT, X', hL, e1, e2, hq, st⟩
end VXS
theorem xe_lcmp {g : q_G} {y : q_M} {R : Room} {K : List q_V → q_H → Prop} {u : Nat × Nat} {pc : Nat} {ls : List (Option q_V)} {st : List q_V} {h : q_H} {x z : Int64} (hd : decode y.2.1 pc = .ok (.lcmp, 1)) (k : q_E g y R K u (pc + 1) ls (q_I (lg_cmp x z) :: st) h) : q_E g y R K u pc ls (q_J z :: q_J x :: st) h := by
  intro p e s m args below meth c Q ad0 n0 ad H locs L C F D hL hv h1 h2
  exact W.lcmp C.1 C.2.1 hd (k p e s m args below meth c Q ad0 n0 ad H locs L C F D hL (q_cs trivial (q_tl (q_tl hv))) h1 h2)
theorem xe_wk {g : q_G} {y : q_M} {R : Room} {K : List q_V → q_H → Prop} {u : Nat × Nat} {pc : Nat} {ls ls' : List (Option q_V)} {st : List q_V} {h : q_H} (hw : ∀ (i : Nat) (v : q_V), ls[i]? = some (some v) → ls'[i]? = some (some v)) (hl : ls.length = ls'.length) (k : q_E g y R K u pc ls st h) : q_E g y R K u pc ls' st h := by
  intro p e s m args below meth c Q ad0 n0 ad H locs L C F D hL hv h1 h2
  exact k p e s m args below meth c Q ad0 n0 ad H locs L C F D ⟨hL.1, hL.2.1, hl.trans hL.2.2.1, fun i v hi => hL.2.2.2 i v (hw i v hi)⟩ hv h1 h2
theorem kL_98s : Cond.static yL_brought ∈ q_gw := q_in (by decide +kernel) (by decide +kernel)
theorem kL_98i : Cond.initialized yL_brought.cls ∈ q_gw := q_in (by decide +kernel) (by decide +kernel)
theorem kL_98d : yL_brought.cls ≠ "java/lang/invoke/MethodHandle" ∧ yL_brought.cls ≠ "java/lang/invoke/VarHandle" ∧ (parseMethodDescriptor yL_brought.desc).map (fun d => d.parameters.length) = some 3 := by decide +kernel
theorem kL_98g : GoodIn q_gw (va_wsS RL 98 yL_brought q_wL) := by
  intro w hw
  have hm : w ∈ q_gw := by
    rcases List.mem_append.mp hw with h | h
    · rcases List.mem_cons.mp h with rfl | h
      · exact lL_98
      · rcases List.mem_cons.mp h with rfl | h
        · exact kL_98s
        · rcases List.mem_cons.mp h with rfl | h
          · exact kL_98i
          · cases h
    · rcases List.mem_cons.mp h with rfl | h
      · exact q_cw1
      · exact h
  exact ⟨hm, good_of_word (List.mem_filter.mp hm).2⟩
set_option maxHeartbeats 4000000 in
theorem xe_cL {g : q_G} (hT : q_gT g) {R : Room} {K : List q_V → q_H → Prop} {u : Nat × Nat} {pc : Nat} {ls : List (Option q_V)} {rest : List q_V} {s : q_S} {t p : Nat} (hS : q_Sh t p s) {x1 : Int32} {a : qa} {post : Int32 → qa → Prop} (hd : decode mL_law.2.1 pc = .ok (.invokestatic 98, 3)) (Wq : wp_X10_brought t p x1 a (fun r a2 => post 0 (qs a2 79 0 0 r)) (fun a2 => post 1 a2)) (hw : (rest.map q_sc).sum ≤ 8) (hR : (q_Rm 13 1 6).frames + 1 ≤ R.frames ∧ 8 + (4 + 11) + (q_Rm 13 1 6).locals ≤ R.locals) (hm : u.1 + 1 ≤ R.cells ∧ u.2 + 6 ≤ R.slots) (kk : ∀ x a', post x a' → q_E g mL_law R K (u.1 + 1, u.2 + 6) (pc + 3) ls (q_I x :: rest) (a', s)) : q_E g mL_law R K u pc ls (q_O 79 0 :: q_I x1 :: q_O 10 0 :: rest) (a, s) := by
  intro p0 e s0 m args below meth c0 Q ad0 n0 ad H locs L C F D hL hv h1 h2
  have hvr : ∀ v ∈ rest, q_vk (a, s) v := fun v hm => hv v (List.mem_cons_of_mem _ (List.mem_cons_of_mem _ (List.mem_cons_of_mem _ hm)))
  have hva : ∀ v ∈ [q_O 10 0, q_I x1, q_O 79 0], q_vk (a, s) v := q_cs (q_hd (q_tl (q_tl hv))) (q_cs (q_hd (q_tl hv)) (q_cs (q_hd hv) q_nil))
  obtain ⟨hx, hb, hml, hown, hts, -, -, -, hK, hbs⟩ := id C
  have hpre : PreS s0 H (q_Pc g [q_O 10 0, q_I x1, q_O 79 0] (a, s) ad) ([q_O 10 0, q_I x1, q_O 79 0].map (q_c ad)) := ⟨q_blind, fun U hU hW => ⟨rfl, by rw [hU]; exact D.1, hK.call hW D.2.1 hU, by rw [hU]; exact Nat.le_trans hbs D.2.1.1⟩⟩
  have hcats : ((rest.map (q_c ad)).map fun v => v.category).sum ≤ 8 := by
    rw [List.map_map]
    have e : ((fun v : Value => v.category) ∘ q_c ad) = q_sc := funext (fun v => q_c_cat ad v)
    rw [e]
    exact hw
  exact q_goes (R' := q_Rm 13 1 6) (K' := q_kI s post) C F (vx_runSW (Ts := q_gw) (rest := rest.map (q_c ad)) ⟨hx, hb, hml, hown, hts⟩ (ct_L_brought hT hS Wq hva ad) (vx_cwSW (Ts := q_gw) 3 hts kL_98g rfl rfl rfl kL_98d hR) hpre rfl rfl hL.1 rfl (lv_room hcats) hd hm) D hL hvr hm (fun v h' hl hk hmm => by
    obtain ⟨x, a', rfl, rfl, w⟩ := hk
    exact kk x a' w)
theorem lg_cmp_0 (x : Int64) : lg_cmp x x = 0 := by simp [lg_cmp]
set_option maxHeartbeats 8000000 in
set_option maxRecDepth 100000 in
theorem pr_18 {g : q_G} {K : List q_V → q_H → Prop} {sb L : Nat} {xs : Nat → Int32} (hXL : q_gL g sb L xs) (hT : q_gT g) : ob_18 g K sb L Inv := by
  intro t p k s a u i hk hS hI hu1 hu2 hj hN
  have ht4 : t ≤ 4 := hS.2.2.2.2.2.2.2.2.2.2.2.2.1
  have hp4 : p ≤ 100 := hS.2.2.2.2.2.2.2.2.2.2.2.2.2
  have c1 : u.1 ≤ 600924 := by have : u.1 + 100 ≤ 601024 := hu1; omega
  have c2 : u.2 ≤ 7291034 := by have : u.2 + 2000 ≤ 7293034 := hu2; omega
  have Wq := pr_brought (x1 := xs (i + 1).toNatClampNeg) ht4 hp4 hI
  refine xe_aload_n dL_law_922 rfl q_rvO ?_
  refine xe_aload_n dL_law_923 rfl q_rvA ?_
  refine xe_iload dL_law_924 rfl ?_
  refine xe_iconst 1 dL_law_926 (by decide) ?_
  refine xe_iadd dL_law_927 ?_
  refine xe_sld hXL dL_law_928 (hj 1 (by decide)) ?_
  refine xe_aload_n dL_law_929 rfl q_rvO ?_
  refine xe_cL hT hS (post := fun x a2 => @ite _ (x = 0) (Classical.propDecidable _) (wp_X11_brought t p (xs (i + 1).toNatClampNeg) a2 (fun b a3 => a3 11 0 0 = nI 0 ∧ a3 79 0 0 = b ∧ Inv t p (k + 1) a3)) (x = 1 ∧ wp_X11_brought t p (xs (i + 1).toNatClampNeg) a2 (fun _ a3 => a3 11 0 0 = nI 1 ∧ Inv t p (k + 1) a3))) dL_law_930 ?_ (Nat.le_of_ble_eq_true rfl) ⟨Nat.le_of_ble_eq_true rfl, Nat.le_of_ble_eq_true rfl⟩ ⟨by show u.1 + 1 ≤ 601024; omega, by show u.2 + 6 ≤ 7293034; omega⟩ (fun x a2 hp => ?_)
  · have e1 : ¬ (1 : Int32) = 0 := by decide
    simp only [if_pos, if_neg e1, true_and]
    exact Wq
  have e1 : ¬ (1 : Int32) = 0 := by decide
  refine xe_istore dL_law_933 (by decide) ?_
  refine xe_aload_n dL_law_935 rfl q_rvO ?_
  refine xe_aload_n dL_law_936 rfl q_rvA ?_
  refine xe_iload dL_law_937 rfl ?_
  refine xe_iconst 1 dL_law_939 (by decide) ?_
  refine xe_iadd dL_law_940 ?_
  refine xe_sld hXL dL_law_941 (hj 1 (by decide)) ?_
  by_cases cx : x = 0
  · rw [if_pos cx] at hp
    subst cx
    refine xe_cv (y' := mX11_brought) dL_law_942 (Or.inl lL_103) tX11_brought rfl rfl (ct_X11_brought hS hp) rfl rfl (Nat.le_of_ble_eq_true rfl) ⟨Nat.le_of_ble_eq_true rfl, Nat.le_of_ble_eq_true rfl⟩ ⟨by show u.1 + 1 + 0 ≤ 601024; omega, by show u.2 + 6 + 0 ≤ 7293034; omega⟩ (fun v1 h1 hl1 hk1 hm1 => ?_)
    obtain ⟨b, a3, rfl, rfl, g1, g2, g3⟩ := hk1
    refine xe_istore dL_law_945 (by decide) ?_
    refine xe_aload_n dL_law_947 rfl q_rvO ?_
    refine xe_cv (y' := mX11_thrown) dL_law_948 (Or.inl lL_104) tX11_thrown rfl rfl (ct_X11_thrown (t := t) (p := p) (post := fun r a4 => r = nI 0 ∧ a4 = a3) hS ⟨g1, rfl⟩) rfl rfl (Nat.le_of_ble_eq_true rfl) ⟨Nat.le_of_ble_eq_true rfl, Nat.le_of_ble_eq_true rfl⟩ ⟨by show u.1 + 1 + 0 + 0 ≤ 601024; omega, by show u.2 + 6 + 0 + 0 ≤ 7293034; omega⟩ (fun v1 h1 hl1 hk1 hm1 => ?_)
    obtain ⟨r, a4, rfl, rfl, rfl, rfl⟩ := hk1
    refine xe_iload dL_law_951 rfl ?_
    refine xe_ic_eq 958 dL_law_953 (by decide) (fun c => ?_) (fun c => absurd rfl c)
    refine xe_iload dL_law_958 rfl ?_
    refine xe_if_ne 975 dL_law_960 (by decide) (fun c => absurd rfl c) (fun c => ?_)
    refine xe_aload_n dL_law_963 rfl q_rvO ?_
    refine xe_iconst 0 dL_law_964 (by decide) ?_
    refine xe_lald dL_law_965 rfl (vp_in_nI (n := 0) (by decide) (by decide)) ?_
    refine xe_iload dL_law_966 rfl ?_
    refine xe_i2l dL_law_968 ?_
    refine xe_lcmp dL_law_969 ?_
    have e2 : ((a4, s) : q_H).1 79 0 (0 : Int32).toNatClampNeg = b := g2
    rw [e2, lg_cmp_0]
    refine xe_if_eq 975 dL_law_970 (by decide) (fun c => ?_) (fun c => absurd rfl c)
    refine xe_goto 1040 dL_law_975 (by decide) ?_
    refine xe_wk (ls := lw_ls sb i) ?_ rfl (hN a4 _ g3 (by show u.1 + 1 + 0 + 0 ≤ _; omega) (by show u.2 + 6 + 0 + 0 ≤ _; omega))
    intro j v hv
    match j with
    | 0 => exact hv
    | 1 => exact hv
    | 2 => exact hv
    | 3 => exact hv
    | 4 => exact hv
    | 5 => cases hv
    | 6 => cases hv
    | j + 7 => cases hv
  · rw [if_neg cx] at hp
    obtain ⟨rfl, hp⟩ := hp
    refine xe_cv (y' := mX11_brought) dL_law_942 (Or.inl lL_103) tX11_brought rfl rfl (ct_X11_brought hS hp) rfl rfl (Nat.le_of_ble_eq_true rfl) ⟨Nat.le_of_ble_eq_true rfl, Nat.le_of_ble_eq_true rfl⟩ ⟨by show u.1 + 1 + 0 ≤ 601024; omega, by show u.2 + 6 + 0 ≤ 7293034; omega⟩ (fun v1 h1 hl1 hk1 hm1 => ?_)
    obtain ⟨b, a3, rfl, rfl, g1, g3⟩ := hk1
    refine xe_istore dL_law_945 (by decide) ?_
    refine xe_aload_n dL_law_947 rfl q_rvO ?_
    refine xe_cv (y' := mX11_thrown) dL_law_948 (Or.inl lL_104) tX11_thrown rfl rfl (ct_X11_thrown (t := t) (p := p) (post := fun r a4 => r = nI 1 ∧ a4 = a3) hS ⟨g1, rfl⟩) rfl rfl (Nat.le_of_ble_eq_true rfl) ⟨Nat.le_of_ble_eq_true rfl, Nat.le_of_ble_eq_true rfl⟩ ⟨by show u.1 + 1 + 0 + 0 ≤ 601024; omega, by show u.2 + 6 + 0 + 0 ≤ 7293034; omega⟩ (fun v1 h1 hl1 hk1 hm1 => ?_)
    obtain ⟨r, a4, rfl, rfl, rfl, rfl⟩ := hk1
    refine xe_iload dL_law_951 rfl ?_
    refine xe_ic_eq 958 dL_law_953 (by decide) (fun c => ?_) (fun c => absurd rfl c)
    refine xe_iload dL_law_958 rfl ?_
    refine xe_if_ne 975 dL_law_960 (by decide) (fun c => ?_) (fun c => absurd c e1)
    refine xe_goto 1040 dL_law_975 (by decide) ?_
    refine xe_wk (ls := lw_ls sb i) ?_ rfl (hN a4 _ g3 (by show u.1 + 1 + 0 + 0 ≤ _; omega) (by show u.2 + 6 + 0 + 0 ≤ _; omega))
    intro j v hv
    match j with
    | 0 => exact hv
    | 1 => exact hv
    | 2 => exact hv
    | 3 => exact hv
    | 4 => exact hv
    | 5 => cases hv
    | 6 => cases hv
    | j + 7 => cases hv
