def q_Pc (g : q_G) (as : List q_V) (h : q_H) (ad : Nat → Nat → Nat) : Array Value → State → Prop := fun v U => v = (as.map (q_c ad)).toArray ∧ q_P g ad h U.heap ∧ q_K g U ∧ g.2.2.2.1 ≤ U.heap.size
def q_Qc (g : q_G) (h : q_H) (ad : Nat → Nat → Nat) (K : List q_V → q_H → Prop) : Array Value → State → Outcome → State → Prop := fun _ s0 oc t => ∃ (v : List q_V) (h' : q_H) (ad' : Nat → Nat → Nat), oc = .returned ((v.map (q_c ad')).head?) ∧ v.length ≤ 1 ∧ K v h' ∧ q_P g ad' h' t.heap ∧ (∀ x ∈ v, q_vk h' x) ∧ (∀ c, h.2.2 c ≤ h'.2.2 c ∧ ∀ i, i < h.2.2 c → ad' c i = ad c i) ∧ va_F (q_A g) s0 t
def q_Ct (g : q_G) (y : q_M) (R : Room) (as : List q_V) (h : q_H) (K : List q_V → q_H → Prop) : Prop := (∀ v ∈ as, q_vk h v) → ∀ ad, Met g.1 y.1 (q_wy y) R (q_Pc g as h ad) (q_Qc g h ad K) R.cells R.slots (q_A g)
theorem q_blind {g : q_G} {as : List q_V} {h : q_H} {ad : Nat → Nat → Nat} : FrameBlind (q_Pc g as h ad) := fun _ _ _ _ q => ⟨q.1, q.2.1, q.2.2.1.blind, q.2.2.2⟩
theorem q_args : ∀ (vs : List Value) (k : Nat), (∀ v ∈ vs, v.category = 1) → ∀ (i : Nat) (v : Value), vs[i]? = some v → (k + i, v) ∈ lv_args k vs := by
  intro vs
  induction vs with
  | nil => intro k _ i v hi; simp at hi
  | cons a vs ih =>
    intro k hc i v hi
    have ha : ¬ a.category = 2 := by
      have := hc a List.mem_cons_self
      omega
    unfold lv_args
    rw [if_neg ha]
    cases i with
    | zero =>
      simp at hi
      subst hi
      exact List.mem_cons_self
    | succ i =>
      have := ih (k + 1) (fun v hv => hc v (List.mem_cons_of_mem _ hv)) i v (by simpa using hi)
      rw [show k + (i + 1) = k + 1 + i by omega]
      exact List.mem_cons_of_mem _ this
theorem q_sl : ∀ (vs : List Value), (∀ v ∈ vs, v.category = 1) → (lg_sl vs).length = vs.length := by
  intro vs
  induction vs with
  | nil => intro _; rfl
  | cons a vs ih =>
    intro hc
    have ha : ¬ a.category = 2 := by
      have := hc a List.mem_cons_self
      omega
    have h2 := ih (fun v hv => hc v (List.mem_cons_of_mem _ hv))
    unfold lg_sl at h2 ⊢
    simp [List.flatMap_cons, ha, h2]
theorem q_mk {g : q_G} {y : q_M} {R : Room} {K : List q_V → q_H → Prop} {as : List q_V} {ls : List (Option q_V)} {h : q_H} (hpl : plainName y.1.cls = true) (hls : ls = as.map some ++ List.replicate (y.2.2.1 - as.length) none) (hn : as.length ≤ y.2.2.1) (hc : ∀ v ∈ as, q_sc v = 1) (hE : (∀ v ∈ as, q_vk h v) → q_E g y R K (0, 0) 0 ls [] h) (hne : y.1.name ≠ "brought" ∨ y.1.cls ≠ RX10 := by first | exact Or.inl (by decide +kernel) | exact Or.inr (by decide +kernel)) : q_Ct g y R as h K := by
  intro hvk ad
  refine Met.ofW (cc := y.2.1) (maxL := y.2.2.1) (ret := y.2.2.2) hpl rfl ?_
  intro p e s m args below meth c s₁ B hml hv
  obtain ⟨rfl, hP, hK, hbs⟩ := hv
  have hx := B.exec
  have hb := B.bytes
  have hr := B.returns
  have hts := atoms_spec (ws := q_wy y) B.pre
  have hown : s.vm.findClass y.1.cls = some m.cls := findClass_of_methodNamed B.named
  have hlocks := B.notSynchronized
  have hnm : meth.name = y.1.name := (name_of_methodNamed B.named B.method).1
  have hcat : ∀ v ∈ as.map (q_c ad), v.category = 1 := by
    intro v hv
    obtain ⟨w, hw, rfl⟩ := List.mem_map.mp hv
    rw [q_c_cat]
    exact hc w hw
  have hlen : (lg_sl (as.map (q_c ad))).length = as.length := by rw [q_sl _ hcat, List.length_map]
  have hl := lv_entry (as.map (q_c ad)) (n := y.2.2.1) (by rw [hlen]; exact hn)
  rw [lg_entry_eq]
  generalize (lg_sl (as.map (q_c ad)) ++ List.replicate (y.2.2.1 - (lg_sl (as.map (q_c ad))).length) Slot.unset).toArray = L at hl ⊢
  have hL : q_L ad h y.2.2.1 ls L := by
    refine ⟨hl.1, hl.2.1, by rw [hls, List.length_append, List.length_map, List.length_replicate]; omega, fun i v hi => ?_⟩
    rw [hls] at hi
    by_cases hil : i < as.length
    · rw [List.getElem?_append_left (by rw [List.length_map]; exact hil), List.getElem?_map] at hi
      cases ha : as[i]? with
      | none => rw [ha] at hi; simp at hi
      | some w =>
        rw [ha] at hi
        simp at hi
        subst hi
        have hmem : w ∈ as := List.mem_of_getElem? ha
        refine ⟨?_, hvk w hmem, hc w hmem⟩
        have := q_args (as.map (q_c ad)) 0 hcat i (q_c ad w) (by rw [List.getElem?_map, ha]; rfl)
        rw [Nat.zero_add] at this
        exact hl.2.2 (i, q_c ad w) this
    · rw [List.getElem?_append_right (by rw [List.length_map]; omega), List.getElem?_replicate] at hi
      split at hi <;> simp at hi
  refine hE hvk p e s m _ below meth c _ ad h.2.2 ad s.heap [] L ⟨hx, hb, hml, hown, fun w hw => hts w (List.mem_cons_of_mem _ hw), hr, hlocks, hnm, hK, hbs⟩ ?_ ⟨hP, va_S.rf, fun c => ⟨Nat.le_refl _, fun _ _ => rfl⟩⟩ hL (fun v hv => by cases hv) (Nat.zero_le _) (Nat.zero_le _)
  intro pc L1 v h1 ad1 H locs u hk D hvv hrt hu1 hu2 _
  refine W.widen hu1 hu2 ?_
  have hq : v.length ≤ 1 → ∀ t : State, t.heap = H → s.WarmedH t.vm → q_Qc g h ad K (as.map (q_c ad)).toArray s (.returned ((v.map (q_c ad1)).head?)) t := fun hl1 t ht _ => ⟨v, h1, ad1, rfl, hl1, hk, by rw [ht]; exact D.1, hvv, D.2.2, D.2.1.F ht⟩
  rcases hrt with ⟨x, ty, rfl, hy, hnn, hd⟩ | ⟨rfl, hy, hd⟩ | ⟨r, C0, rfl, hy, hrr, hd⟩ | ⟨-, z1, z2, -, -⟩
  · exact W.zret hx hb (hr.trans hy) hnn (hq (Nat.le_refl _)) D.2.1.2.2 hd
  · exact W.vret hx hb (hr.trans hy) (hq (Nat.zero_le _)) D.2.1.2.2 hd
  · refine W.aret hx hb (hr.trans hy) (Or.inl ⟨_, rfl⟩) ?_ (hq (Nat.le_refl _)) D.2.1.2.2 hd
    rcases hrr with rfl | ⟨q, rfl⟩
    · exact Or.inl rfl
    · exact Or.inr ⟨_, rfl⟩
  · exact absurd hne (fun z => z.elim (fun w => w z2) (fun w => w z1))
theorem q_good {y : q_M} (h : Cond.code y.1 y.2.1 y.2.2.1 y.2.2.2 ∈ q_gw) : GoodIn q_gw (q_wy y) := by
  intro w hw
  rcases List.mem_cons.mp hw with rfl | hw
  · exact ⟨h, good_of_word (List.mem_filter.mp h).2⟩
  · exact ⟨hw, good_of_word (List.mem_filter.mp hw).2⟩
theorem q_tL {v : List Value} (h : v.length ≤ 1) : v.head?.toList = v := by
  match v, h with
  | [], _ => rfl
  | [x], _ => rfl
section QCA
variable {g : q_G} {y : q_M} {R : Room} {K : List q_V → q_H → Prop} {u : Nat × Nat} {pc : Nat} {ls : List (Option q_V)} {st : List q_V} {h : q_H}
theorem q_goes {p : Program} {e : Env} {s : State} {m : MethodId} {args : Array Value} {below : List Frame} {meth : Method} {c0 : Code} {Q : State → Prop} {ad0 : Nat → Nat → Nat} {n0 : Nat → Nat} {ad : Nat → Nat → Nat} {H : Heap} {locs : List Loc} {L : Array Slot} {R' : Room} {K' : List q_V → q_H → Prop} {rest : List q_V} {a : Array Value} {st0 : List Value} (C : q_Cx g y p s m args meth c0) (F : q_F g y R K p e s m args below meth c0 Q ad0 n0) (hr : va_Run p g.1 e R s m args below meth c0 H locs u.1 u.2 R'.cells R'.slots (F0 m pc L st0) (rest.map (q_c ad)) (q_Qc g h ad K' a) (q_A g)) (D : q_D g ad0 n0 s ad h H locs) (hL : q_L ad h y.2.2.1 ls L) (hv : ∀ v ∈ rest, q_vk h v) (hm : u.1 + R'.cells ≤ R.cells ∧ u.2 + R'.slots ≤ R.slots)
    (kk : ∀ v h', v.length ≤ 1 → K' v h' → (∀ c, h.2.2 c ≤ h'.2.2 c) → q_E g y R K (u.1 + R'.cells, u.2 + R'.slots) (pc + 3) ls (v ++ rest) h') : W p g.1 e R s m args below meth c0 H locs u.1 u.2 Q (F0 m pc L st0) := by
  intro T hT X
  obtain ⟨vv, st₀, t, T', Ls, h0, X', hLs, e1, e2, ⟨v, h', ad', hvv, hlen, hk, hP, hvk, hex, hF⟩, hgo⟩ := hr T hT X
  cases hvv
  have D2 : q_D g ad0 n0 s ad' h' T'.heap (locs ++ Ls) := by
    obtain ⟨-, hS, hE⟩ := D
    rw [e1]
    unfold va_F at hF
    rw [h0] at hF
    refine ⟨hP, ⟨Nat.le_trans hS.1 hF.1, fun q a1 a2 => (hF.2 q (Nat.lt_of_lt_of_le a1 hS.1) a2).trans (hS.2.1 q a1 a2), fun q hq => ?_⟩, fun c => ⟨Nat.le_trans (hE c).1 (hex c).1, fun i hi => ((hex c).2 i (Nat.lt_of_lt_of_le hi (hE c).1)).trans ((hE c).2 i hi)⟩⟩
    rcases List.mem_append.mp hq with z | z
    · exact hS.2.2 q z
    · exact hLs q z
  have hvr : ∀ x ∈ v ++ rest, q_vk h' x := by
    intro x hx
    rcases List.mem_append.mp hx with z | z
    · exact hvk x z
    · exact q_vm hv (fun c => (hex c).1) x z
  obtain ⟨t2, a1, b1⟩ := kk v h' hlen hk (fun c => (hex c).1) p e s m args below meth c0 Q ad0 n0 ad' T'.heap (locs ++ Ls) L C F D2 (hL.ext (fun c i hi => (hex c).2 i hi) (fun c => (hex c).1)) hvr hm.1 hm.2 T' rfl X'
  refine ⟨t2, hgo t2 ?_, b1⟩
  rw [q_ext hv (fun c i hi => (hex c).2 i hi), q_tL (by rw [List.length_map]; exact hlen), ← List.map_append]
  exact a1
theorem xe_cv {y' : q_M} {idx n c i : Nat} {as rest : List q_V} {R' : Room} {K' : List q_V → q_H → Prop} {q : vw_C} (hd : decode y.2.1 pc = .ok (.invokevirtual idx, 3)) (hk : q_lk y y' idx) (hs : q_mV y' n) (hq : q_cl[c]? = some q) (hqn : q.1 = y'.1.cls) (hC : q_Ct g y' R' (q_O c i :: as) h K') (hst : st = as.reverse ++ q_O c i :: rest) (hn : as.length = n) (hw : (rest.map q_sc).sum ≤ 8) (hR : R'.frames + 1 ≤ R.frames ∧ 8 + (y'.2.2.1 + 11) + R'.locals ≤ R.locals) (hm : u.1 + R'.cells ≤ R.cells ∧ u.2 + R'.slots ≤ R.slots) (kk : ∀ v h', v.length ≤ 1 → K' v h' → (∀ c, h.2.2 c ≤ h'.2.2 c) → q_E g y R K (u.1 + R'.cells, u.2 + R'.slots) (pc + 3) ls (v ++ rest) h') : q_E g y R K u pc ls st h := by
  intro p e s m args below meth c0 Q ad0 n0 ad H locs L C F D hL hv h1 h2
  subst hst
  have hvr : ∀ v ∈ rest, q_vk h v := fun v hm => hv v (List.mem_append_right _ (List.mem_cons_of_mem _ hm))
  have hva : ∀ v ∈ q_O c i :: as, q_vk h v := fun v hm => (List.mem_cons.mp hm).elim (fun e => e ▸ hv _ (List.mem_append_right _ List.mem_cons_self)) (fun z => hv v (List.mem_append_left _ (List.mem_reverse.mpr z)))
  have hi : i < h.2.2 c := hv (q_O c i) (List.mem_append_right _ List.mem_cons_self)
  obtain ⟨hx, hb, hml, hown, hts, -, -, -, hK, hbs⟩ := id C
  obtain ⟨⟨hini, hcode, hdd⟩, hinst, hsel⟩ := hs
  obtain ⟨cell, q1, q2, q3, -⟩ := q_obj D.1 hi hq
  have hpre : PreV s H y'.1.cls (ad c i) (q_Pc g (q_O c i :: as) h ad) (as.map (q_c ad)) := ⟨q_blind, ⟨cell, q1, by rw [q3]; rfl, by rw [q2, ← hqn]; exact (hK.1 c q hq).2.1⟩, fun U hU hW => ⟨rfl, by rw [hU]; exact D.1, hK.call hW D.2.1 hU, by rw [hU]; exact Nat.le_trans hbs D.2.1.1⟩⟩
  have hstk : (F0 m pc L ((as.reverse ++ q_O c i :: rest).map (q_c ad))).stack = (as.map (q_c ad)).reverse ++ .ref (ad c i) :: rest.map (q_c ad) := by
    show (as.reverse ++ q_O c i :: rest).map (q_c ad) = _
    rw [List.map_append, List.map_reverse]
    rfl
  have hcats : ((rest.map (q_c ad)).map fun v => v.category).sum ≤ 8 := by
    rw [List.map_map]
    have e : ((fun v : Value => v.category) ∘ q_c ad) = q_sc := funext (fun v => q_c_cat ad v)
    rw [e]
    exact hw
  rcases hk with hk | ⟨host, hk⟩
  · exact q_goes C F (va_runV (Ts := q_gw) ⟨hx, hb, hml, hown, hts⟩ (hC hva ad) ⟨callB_of n hts (q_good hcode) rfl rfl rfl (hts _ hini) (hts _ hk) hdd hR, hts _ hinst, hts _ hsel⟩ hpre rfl (by rw [List.length_map]; exact hn) hL.1 hstk (lv_room hcats) hd hm) D hL hvr hm kk
  · exact q_goes C F (va_runVN (Ts := q_gw) ⟨hx, hb, hml, hown, hts⟩ (hC hva ad) ⟨va_cnB n hts (q_good hcode) rfl rfl rfl (hK.2.2.1 _ hk) (hts _ hini) hdd hR, hts _ hinst, hts _ hsel⟩ hpre rfl (by rw [List.length_map]; exact hn) hL.1 hstk (lv_room hcats) hd hm) D hL hvr hm kk
theorem xe_cs {y' : q_M} {idx n : Nat} {as rest : List q_V} {R' : Room} {K' : List q_V → q_H → Prop} (hd : decode y.2.1 pc = .ok (.invokestatic idx, 3)) (hk : q_lk y y' idx) (hs : q_mS y' n) (hC : q_Ct g y' R' as h K') (hst : st = as.reverse ++ rest) (hn : as.length = n) (hw : (rest.map q_sc).sum ≤ 8) (hR : R'.frames + 1 ≤ R.frames ∧ 8 + (y'.2.2.1 + 11) + R'.locals ≤ R.locals) (hm : u.1 + R'.cells ≤ R.cells ∧ u.2 + R'.slots ≤ R.slots) (kk : ∀ v h', v.length ≤ 1 → K' v h' → (∀ c, h.2.2 c ≤ h'.2.2 c) → q_E g y R K (u.1 + R'.cells, u.2 + R'.slots) (pc + 3) ls (v ++ rest) h') : q_E g y R K u pc ls st h := by
  intro p e s m args below meth c0 Q ad0 n0 ad H locs L C F D hL hv h1 h2
  subst hst
  have hvr : ∀ v ∈ rest, q_vk h v := fun v hm => hv v (List.mem_append_right _ hm)
  have hva : ∀ v ∈ as, q_vk h v := fun v hm => hv v (List.mem_append_left _ (List.mem_reverse.mpr hm))
  obtain ⟨hx, hb, hml, hown, hts, -, -, -, hK, hbs⟩ := id C
  obtain ⟨⟨hini, hcode, hdd⟩, hstt⟩ := hs
  have hpre : PreS s H (q_Pc g as h ad) (as.map (q_c ad)) := ⟨q_blind, fun U hU hW => ⟨rfl, by rw [hU]; exact D.1, hK.call hW D.2.1 hU, by rw [hU]; exact Nat.le_trans hbs D.2.1.1⟩⟩
  have hstk : (F0 m pc L ((as.reverse ++ rest).map (q_c ad))).stack = (as.map (q_c ad)).reverse ++ rest.map (q_c ad) := by
    show (as.reverse ++ rest).map (q_c ad) = _
    rw [List.map_append, List.map_reverse]
  have hcats : ((rest.map (q_c ad)).map fun v => v.category).sum ≤ 8 := by
    rw [List.map_map]
    have e : ((fun v : Value => v.category) ∘ q_c ad) = q_sc := funext (fun v => q_c_cat ad v)
    rw [e]
    exact hw
  rcases hk with hk | ⟨host, hk⟩
  · exact q_goes C F (va_runS (Ts := q_gw) ⟨hx, hb, hml, hown, hts⟩ (hC hva ad) ⟨callB_of n hts (q_good hcode) rfl rfl rfl (hts _ hini) (hts _ hk) hdd hR, hts _ hstt⟩ hpre rfl (by rw [List.length_map]; exact hn) hL.1 hstk (lv_room hcats) hd hm) D hL hvr hm kk
  · exact q_goes C F (va_runSN (Ts := q_gw) ⟨hx, hb, hml, hown, hts⟩ (hC hva ad) ⟨va_cnB n hts (q_good hcode) rfl rfl rfl (hK.2.2.1 _ hk) (hts _ hini) hdd hR, hts _ hstt, trivial⟩ hpre rfl (by rw [List.length_map]; exact hn) hL.1 hstk (lv_room hcats) hd hm) D hL hvr hm kk
theorem xe_ci {y' : q_M} {idx n c i : Nat} {as rest : List q_V} {R' : Room} {K' : List q_V → q_H → Prop} (hd : decode y.2.1 pc = .ok (.invokespecial idx, 3)) (hk : q_lk y y' idx) (hs : q_mI y' n) (hC : q_Ct g y' R' (q_O c i :: as) h K') (hst : st = as.reverse ++ q_O c i :: rest) (hn : as.length = n) (hw : (rest.map q_sc).sum ≤ 8) (hR : R'.frames + 1 ≤ R.frames ∧ 8 + (y'.2.2.1 + 11) + R'.locals ≤ R.locals) (hm : u.1 + R'.cells ≤ R.cells ∧ u.2 + R'.slots ≤ R.slots) (kk : ∀ v h', v.length ≤ 1 → K' v h' → (∀ c, h.2.2 c ≤ h'.2.2 c) → q_E g y R K (u.1 + R'.cells, u.2 + R'.slots) (pc + 3) ls (v ++ rest) h') : q_E g y R K u pc ls st h := by
  intro p e s m args below meth c0 Q ad0 n0 ad H locs L C F D hL hv h1 h2
  subst hst
  have hvr : ∀ v ∈ rest, q_vk h v := fun v hm => hv v (List.mem_append_right _ (List.mem_cons_of_mem _ hm))
  have hva : ∀ v ∈ q_O c i :: as, q_vk h v := fun v hm => (List.mem_cons.mp hm).elim (fun e => e ▸ hv _ (List.mem_append_right _ List.mem_cons_self)) (fun z => hv v (List.mem_append_left _ (List.mem_reverse.mpr z)))
  obtain ⟨hx, hb, hml, hown, hts, -, -, -, hK, hbs⟩ := id C
  obtain ⟨⟨hini, hcode, hdd⟩, hnm, hinst, hret⟩ := hs
  have hpre : PreS s H (q_Pc g (q_O c i :: as) h ad) (.ref (ad c i) :: as.map (q_c ad)) := ⟨q_blind, fun U hU hW => ⟨rfl, by rw [hU]; exact D.1, hK.call hW D.2.1 hU, by rw [hU]; exact Nat.le_trans hbs D.2.1.1⟩⟩
  have hstk : (F0 m pc L ((as.reverse ++ q_O c i :: rest).map (q_c ad))).stack = (as.map (q_c ad)).reverse ++ .ref (ad c i) :: rest.map (q_c ad) := by
    show (as.reverse ++ q_O c i :: rest).map (q_c ad) = _
    rw [List.map_append, List.map_reverse]
    rfl
  have hcats : ((rest.map (q_c ad)).map fun v => v.category).sum ≤ 8 := by
    rw [List.map_map]
    have e : ((fun v : Value => v.category) ∘ q_c ad) = q_sc := funext (fun v => q_c_cat ad v)
    rw [e]
    exact hw
  have hwy : q_wy y' = Cond.code y'.1 y'.2.1 y'.2.2.1 none :: q_gw := by
    unfold q_wy
    rw [hret]
  rcases hk with hk | ⟨host, hk⟩
  · exact q_goes C F (va_runI (Ts := q_gw) ⟨hx, hb, hml, hown, hts⟩ (hC hva ad) ⟨callB_of n hts (q_good hcode) hwy rfl rfl (hts _ hini) (hts _ hk) hdd hR, hnm, hts _ hinst⟩ hpre rfl (by rw [List.length_map]; exact hn) hL.1 hstk (lv_room hcats) hd hm) D hL hvr hm kk
  · exact q_goes C F (va_runIN (Ts := q_gw) ⟨hx, hb, hml, hown, hts⟩ (hC hva ad) ⟨va_cnB n hts (q_good hcode) hwy rfl rfl (hK.2.2.1 _ hk) (hts _ hini) hdd hR, hnm, hts _ hinst⟩ hpre rfl (by rw [List.length_map]; exact hn) hL.1 hstk (lv_room hcats) hd hm) D hL hvr hm kk
theorem xe_obj {idx : Nat} {c i : Nat} (hd : decode y.2.1 pc = .ok (.invokespecial idx, 3)) (hk : Cond.methodLink y.1.cls idx objectInit ∈ q_gw ∧ Cond.instanceMethod objectInit ∈ q_gw ∧ Cond.code objectInit ⟨#[0xb1]⟩ 1 none ∈ q_gw) (hw : (st.map q_sc).sum ≤ 8) (hR : 1 ≤ R.frames ∧ 20 ≤ R.locals) (kk : q_E g y R K u (pc + 3) ls st h) : q_E g y R K u pc ls (q_O c i :: st) h := by
  intro p e s m args below meth c0 Q ad0 n0 ad H locs L C F D hL hv h1 h2
  have k2 := kk p e s m args below meth c0 Q ad0 n0 ad H locs L C F D hL (q_tl hv) h1 h2
  obtain ⟨hx, hb, hml, hown, hts, -, -, -, hK, hbs⟩ := id C
  have hcats : ((st.map (q_c ad)).map fun v => v.category).sum ≤ 8 := by
    rw [List.map_map]
    have e : ((fun v : Value => v.category) ∘ q_c ad) = q_sc := funext (fun v => q_c_cat ad v)
    rw [e]
    exact hw
  exact W.objInit hx hb hown (hts _ hk.1) (hts _ hk.2.1) (hts _ hk.2.2) rfl (by rw [hml]; exact hL.1) rfl hd hR.1 (by show 2 * 0 + _ + 12 ≤ _; omega) k2
theorem xe_mmax {idx : Nat} {x z : Int32} (hd : decode y.2.1 pc = .ok (.invokestatic idx, 3)) (hk : Cond.methodLink y.1.cls idx Lib.Math.max.name ∈ q_gw ∧ Cond.static Lib.Math.max.name ∈ q_gw ∧ Cond.initialized "java/lang/Math" ∈ q_gw ∧ Cond.code Lib.Math.max.name Lib.Math.max.code 2 (some .int) ∈ q_gw) (hw : (st.map q_sc).sum ≤ 8) (hR : 1 ≤ R.frames ∧ 21 ≤ R.locals) (kk : q_E g y R K u (pc + 3) ls (q_I (if x < z then z else x) :: st) h) : q_E g y R K u pc ls (q_I z :: q_I x :: st) h := by
  intro p e s m args below meth c0 Q ad0 n0 ad H locs L C F D hL hv h1 h2
  have k2 := kk p e s m args below meth c0 Q ad0 n0 ad H locs L C F D hL (q_cs trivial (q_tl (q_tl hv))) h1 h2
  obtain ⟨hx, hb, hml, hown, hts, -, -, -, hK, hbs⟩ := id C
  have hcats : ((st.map (q_c ad)).map fun v => v.category).sum ≤ 8 := by
    rw [List.map_map]
    have e : ((fun v : Value => v.category) ∘ q_c ad) = q_sc := funext (fun v => q_c_cat ad v)
    rw [e]
    exact hw
  exact va_mmax hx hb (by rw [hml]; exact hL.1.symm) hown (hts _ hk.1) (hts _ hk.2.1) (hts _ hk.2.2.1) (hts _ hk.2.2.2) hR.1 (by omega) h1 h2 hd k2
theorem xe_mmin {idx : Nat} {x z : Int32} (hd : decode y.2.1 pc = .ok (.invokestatic idx, 3)) (hk : Cond.methodLink y.1.cls idx Lib.Math.min.name ∈ q_gw ∧ Cond.static Lib.Math.min.name ∈ q_gw ∧ Cond.initialized "java/lang/Math" ∈ q_gw ∧ Cond.code Lib.Math.min.name Lib.Math.min.code 2 (some .int) ∈ q_gw) (hw : (st.map q_sc).sum ≤ 8) (hR : 1 ≤ R.frames ∧ 21 ≤ R.locals) (kk : q_E g y R K u (pc + 3) ls (q_I (if z < x then z else x) :: st) h) : q_E g y R K u pc ls (q_I z :: q_I x :: st) h := by
  intro p e s m args below meth c0 Q ad0 n0 ad H locs L C F D hL hv h1 h2
  have k2 := kk p e s m args below meth c0 Q ad0 n0 ad H locs L C F D hL (q_cs trivial (q_tl (q_tl hv))) h1 h2
  obtain ⟨hx, hb, hml, hown, hts, -, -, -, hK, hbs⟩ := id C
  have hcats : ((st.map (q_c ad)).map fun v => v.category).sum ≤ 8 := by
    rw [List.map_map]
    have e : ((fun v : Value => v.category) ∘ q_c ad) = q_sc := funext (fun v => q_c_cat ad v)
    rw [e]
    exact hw
  exact va_mmin hx hb (by rw [hml]; exact hL.1.symm) hown (hts _ hk.1) (hts _ hk.2.1) (hts _ hk.2.2.1) (hts _ hk.2.2.2) hR.1 (by omega) h1 h2 hd k2
theorem xe_mabs {idx : Nat} {x : Int32} (hd : decode y.2.1 pc = .ok (.invokestatic idx, 3)) (hk : Cond.methodLink y.1.cls idx Lib.Math.abs.name ∈ q_gw ∧ Cond.static Lib.Math.abs.name ∈ q_gw ∧ Cond.initialized "java/lang/Math" ∈ q_gw ∧ Cond.code Lib.Math.abs.name Lib.Math.abs.code 1 (some .int) ∈ q_gw) (hw : (st.map q_sc).sum ≤ 8) (hR : 1 ≤ R.frames ∧ 21 ≤ R.locals) (kk : q_E g y R K u (pc + 3) ls (q_I (if 0 ≤ x then x else 0 - x) :: st) h) : q_E g y R K u pc ls (q_I x :: st) h := by
  intro p e s m args below meth c0 Q ad0 n0 ad H locs L C F D hL hv h1 h2
  have k2 := kk p e s m args below meth c0 Q ad0 n0 ad H locs L C F D hL (q_cs trivial (q_tl hv)) h1 h2
  obtain ⟨hx, hb, hml, hown, hts, -, -, -, hK, hbs⟩ := id C
  have hcats : ((st.map (q_c ad)).map fun v => v.category).sum ≤ 8 := by
    rw [List.map_map]
    have e : ((fun v : Value => v.category) ∘ q_c ad) = q_sc := funext (fun v => q_c_cat ad v)
    rw [e]
    exact hw
  exact va_mabs hx hb (by rw [hml]; exact hL.1.symm) hown (hts _ hk.1) (hts _ hk.2.1) (hts _ hk.2.2.1) (hts _ hk.2.2.2) hR.1 (by omega) h1 h2 hd k2
end QCA
