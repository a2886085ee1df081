def q_isR (ty : FieldType) : Bool := match ty with
  | .object _ => true
  | .array _ => true
  | _ => false
def q_sT (c k : Nat) : FieldType := match q_pk c with
  | some x => x.1
  | none => q_ty c k
def q_rf (ad : Nat → Nat → Nat) (r : Option (Nat × Nat)) : Value := match r with
  | none => .null
  | some q => .ref (ad q.1 q.2)
def q_tv (ty : FieldType) (x : Int32) (v : Value) : Value := match ty with
  | .object _ => v
  | .array _ => v
  | .long => .long x.toInt64
  | _ => .int x
def q_sv (ad : Nat → Nat → Nat) (h : q_H) (c i k : Nat) : Value := q_tv (q_sT c k) (h.1 c i k) (q_rf ad (h.2.1 c i k))
def q_ce (g : q_G) (ad : Nat → Nat → Nat) (h : q_H) (H : Heap) (c i : Nat) : Prop :=
  (∀ x, q_pk c = some x → H[ad c i]? = some (arrV (g.2.2.1 x.1) x.2 (q_sv ad h c i))) ∧ (q_pk c = none → ∃ q, q_cl[c]? = some q ∧ t_OB (ad c i) (g.2.1.1 c) q.2.2 (g.2.1.2 c) H (q_sv ad h c i))
def q_P (g : q_G) (ad : Nat → Nat → Nat) (h : q_H) (H : Heap) : Prop :=
  (∀ c i, i < h.2.2 c → q_ce g ad h H c i) ∧ (∀ c i d j, i < h.2.2 c → j < h.2.2 d → ad c i = ad d j → c = d ∧ i = j) ∧ (∀ c i, i < h.2.2 c → g.2.2.2.1 ≤ ad c i) ∧ ∀ c i k q, i < h.2.2 c → h.2.1 c i k = some q → q.2 < h.2.2 q.1
def q_A (g : q_G) : Nat → Prop := fun q => g.2.2.2.1 ≤ q
def q_X (g : q_G) : Prop := (∀ s U : State, g.2.2.2.2 s → s.WarmedH U.vm → s.heap.size ≤ U.heap.size → (∀ q : Nat, q < s.heap.size → q < g.2.2.2.1 → U.heap[q]? = s.heap[q]?) → g.2.2.2.2 U) ∧ ∀ (U : State) (f : JFrame) (mk : MethodId) (a : Array Value), g.2.2.2.2 U → g.2.2.2.2 (U.calling f mk a)
def q_K (g : q_G) (U : State) : Prop :=
  (∀ (c : Nat) (q : vw_C), q_cl[c]? = some q → u_Kn U q.1 q.2.1 q.2.2 (g.2.1.1 c) (g.2.1.2 c)) ∧ (∀ c x, q_pk c = some x → ArrOfT U (g.2.2.1 x.1) x.1 ∧ va_RA U (g.2.2.1 x.1) x.1) ∧ (∀ w ∈ q_nw, va_Nw w U) ∧ (∀ C ∈ q_ov, va_AO C U) ∧ g.2.2.2.2 U ∧ q_X g
theorem q_nw_warm {w : Cond} {s U : State} (hw : w ∈ q_nw) (hW : s.WarmedH U.vm) (h : va_Nw w s) : va_Nw w U := by
  have h1 := (List.mem_filter.mp hw).2
  cases w <;> first | exact va_Nw.warmF hW h | exact va_Nw.warmM hW h | (simp [q_isN] at h1)
theorem q_nw_tab {w : Cond} (hw : w ∈ q_nw) : w.onTables = true := by
  have h1 := (List.mem_filter.mp hw).2
  cases w <;> first | rfl | (simp [q_isN] at h1)
theorem q_K.call {g : q_G} {s U : State} {H : Heap} {locs : List Loc} (h : q_K g s) (hW : s.WarmedH U.vm) (hS : va_S (q_A g) s.heap H locs) (hU : U.heap = H) : q_K g U := by
  obtain ⟨h1, h2, h3, h4, h5, h6⟩ := h
  refine ⟨fun c q hq => u_Kn_moved hW.alike (h1 c q hq), fun c x hx => ⟨arrOfT_moved hW.alike (h2 c x hx).1, va_RA.moved hW.alike (h2 c x hx).2⟩, fun w hw => q_nw_warm hw hW (h3 w hw), fun C hC => va_AO.moved hW.alike (h4 C hC), ?_, h6⟩
  refine h6.1 s U h5 hW (by rw [hU]; exact hS.1) (fun q hq hb => ?_)
  rw [hU]
  exact hS.2.1 q hq (fun z => Nat.not_le.mpr hb z)
theorem q_K.blind {g : q_G} {U : State} {f : JFrame} {mk : MethodId} {a : Array Value} (h : q_K g U) : q_K g (U.calling f mk a) := by
  obtain ⟨h1, h2, h3, h4, h5, h6⟩ := h
  exact ⟨fun c q hq => u_Kn_moved (U := U.calling f mk a) (Vm.Alike.refl U.vm) (h1 c q hq), fun c x hx => ⟨arrOfT_moved (E := U.calling f mk a) (Vm.Alike.refl U.vm) (h2 c x hx).1, va_RA.moved (U := U.calling f mk a) (Vm.Alike.refl U.vm) (h2 c x hx).2⟩, fun w hw => va_Nw.same (u := U) (U := U.calling f mk a) (q_nw_tab hw) rfl (h3 w hw), fun C hC => va_AO.moved (U := U.calling f mk a) (Vm.Alike.refl U.vm) (h4 C hC), h6.2 U f mk a h5, h6⟩
def q_c (ad : Nat → Nat → Nat) (v : q_V) : Value := match v with
  | .inl x => x
  | .inr q => .ref (ad q.1 q.2)
def q_vk (h : q_H) (v : q_V) : Prop := match v with
  | .inl _ => True
  | .inr q => q.2 < h.2.2 q.1
def q_sc (v : q_V) : Nat := match v with
  | .inl x => x.category
  | .inr _ => 1
theorem q_c_cat (ad : Nat → Nat → Nat) (v : q_V) : (q_c ad v).category = q_sc v := by
  cases v <;> rfl
def q_L (ad : Nat → Nat → Nat) (h : q_H) (n : Nat) (ls : List (Option q_V)) (L : Array Slot) : Prop :=
  L.size = n ∧ lv_wf L ∧ ls.length = n ∧ ∀ (i : Nat) (v : q_V), ls[i]? = some (some v) → L[i]? = some (Slot.val (q_c ad v)) ∧ q_vk h v ∧ q_sc v = 1
def q_D (g : q_G) (ad0 : Nat → Nat → Nat) (n0 : Nat → Nat) (s : State) (ad : Nat → Nat → Nat) (h : q_H) (H : Heap) (locs : List Loc) : Prop :=
  q_P g ad h H ∧ va_S (q_A g) s.heap H locs ∧ ∀ c, n0 c ≤ h.2.2 c ∧ ∀ i, i < n0 c → ad c i = ad0 c i
def q_Cx (g : q_G) (y : q_M) (p : Program) (s : State) (m : MethodId) (args : Array Value) (meth : Method) (c : Code) : Prop :=
  p.tables.exec = Jvm.exec ∧ c.code = y.2.1 ∧ c.maxLocals = y.2.2.1 ∧ s.vm.findClass y.1.cls = some m.cls ∧ (∀ w ∈ q_gw, w.before args s = true) ∧ meth.sig.returnType = y.2.2.2 ∧ meth.locks = false ∧ meth.name = y.1.name ∧ q_K g s ∧ g.2.2.2.1 ≤ s.heap.size
def q_rt (y : q_M) (pc : Nat) (v : List q_V) (u : Nat × Nat) : Prop :=
  (∃ x ty, v = [q_I x] ∧ y.2.2.2 = some ty ∧ narrow ty (.int x) = .int x ∧ decode y.2.1 pc = .ok (.ireturn, 1)) ∨ (v = [] ∧ y.2.2.2 = none ∧ decode y.2.1 pc = .ok (.return_, 1)) ∨ (∃ r C, v = [r] ∧ y.2.2.2 = some (.object C) ∧ (r = q_N ∨ ∃ q, r = .inr q) ∧ decode y.2.1 pc = .ok (.areturn, 1)) ∨ (v = [] ∧ y.1.cls = RX10 ∧ y.1.name = "brought" ∧ pc = 18 ∧ u = (0, 0))
def q_F (g : q_G) (y : q_M) (R : Room) (K : List q_V → q_H → Prop) (p : Program) (e : Env) (s : State) (m : MethodId) (args : Array Value) (below : List Frame) (meth : Method) (c : Code) (Q : State → Prop) (ad0 : Nat → Nat → Nat) (n0 : Nat → Nat) : Prop :=
  ∀ (pc : Nat) (L : Array Slot) (v : List q_V) (h : q_H) (ad : Nat → Nat → Nat) (H : Heap) (locs : List Loc) (u : Nat × Nat), K v h → q_D g ad0 n0 s ad h H locs → (∀ x ∈ v, q_vk h x) → q_rt y pc v u → u.1 ≤ R.cells → u.2 ≤ R.slots → L.size = y.2.2.1 → W p g.1 e R s m args below meth c H locs u.1 u.2 Q (F0 m pc L (v.map (q_c ad)))
def q_E (g : q_G) (y : q_M) (R : Room) (K : List q_V → q_H → Prop) (u : Nat × Nat) (pc : Nat) (ls : List (Option q_V)) (st : List q_V) (h : q_H) : Prop :=
  ∀ (p : Program) (e : Env) (s : State) (m : MethodId) (args : Array Value) (below : List Frame) (meth : Method) (c : Code) (Q : State → Prop) (ad0 : Nat → Nat → Nat) (n0 : Nat → Nat) (ad : Nat → Nat → Nat) (H : Heap) (locs : List Loc) (L : Array Slot),
    q_Cx g y p s m args meth c → q_F g y R K p e s m args below meth c Q ad0 n0 → q_D g ad0 n0 s ad h H locs → q_L ad h y.2.2.1 ls L → (∀ v ∈ st, q_vk h v) → u.1 ≤ R.cells → u.2 ≤ R.slots → W p g.1 e R s m args below meth c H locs u.1 u.2 Q (F0 m pc L (st.map (q_c ad)))
theorem q_tl {P : q_V → Prop} {a : q_V} {st : List q_V} (h : ∀ v ∈ a :: st, P v) : ∀ v ∈ st, P v := fun v hv => h v (List.mem_cons_of_mem _ hv)
theorem q_hd {P : q_V → Prop} {a : q_V} {st : List q_V} (h : ∀ v ∈ a :: st, P v) : P a := h a List.mem_cons_self
theorem q_cs {P : q_V → Prop} {a : q_V} {st : List q_V} (h1 : P a) (h : ∀ v ∈ st, P v) : ∀ v ∈ a :: st, P v := fun v hv => (List.mem_cons.mp hv).elim (fun e => e ▸ h1) (h v)
def q_ll (ad : Nat → Nat → Nat) (ls : List (Option q_V)) : List (Nat × Value) := (List.range ls.length).filterMap (fun i => (ls[i]?.join).map (fun v => (i, q_c ad v)))
theorem q_ll_mem {ad : Nat → Nat → Nat} {ls : List (Option q_V)} {i : Nat} {x : Value} : (i, x) ∈ q_ll ad ls ↔ ∃ v, ls[i]? = some (some v) ∧ q_c ad v = x := by
  unfold q_ll
  rw [List.mem_filterMap]
  constructor
  · rintro ⟨j, -, h⟩
    cases hj : ls[j]? with
    | none => simp [hj] at h
    | some o =>
      cases o with
      | none => simp [hj] at h
      | some v =>
        simp [hj] at h
        obtain ⟨rfl, h2⟩ := h
        exact ⟨v, hj, h2⟩
  · rintro ⟨v, h1, h2⟩
    refine ⟨i, List.mem_range.mpr (List.getElem?_eq_some_iff.mp h1).1, ?_⟩
    simp [h1, h2]
theorem q_L.has {ad : Nat → Nat → Nat} {h : q_H} {n : Nat} {ls : List (Option q_V)} {L : Array Slot} (hL : q_L ad h n ls L) : lv_has L n (q_ll ad ls) := by
  refine ⟨hL.1, hL.2.1, fun q hq => ?_⟩
  obtain ⟨v, h1, h2⟩ := q_ll_mem.mp hq
  rw [← h2]
  exact (hL.2.2.2 _ v h1).1
theorem q_L.set {ad : Nat → Nat → Nat} {h : q_H} {n i : Nat} {ls : List (Option q_V)} {L L' : Array Slot} {v : q_V} (hL : q_L ad h n ls L) (hv : q_vk h v) (hc : q_sc v = 1) (hL' : lv_has L' n ((i, q_c ad v) :: (q_ll ad ls).filter (fun q => !(q.1 == i) && !(q.1 + 1 == i && q.2.category == 2)))) : q_L ad h n (ls.set i (some v)) L' := by
  refine ⟨hL'.1, hL'.2.1, by rw [List.length_set]; exact hL.2.2.1, fun j w hj => ?_⟩
  by_cases hji : j = i
  · subst hji
    have hlt : j < ls.length := by
      have := (List.getElem?_eq_some_iff.mp hj).1
      rwa [List.length_set] at this
    rw [List.getElem?_set_self hlt] at hj
    cases hj
    exact ⟨hL'.2.2 (j, q_c ad v) List.mem_cons_self, hv, hc⟩
  · rw [List.getElem?_set_ne (Ne.symm hji)] at hj
    obtain ⟨h1, h2, h3⟩ := hL.2.2.2 j w hj
    refine ⟨hL'.2.2 (j, q_c ad w) (List.mem_cons_of_mem _ (List.mem_filter.mpr ⟨q_ll_mem.mpr ⟨w, hj, rfl⟩, ?_⟩)), h2, h3⟩
    simp [hji, q_c_cat, h3]
