theorem q_def {ty : FieldType} (h : ty ≠ .float ∧ ty ≠ .double) : q_tv ty 0 .null = defaultValue ty := by
  cases ty <;> first | rfl | exact absurd rfl h.1 | exact absurd rfl h.2 | decide
theorem q_pk_nf : ∀ c x, q_pk c = some x → x.1 ≠ .float ∧ x.1 ≠ .double := by
  intro c x hx
  unfold q_pk at hx
  split at hx <;> first | (cases hx; exact ⟨by decide, by decide⟩) | (cases hx)
def q_ad (ad : Nat → Nat → Nat) (c n a : Nat) : Nat → Nat → Nat := fun d j => if d = c ∧ j = n then a else ad d j
theorem q_ext {h : q_H} {ad ad' : Nat → Nat → Nat} {st : List q_V} (hv : ∀ v ∈ st, q_vk h v) (he : ∀ c i, i < h.2.2 c → ad' c i = ad c i) : st.map (q_c ad) = st.map (q_c ad') := by
  apply List.map_congr_left
  intro v hm
  have h1 := hv v hm
  cases v with
  | inl x => rfl
  | inr q =>
    show Value.ref (ad q.1 q.2) = Value.ref (ad' q.1 q.2)
    rw [he q.1 q.2 h1]
theorem q_L.ext {ad ad' : Nat → Nat → Nat} {h h' : q_H} {n : Nat} {ls : List (Option q_V)} {L : Array Slot} (hL : q_L ad h n ls L) (he : ∀ c i, i < h.2.2 c → ad' c i = ad c i) (hm : ∀ c, h.2.2 c ≤ h'.2.2 c) : q_L ad' h' n ls L := by
  refine ⟨hL.1, hL.2.1, hL.2.2.1, fun i v hi => ?_⟩
  obtain ⟨a1, a2, a3⟩ := hL.2.2.2 i v hi
  cases v with
  | inl x => exact ⟨a1, trivial, a3⟩
  | inr q =>
    refine ⟨?_, Nat.lt_of_lt_of_le a2 (hm q.1), a3⟩
    rw [a1]
    show some (Slot.val (Value.ref (ad q.1 q.2))) = some (Slot.val (Value.ref (ad' q.1 q.2)))
    rw [he q.1 q.2 a2]
theorem q_vm {h h' : q_H} {st : List q_V} (hv : ∀ v ∈ st, q_vk h v) (hm : ∀ c, h.2.2 c ≤ h'.2.2 c) : ∀ v ∈ st, q_vk h' v := by
  intro v hmem
  have h1 := hv v hmem
  cases v with
  | inl x => exact trivial
  | inr q => exact Nat.lt_of_lt_of_le h1 (hm q.1)
theorem q_nu_le (h : q_H) (c d : Nat) : h.2.2 d ≤ (q_nu h c).2.2 d := by
  show h.2.2 d ≤ if d = c then h.2.2 c + 1 else h.2.2 d
  by_cases e : d = c
  · subst e
    rw [if_pos rfl]
    exact Nat.le_succ _
  · rw [if_neg e]
    exact Nat.le_refl _
theorem q_ad_old {h : q_H} {ad : Nat → Nat → Nat} {c a : Nat} : ∀ d i, i < h.2.2 d → q_ad ad c (h.2.2 c) a d i = ad d i := by
  intro d i hi
  unfold q_ad
  rw [if_neg]
  rintro ⟨rfl, rfl⟩
  exact Nat.lt_irrefl _ hi
theorem q_D.new {g : q_G} {ad0 : Nat → Nat → Nat} {n0 : Nat → Nat} {s : State} {ad : Nat → Nat → Nat} {h : q_H} {H H1 : Heap} {locs : List Loc} {c : Nat} (D : q_D g ad0 n0 s ad h H locs) (hbs : g.2.2.2.1 ≤ s.heap.size) (hce : (∀ x, q_pk c = some x → H1[H.size]? = some (arrV (g.2.2.1 x.1) x.2 (fun j => q_tv (q_sT c j) 0 .null))) ∧ (q_pk c = none → ∃ q, q_cl[c]? = some q ∧ t_OB H.size (g.2.1.1 c) q.2.2 (g.2.1.2 c) H1 (fun k => q_tv (q_sT c k) 0 .null))) (z : H.size ≤ H1.size) (oq : ∀ q : Nat, q < H.size → H1[q]? = H[q]?) : q_D g ad0 n0 s (q_ad ad c (h.2.2 c) H.size) (q_nu h c) H1 locs := by
  obtain ⟨⟨p1, p2, p3, p4⟩, hS, hE⟩ := D
  have hold : ∀ d j, j < h.2.2 d → ad d j < H.size := by
    intro d j hj
    obtain ⟨a1, a2⟩ := p1 d j hj
    cases hp : q_pk d with
    | some x => exact (Array.getElem?_eq_some_iff.mp (a1 x hp)).1
    | none =>
      obtain ⟨q, -, cell, b2, -⟩ := a2 hp
      exact (Array.getElem?_eq_some_iff.mp b2).1
  have hcase : ∀ d j, j < (q_nu h c).2.2 d → j < h.2.2 d ∨ (d = c ∧ j = h.2.2 c) := by
    intro d j hj
    have hj2 : j < (if d = c then h.2.2 c + 1 else h.2.2 d) := hj
    by_cases e : d = c
    · subst e
      rw [if_pos rfl] at hj2
      rcases Nat.lt_or_ge j (h.2.2 d) with q | q
      · exact Or.inl q
      · exact Or.inr ⟨rfl, by omega⟩
    · rw [if_neg e] at hj2
      exact Or.inl hj2
  have hnew : q_ad ad c (h.2.2 c) H.size c (h.2.2 c) = H.size := if_pos ⟨rfl, rfl⟩
  have hrf : ∀ r : Option (Nat × Nat), (∀ q, r = some q → q.2 < h.2.2 q.1) → q_rf (q_ad ad c (h.2.2 c) H.size) r = q_rf ad r := by
    intro r hr
    cases r with
    | none => rfl
    | some q =>
      show Value.ref _ = Value.ref _
      rw [q_ad_old q.1 q.2 (hr q rfl)]
  refine ⟨⟨fun d j hj => ?_, fun d j d' j' hj hj' he => ?_, fun d j hj => ?_, fun d j k q hj hq => ?_⟩, ⟨Nat.le_trans hS.1 z, fun q h1 h2 => (oq q (Nat.lt_of_lt_of_le h1 hS.1)).trans (hS.2.1 q h1 h2), hS.2.2⟩, fun d => ⟨Nat.le_trans (hE d).1 (q_nu_le h c d), fun i hi => ?_⟩⟩
  · rcases hcase d j hj with q | ⟨rfl, rfl⟩
    · have hne : ¬ (d = c ∧ j = h.2.2 c) := by
        rintro ⟨rfl, rfl⟩
        exact Nat.lt_irrefl _ q
      have hs : q_sv (q_ad ad c (h.2.2 c) H.size) (q_nu h c) d j = q_sv ad h d j := by
        funext k
        unfold q_sv
        have e1 : (q_nu h c).1 d j k = h.1 d j k := if_neg hne
        have e2 : (q_nu h c).2.1 d j k = h.2.1 d j k := if_neg hne
        rw [e1, e2, hrf _ (fun r hr => p4 d j k r q hr)]
      obtain ⟨a1, a2⟩ := p1 d j q
      unfold q_ce
      rw [q_ad_old d j q, hs]
      refine ⟨fun x hx => ?_, fun hx => ?_⟩
      · rw [oq _ (hold d j q)]
        exact a1 x hx
      · obtain ⟨r, b1, b2⟩ := a2 hx
        exact ⟨r, b1, b2.kept (oq _ (hold d j q))⟩
    · have hs : q_sv (q_ad ad d (h.2.2 d) H.size) (q_nu h d) d (h.2.2 d) = (fun k => q_tv (q_sT d k) 0 .null) := by
        funext k
        unfold q_sv
        have e1 : (q_nu h d).1 d (h.2.2 d) k = 0 := if_pos ⟨rfl, rfl⟩
        have e2 : (q_nu h d).2.1 d (h.2.2 d) k = none := if_pos ⟨rfl, rfl⟩
        rw [e1, e2]
        rfl
      unfold q_ce
      rw [hnew, hs]
      exact hce
  · rcases hcase d j hj with q | ⟨rfl, rfl⟩
    · rcases hcase d' j' hj' with q' | ⟨rfl, rfl⟩
      · rw [q_ad_old d j q, q_ad_old d' j' q'] at he
        exact p2 d j d' j' q q' he
      · rw [q_ad_old d j q, hnew] at he
        exact absurd he (Nat.ne_of_lt (hold d j q))
    · rcases hcase d' j' hj' with q' | ⟨rfl, rfl⟩
      · rw [hnew, q_ad_old d' j' q'] at he
        exact absurd he.symm (Nat.ne_of_lt (hold d' j' q'))
      · exact ⟨rfl, rfl⟩
  · rcases hcase d j hj with q | ⟨rfl, rfl⟩
    · rw [q_ad_old d j q]
      exact p3 d j q
    · rw [hnew]
      exact Nat.le_trans hbs hS.1
  · rcases hcase d j hj with w | ⟨rfl, rfl⟩
    · have hne : ¬ (d = c ∧ j = h.2.2 c) := by
        rintro ⟨rfl, rfl⟩
        exact Nat.lt_irrefl _ w
      have e2 : (q_nu h c).2.1 d j k = h.2.1 d j k := if_neg hne
      rw [e2] at hq
      exact Nat.lt_of_lt_of_le (p4 d j k q w hq) (q_nu_le h c q.1)
    · have e2 : (q_nu h d).2.1 d (h.2.2 d) k = none := if_pos ⟨rfl, rfl⟩
      rw [e2] at hq
      cases hq
  · rw [q_ad_old d i (Nat.lt_of_lt_of_le hi (hE d).1)]
    exact (hE d).2 i hi
section QNW
variable {g : q_G} {y : q_M} {R : Room} {K : List q_V → q_H → Prop} {u : Nat × Nat} {pc : Nat} {ls : List (Option q_V)} {st : List q_V} {h : q_H}
theorem q_cont {p : Program} {e : Env} {s : State} {m : MethodId} {args : Array Value} {below : List Frame} {meth : Method} {c0 : Code} {Q : State → Prop} {ad0 : Nat → Nat → Nat} {n0 : Nat → Nat} {ad : Nat → Nat → Nat} {H H1 : Heap} {locs : List Loc} {L : Array Slot} {c k1 pc2 : Nat} (C : q_Cx g y p s m args meth c0) (F : q_F g y R K p e s m args below meth c0 Q ad0 n0) (D2 : q_D g ad0 n0 s (q_ad ad c (h.2.2 c) H.size) (q_nu h c) H1 locs) (hL : q_L ad h y.2.2.1 ls L) (hv : ∀ v ∈ st, q_vk h v) (h1 : u.1 + 1 ≤ R.cells) (h2 : u.2 + k1 ≤ R.slots) (kk : q_E g y R K (u.1 + 1, u.2 + k1) pc2 ls (q_O c (h.2.2 c) :: st) (q_nu h c)) : W p g.1 e R s m args below meth c0 H1 locs (u.1 + 1) (u.2 + k1) Q (F0 m pc2 L (.ref H.size :: st.map (q_c ad))) := by
  have k2 := kk p e s m args below meth c0 Q ad0 n0 _ H1 locs L C F D2 (hL.ext q_ad_old (q_nu_le h c)) (q_cs (by show h.2.2 c < if c = c then h.2.2 c + 1 else h.2.2 c; rw [if_pos rfl]; exact Nat.lt_succ_self _) (q_vm hv (q_nu_le h c))) h1 h2
  rw [q_ext hv q_ad_old (ad := ad) (ad' := q_ad ad c (h.2.2 c) H.size)]
  have e : q_ad ad c (h.2.2 c) H.size c (h.2.2 c) = H.size := if_pos ⟨rfl, rfl⟩
  have e2 : (q_O c (h.2.2 c) :: st).map (q_c (q_ad ad c (h.2.2 c) H.size)) = .ref H.size :: st.map (q_c (q_ad ad c (h.2.2 c) H.size)) := by
    show Value.ref (q_ad ad c (h.2.2 c) H.size c (h.2.2 c)) :: _ = _
    rw [e]
  rw [e2] at k2
  exact k2
theorem xe_new {idx c : Nat} {q : vw_C} (hd : decode y.2.1 pc = .ok (.new idx, 3)) (hq : q_cl[c]? = some q) (hc : Cond.classLink y.1.cls idx q.1 ∈ q_gw) (hi : Cond.instantiable q.1 q.2.2 ∈ q_gw) (hn : Cond.initialized q.1 ∈ q_gw) (hr1 : u.1 + 1 ≤ R.cells) (hr2 : u.2 + q.2.2 ≤ R.slots) (kk : q_E g y R K (u.1 + 1, u.2 + q.2.2) (pc + 3) ls (q_O c (h.2.2 c) :: st) (q_nu h c)) : q_E g y R K u pc ls st h := by
  intro p e s m args below meth c0 Q ad0 n0 ad H locs L C F D hL hv h1 h2
  obtain ⟨hx, hb, hml, hown, hts, -, -, -, hK, hbs⟩ := id C
  have hKn := hK.1 c q hq
  obtain ⟨oty, -, olay, onf⟩ := q_cl_ok c q hq
  have hpk := q_cl_pk c q hq
  refine W.newcK hx hb hown (hts _ hc) (hts _ hi) (hts _ hn) rfl hd hr1 hr2 hKn.2.1 rfl fun H1 kC hkC e1 z1 o1 => ?_
  refine q_cont C F (D.new hbs ⟨fun x hx => (by rw [hpk] at hx; cases hx), fun _ => ⟨q, hq, ?_⟩⟩ (by omega) o1) hL hv hr1 hr2 kk
  refine (u_born (q_ty c) hts olay hKn hkC e1 oty).to (fun j hj => ?_)
  unfold q_sT
  rw [hpk]
  exact (q_def (onf j hj)).symm
theorem xe_newa {c n : Nat} {ty : FieldType} {atype : ArrayType} {x : Int32} (hd : decode y.2.1 pc = .ok (.newarray atype, 2)) (hp : q_pk c = some (ty, n)) (hty : newarray.typeOf atype = ty) (hc : Cond.arrayClass ty ∈ q_gw) (hpr : ∀ (U : State) (cA : ClassId), va_RA U cA ty → U.vm.findClass ("[" ++ ty.toString) = some cA) (hx0 : ¬ x < 0) (hx1 : x.toNatClampNeg = n) (hby : n * componentBytes ty ≤ 536870912) (hr1 : u.1 + 1 ≤ R.cells) (hr2 : u.2 + n ≤ R.slots) (kk : q_E g y R K (u.1 + 1, u.2 + n) (pc + 2) ls (q_O c (h.2.2 c) :: st) (q_nu h c)) : q_E g y R K u pc ls (q_I x :: st) h := by
  intro p e s m args below meth c0 Q ad0 n0 ad H locs L C F D hL hv h1 h2
  obtain ⟨hx, hb, hml, hown, hts, -, -, -, hK, hbs⟩ := id C
  subst hty
  refine va_newaK hx hb (hts _ hc) rfl hd rfl hx0 hx1 hby hr1 hr2 rfl fun H1 cA e1 z1 o1 hAr hNm => ?_
  have hcA : cA = g.2.2.1 (newarray.typeOf atype) := Option.some.inj (hNm.symm.trans (hpr s _ (hK.2.1 c _ hp).2))
  subst hcA
  refine q_cont C F (D.new hbs ⟨fun w hw => ?_, fun hw => (by rw [hp] at hw; cases hw)⟩ (by omega) o1) hL (q_tl hv) hr1 hr2 kk
  cases hp.symm.trans hw
  rw [e1]
  congr 2
  funext j
  unfold q_sT
  rw [hp]
  exact (q_def (q_pk_nf c _ hp)).symm
theorem xe_newq {c n idx : Nat} {C1 : String} {x : Int32} (hd : decode y.2.1 pc = .ok (.anewarray idx, 3)) (hp : q_pk c = some (.object C1, n)) (hc : Cond.classLink y.1.cls idx C1 ∈ q_gw) (hov : C1 ∈ q_ov) (hx0 : ¬ x < 0) (hx1 : x.toNatClampNeg = n) (hby : n * 4 ≤ 536870912) (hr1 : u.1 + 1 ≤ R.cells) (hr2 : u.2 + n ≤ R.slots) (kk : q_E g y R K (u.1 + 1, u.2 + n) (pc + 3) ls (q_O c (h.2.2 c) :: st) (q_nu h c)) : q_E g y R K u pc ls (q_I x :: st) h := by
  intro p e s m args below meth c0 Q ad0 n0 ad H locs L C F D hL hv h1 h2
  obtain ⟨hx, hb, hml, hown, hts, -, -, -, hK, hbs⟩ := id C
  subst hx1
  refine W.anew hx hb hown (hts _ hc) (va_AO.use (hK.2.2.2.1 C1 hov)) rfl hd rfl hx0 hby hr1 hr2 fun cA kA comp f1 f2 f3 f4 => ?_
  generalize hH1 : H.push ({ cls := cA, slots := Array.replicate x.toNatClampNeg .null, vm := .none } : Cell) = H1
  have z1 : H1.size = H.size + 1 := by rw [← hH1, Array.size_push]
  have e1 : H1[H.size]? = some (arrV cA x.toNatClampNeg (fun _ => .null)) := by rw [← hH1, Array.getElem?_push_size, ← arrV_new]
  have o1 : ∀ q : Nat, q < H.size → H1[q]? = H[q]? := fun q hq => by rw [← hH1, Array.getElem?_push, if_neg (Nat.ne_of_lt hq)]
  obtain ⟨kA', comp', k1, k2, k3, k4⟩ := (hK.2.1 c _ hp).2
  have hcA : cA = g.2.2.1 (.object C1) := Option.some.inj (f1.symm.trans k4)
  subst hcA
  refine q_cont C F (D.new hbs ⟨fun w hw => ?_, fun hw => (by rw [hp] at hw; cases hw)⟩ (by omega) o1) hL (q_tl hv) hr1 hr2 kk
  cases hp.symm.trans hw
  rw [e1]
  congr 2
  funext j
  unfold q_sT
  rw [hp]
  rfl
end QNW
