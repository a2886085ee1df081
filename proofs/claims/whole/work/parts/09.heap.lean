def q_set (h : q_H) (c i k : Nat) (x : Int32) : q_H := (fun d j n => if d = c ∧ j = i ∧ n = k then x else h.1 d j n, h.2)
def q_sr (h : q_H) (c i k : Nat) (r : Option (Nat × Nat)) : q_H := (h.1, fun d j n => if d = c ∧ j = i ∧ n = k then r else h.2.1 d j n, h.2.2)
def q_nu (h : q_H) (c : Nat) : q_H := (fun d j n => if d = c ∧ j = h.2.2 c then 0 else h.1 d j n, fun d j n => if d = c ∧ j = h.2.2 c then none else h.2.1 d j n, fun d => if d = c then h.2.2 c + 1 else h.2.2 d)
def q_rr (r : Option (Nat × Nat)) : q_V := match r with
  | none => q_N
  | some q => .inr q
theorem q_c_rr (ad : Nat → Nat → Nat) (r : Option (Nat × Nat)) : q_c ad (q_rr r) = q_rf ad r := by
  cases r <;> rfl
theorem q_P.upd {g : q_G} {ad : Nat → Nat → Nat} {h h' : q_H} {H H1 : Heap} {c i : Nat} (hP : q_P g ad h H) (hi : i < h.2.2 c) (hn : h'.2.2 = h.2.2) (ho : ∀ d j, ¬ (d = c ∧ j = i) → ∀ k, h'.1 d j k = h.1 d j k ∧ h'.2.1 d j k = h.2.1 d j k) (hr : ∀ k q, h'.2.1 c i k = some q → q.2 < h.2.2 q.1) (hce : q_ce g ad h' H1 c i) (oq : ∀ q : Nat, q ≠ ad c i → H1[q]? = H[q]?) : q_P g ad h' H1 := by
  obtain ⟨p1, p2, p3, p4⟩ := hP
  refine ⟨fun d j hj => ?_, fun d j d' j' h1 h2 => p2 d j d' j' (hn ▸ h1) (hn ▸ h2), fun d j h1 => p3 d j (hn ▸ h1), fun d j k q h1 h2 => ?_⟩
  · rw [hn] at hj
    by_cases e : d = c ∧ j = i
    · obtain ⟨rfl, rfl⟩ := e
      exact hce
    · have hne : ad d j ≠ ad c i := fun z => e (p2 d j c i hj hi z)
      have hs : q_sv ad h' d j = q_sv ad h d j := by
        funext k
        unfold q_sv
        rw [(ho d j e k).1, (ho d j e k).2]
      obtain ⟨a1, a2⟩ := p1 d j hj
      refine ⟨fun x hx => ?_, fun hx => ?_⟩
      · rw [oq _ hne, hs]
        exact a1 x hx
      · obtain ⟨q, b1, b2⟩ := a2 hx
        rw [hs]
        exact ⟨q, b1, b2.kept (oq _ hne)⟩
  · rw [hn] at h1 ⊢
    by_cases e : d = c ∧ j = i
    · obtain ⟨rfl, rfl⟩ := e
      exact hr k q h2
    · rw [(ho d j e k).2] at h2
      exact p4 d j k q h1 h2
theorem q_D.upd {g : q_G} {ad0 : Nat → Nat → Nat} {n0 : Nat → Nat} {s : State} {ad : Nat → Nat → Nat} {h h' : q_H} {H H1 : Heap} {locs : List Loc} {c i k0 : Nat} (D : q_D g ad0 n0 s ad h H locs) (hi : i < h.2.2 c) (hn : h'.2.2 = h.2.2) (ho : ∀ d j, ¬ (d = c ∧ j = i) → ∀ k, h'.1 d j k = h.1 d j k ∧ h'.2.1 d j k = h.2.1 d j k) (hr : ∀ k q, h'.2.1 c i k = some q → q.2 < h.2.2 q.1) (hce : q_ce g ad h' H1 c i) (z : H1.size = H.size) (oq : ∀ q : Nat, q ≠ ad c i → H1[q]? = H[q]?) : q_D g ad0 n0 s ad h' H1 (locs ++ [⟨ad c i, k0⟩]) := by
  obtain ⟨hP, hS, hE⟩ := D
  exact ⟨hP.upd hi hn ho hr hce oq, hS.put z oq (hP.2.2.1 c i hi), fun d => by rw [hn]; exact hE d⟩
theorem q_L.upd {ad : Nat → Nat → Nat} {h h' : q_H} {n : Nat} {ls : List (Option q_V)} {L : Array Slot} (hL : q_L ad h n ls L) (hn : h'.2.2 = h.2.2) : q_L ad h' n ls L := by
  refine ⟨hL.1, hL.2.1, hL.2.2.1, fun i v hi => ?_⟩
  obtain ⟨a1, a2, a3⟩ := hL.2.2.2 i v hi
  refine ⟨a1, ?_, a3⟩
  cases v with
  | inl x => exact trivial
  | inr q =>
    show q.2 < h'.2.2 q.1
    rw [hn]
    exact a2
theorem q_vs {h h' : q_H} {st : List q_V} (hv : ∀ v ∈ st, q_vk h v) (hn : h'.2.2 = h.2.2) : ∀ v ∈ st, q_vk h' v := by
  intro v hm
  have h1 := hv v hm
  cases v with
  | inl x => exact trivial
  | inr q =>
    show q.2 < h'.2.2 q.1
    rw [hn]
    exact h1
theorem q_obj {g : q_G} {ad : Nat → Nat → Nat} {h : q_H} {H : Heap} {c i : Nat} {q : vw_C} (hP : q_P g ad h H) (hi : i < h.2.2 c) (hq : q_cl[c]? = some q) : t_OB (ad c i) (g.2.1.1 c) q.2.2 (g.2.1.2 c) H (fun k => q_tv (q_ty c k) (h.1 c i k) (q_rf ad (h.2.1 c i k))) := by
  have hpk := q_cl_pk c q hq
  obtain ⟨r, b1, b2⟩ := (hP.1 c i hi).2 hpk
  cases b1.symm.trans hq
  have hs : q_sv ad h c i = (fun k => q_tv (q_ty c k) (h.1 c i k) (q_rf ad (h.2.1 c i k))) := by
    funext k
    unfold q_sv q_sT
    rw [hpk]
  rw [← hs]
  exact b2
section QHP
variable {g : q_G} {y : q_M} {R : Room} {K : List q_V → q_H → Prop} {u : Nat × Nat} {pc : Nat} {ls : List (Option q_V)} {st : List q_V} {h : q_H}
theorem xe_get {idx c i k : Nat} {v : q_V} (hd : decode y.2.1 pc = .ok (.getfield idx, 3)) (hf : q_fl y.1.cls idx c k) (hvv : ∀ ad, q_c ad v = q_tv (q_ty c k) (h.1 c i k) (q_rf ad (h.2.1 c i k))) (hvk : (∀ q, h.2.1 c i k = some q → q.2 < h.2.2 q.1) → q_vk h v) (kk : q_E g y R K u (pc + 3) ls (v :: st) h) : q_E g y R K u pc ls (q_O c i :: st) h := by
  intro p e s m args below meth c0 Q ad0 n0 ad H locs L C F D hL hv h1 h2
  have hi : i < h.2.2 c := q_hd hv
  obtain ⟨q, hq, hk, hlk⟩ := hf
  have k2 := kk p e s m args below meth c0 Q ad0 n0 ad H locs L C F D hL (q_cs (hvk (fun r hr => D.1.2.2.2 c i k r hi hr)) (q_tl hv)) h1 h2
  obtain ⟨hx, hb, hml, hown, hts, -, -, -, hK, -⟩ := C
  obtain ⟨cell, q1, q2, q3, q4⟩ := q_obj D.1 hi hq
  obtain ⟨hS, hfc, kC, hkC, hkind⟩ := hK.1 c q hq
  obtain ⟨cf, kf, fi, f, hi2, hsl⟩ := hS k hk
  have hst := (u_facts hfc hkC (u_lays hts (q_cl_ok c q hq).2.2.1 hk) hi2).1
  have hslot : cell.slots[f.slot]? = some (q_c ad v) := by
    rw [hsl, q4 k hk, hvv ad]
  rcases hlk with hlk | ⟨host, hlk⟩
  · exact W.getf hx hb hown (hts _ hlk) hi2 hst q1 (by rw [q3]; exact fun z => by cases z) (v := q_c ad v) hslot rfl rfl hd k2
  · exact va_Wgetf hx hb hown (va_Nw.use (q_nw_tab hlk) (hK.2.2.1 _ hlk)) hi2 hst q1 (by rw [q3]; exact fun z => by cases z) (v := q_c ad v) hslot rfl rfl hd k2
theorem xe_geti {idx c i k : Nat} (hd : decode y.2.1 pc = .ok (.getfield idx, 3)) (hf : q_fl y.1.cls idx c k) (ht : ∀ x v, q_tv (q_ty c k) x v = .int x) (kk : q_E g y R K u (pc + 3) ls (q_I (h.1 c i k) :: st) h) : q_E g y R K u pc ls (q_O c i :: st) h :=
  xe_get (v := q_I (h.1 c i k)) hd hf (fun ad => (ht _ _).symm) (fun _ => trivial) kk
theorem xe_getr {idx c i k : Nat} {r : Option (Nat × Nat)} (hd : decode y.2.1 pc = .ok (.getfield idx, 3)) (hf : q_fl y.1.cls idx c k) (ht : ∀ x v, q_tv (q_ty c k) x v = v) (hr : h.2.1 c i k = r) (kk : q_E g y R K u (pc + 3) ls (q_rr r :: st) h) : q_E g y R K u pc ls (q_O c i :: st) h := by
  refine xe_get hd hf (fun ad => ?_) (fun z => ?_) kk
  · rw [ht, hr, q_c_rr]
  · cases r with
    | none => exact trivial
    | some q => exact z q hr
theorem xe_put {idx c i k : Nat} {v : q_V} {h' : q_H} (hd : decode y.2.1 pc = .ok (.putfield idx, 3)) (hf : q_fl y.1.cls idx c k) (hfin : ∀ q, q_cl[c]? = some q → (q.2.1 k).2.2.2 = false ∨ ((q.2.1 k).2.2.2 = true ∧ y.1.name = "<init>" ∧ (q.2.1 k).1 = y.1.cls ∧ Cond.fieldLink y.1.cls idx (q.2.1 k).1 (q.2.1 k).2.1 (q.2.1 k).2.2.1 ∈ q_gw)) (hn : ∀ ad, narrow (q_ty c k) (q_c ad v) = q_c ad v ∧ fits (q_ty c k) (q_c ad v) = true)
    (hcn : h'.2.2 = h.2.2) (ho : ∀ d j n, ¬ (d = c ∧ j = i ∧ n = k) → h'.1 d j n = h.1 d j n ∧ h'.2.1 d j n = h.2.1 d j n) (hvv : ∀ ad, q_c ad v = q_tv (q_ty c k) (h'.1 c i k) (q_rf ad (h'.2.1 c i k))) (hvk : q_vk h v → (∀ q, h.2.1 c i k = some q → q.2 < h.2.2 q.1) → ∀ q, h'.2.1 c i k = some q → q.2 < h.2.2 q.1) (kk : q_E g y R K u (pc + 3) ls st h') : q_E g y R K u pc ls (v :: q_O c i :: st) h := by
  intro p e s m args below meth c0 Q ad0 n0 ad H locs L C F D hL hv h1 h2
  have hi : i < h.2.2 c := q_hd (q_tl hv)
  obtain ⟨q, hq, hk, hlk⟩ := hf
  obtain ⟨hx, hb, hml, hown, hts, -, -, hmn, hK, -⟩ := id C
  obtain ⟨oty, onm, olay, -⟩ := q_cl_ok c q hq
  obtain ⟨cell, q1, q2, q3, q4⟩ := q_obj D.1 hi hq
  obtain ⟨hS, hfc, kC, hkC, hkind⟩ := hK.1 c q hq
  obtain ⟨cf, kf, fi, f, hi2, hsl⟩ := hS k hk
  have hst := (u_facts hfc hkC (u_lays hts olay hk) hi2).1
  have hap : ∀ a b, a < q.2.2 → b < q.2.2 → a ≠ b → (g.2.1.2 c) a ≠ (g.2.1.2 c) b := by
    intro a b ha hb2 hne
    obtain ⟨_, _, _, fa, hia, ea⟩ := hS a ha
    obtain ⟨_, _, _, fb, hib, eb⟩ := hS b hb2
    rw [← ea, ← eb]
    refine u_apart (u_lays hts olay ha) (u_lays hts olay hb2) hia hib ?_
    rw [(State.fieldFound?_type hia (oty a ha)).1, (State.fieldFound?_type hib (oty b hb2)).1]
    exact onm a ha b hb2 hne
  have hlt : f.slot < cell.slots.size := by rw [hsl]; exact k2_hasslot (q4 k hk)
  have hlay := hts _ (olay _ (u_in_lay hk))
  have fin : ∀ H1 : Heap, H1[ad c i]? = some (cell.setSlot f.slot (q_c ad v)) → H1.size = H.size → (∀ z : Nat, z ≠ ad c i → H1[z]? = H[z]?) → W p g.1 e R s m args below meth c0 H1 (locs ++ [⟨ad c i, f.slot⟩]) u.1 u.2 Q (F0 m (pc + 3) L (st.map (q_c ad))) := by
    intro H1 e1 e2 e3
    have hce : q_ce g ad h' H1 c i := by
      have hpk := q_cl_pk c q hq
      refine ⟨fun x hx => (by rw [hpk] at hx; cases hx), fun _ => ⟨q, hq, ?_⟩⟩
      rw [hsl] at e1
      refine t_OB.to (V := updV (fun k => q_tv (q_ty c k) (h.1 c i k) (q_rf ad (h.2.1 c i k))) k (q_c ad v)) ⟨_, e1, q2, q3, t_set q4 hap hk _⟩ (fun j hj => ?_)
      unfold q_sv q_sT
      rw [hpk]
      by_cases hjk : j = k
      · subst hjk
        simp only [updV, if_pos]
        exact hvv ad
      · simp only [updV, if_neg hjk]
        rw [(ho c i j (fun z => hjk z.2.2)).1, (ho c i j (fun z => hjk z.2.2)).2]
    have D2 : q_D g ad0 n0 s ad h' H1 (locs ++ [⟨ad c i, f.slot⟩]) := D.upd hi hcn (fun d j hne n => ho d j n (fun z => hne ⟨z.1, z.2.1⟩)) (fun n r hr => by
      by_cases hnk : n = k
      · subst hnk
        exact hvk (q_hd hv) (fun r hr => D.1.2.2.2 c i n r hi hr) r hr
      · rw [(ho c i n (fun z => hnk z.2.2)).2] at hr
        exact D.1.2.2.2 c i n r hi hr) hce e2 e3
    exact kk p e s m args below meth c0 Q ad0 n0 ad H1 _ L C F D2 (hL.upd hcn) (q_vs (q_tl (q_tl hv)) hcn) h1 h2
  rcases hfin q hq with hff | ⟨hff, hin, hdc, hl2⟩
  · unfold u_lay at hlay
    rw [if_neg (by rw [hff]; decide)] at hlay
    have h6 := u_store hfc hkC hkind hlay hi2 (oty k hk) (hn ad).1 (hn ad).2
    rcases hlk with hlk | ⟨host, hlk⟩
    · exact W.putK hx hb (f := f) ⟨hown, hts _ hlk, ⟨_, _, _, hi2⟩, hst⟩ (by rw [q2]; exact h6) q1 q3 hlt rfl rfl hd fin
    · exact va_WputK hx hb (f := f) hown (va_Nw.use (q_nw_tab hlk) (hK.2.2.1 _ hlk)) hi2 hst (by rw [q2]; exact h6) q1 q3 hlt rfl rfl hd fin
  · unfold u_lay at hlay
    rw [if_pos hff] at hlay
    have hcf : m.cls = cf := by
      obtain ⟨_, _, c', _, _, _, -, -, hf', -, -, -, hown2, -⟩ := Cond.laysFinal_spec hlay
      have e1 : c' = cf := by have := hi2.symm.trans hf'; simp at this; exact this.1.symm
      rw [hdc] at hown2
      rw [← e1]; exact Option.some.inj (hown.symm.trans hown2)
    have h6 := u_fits hfc hkC hkind (Or.inr hlay) hi2 (oty k hk) (hn ad).1 (hn ad).2
    exact W.putFinK hx hb hown (hts _ hl2) hi2 hst hcf (by rw [hmn]; exact hin) (by rw [q2]; exact h6) q1 q3 hlt rfl rfl hd fin
theorem xe_puti {idx c i k : Nat} {x : Int32} (hd : decode y.2.1 pc = .ok (.putfield idx, 3)) (hf : q_fl y.1.cls idx c k) (hfin : ∀ q, q_cl[c]? = some q → (q.2.1 k).2.2.2 = false ∨ ((q.2.1 k).2.2.2 = true ∧ y.1.name = "<init>" ∧ (q.2.1 k).1 = y.1.cls ∧ Cond.fieldLink y.1.cls idx (q.2.1 k).1 (q.2.1 k).2.1 (q.2.1 k).2.2.1 ∈ q_gw)) (hn : narrow (q_ty c k) (.int x) = .int x ∧ fits (q_ty c k) (.int x) = true) (ht : ∀ x v, q_tv (q_ty c k) x v = .int x) (kk : q_E g y R K u (pc + 3) ls st (q_set h c i k x)) : q_E g y R K u pc ls (q_I x :: q_O c i :: st) h := by
  refine xe_put (v := q_I x) (h' := q_set h c i k x) hd hf hfin (fun _ => hn) rfl (fun d j n hne => ⟨?_, rfl⟩) (fun ad => ?_) (fun _ z => z) kk
  · show (if d = c ∧ j = i ∧ n = k then x else h.1 d j n) = h.1 d j n
    rw [if_neg hne]
  · rw [ht]
    show Value.int x = Value.int (if c = c ∧ i = i ∧ k = k then x else h.1 c i k)
    rw [if_pos ⟨rfl, rfl, rfl⟩]
theorem q_nr {ty : FieldType} (hr : q_isR ty = true) : (narrow ty .null = .null ∧ fits ty .null = true) ∧ ∀ a, narrow ty (.ref a) = .ref a ∧ fits ty (.ref a) = true := by
  cases ty <;> first | exact ⟨⟨rfl, rfl⟩, fun _ => ⟨rfl, rfl⟩⟩ | (simp [q_isR] at hr)
theorem xe_putr {idx c i k : Nat} {r : Option (Nat × Nat)} (hd : decode y.2.1 pc = .ok (.putfield idx, 3)) (hf : q_fl y.1.cls idx c k) (hfin : ∀ q, q_cl[c]? = some q → (q.2.1 k).2.2.2 = false ∨ ((q.2.1 k).2.2.2 = true ∧ y.1.name = "<init>" ∧ (q.2.1 k).1 = y.1.cls ∧ Cond.fieldLink y.1.cls idx (q.2.1 k).1 (q.2.1 k).2.1 (q.2.1 k).2.2.1 ∈ q_gw)) (hR : q_isR (q_ty c k) = true) (ht : ∀ x v, q_tv (q_ty c k) x v = v) (kk : q_E g y R K u (pc + 3) ls st (q_sr h c i k r)) : q_E g y R K u pc ls (q_rr r :: q_O c i :: st) h := by
  refine xe_put (v := q_rr r) (h' := q_sr h c i k r) hd hf hfin (fun ad => ?_) rfl (fun d j n hne => ⟨rfl, ?_⟩) (fun ad => ?_) (fun z1 z q hq => ?_) kk
  · cases r with
    | none => exact (q_nr hR).1
    | some q => exact (q_nr hR).2 _
  · show (if d = c ∧ j = i ∧ n = k then r else h.2.1 d j n) = h.2.1 d j n
    rw [if_neg hne]
  · rw [ht, q_c_rr]
    show q_rf ad r = q_rf ad (if c = c ∧ i = i ∧ k = k then r else h.2.1 c i k)
    rw [if_pos ⟨rfl, rfl, rfl⟩]
  · have e : (if c = c ∧ i = i ∧ k = k then r else h.2.1 c i k) = some q := hq
    rw [if_pos ⟨rfl, rfl, rfl⟩] at e
    subst e
    exact z1
end QHP
