theorem q_arr {g : q_G} {ad : Nat → Nat → Nat} {h : q_H} {H : Heap} {c i : Nat} {x : FieldType × Nat} (hP : q_P g ad h H) (hi : i < h.2.2 c) (hp : q_pk c = some x) : H[ad c i]? = some (arrV (g.2.2.1 x.1) x.2 (fun j => q_tv x.1 (h.1 c i j) (q_rf ad (h.2.1 c i j)))) := by
  rw [(hP.1 c i hi).1 x hp]
  have hs : q_sv ad h c i = (fun j => q_tv x.1 (h.1 c i j) (q_rf ad (h.2.1 c i j))) := by
    funext k
    unfold q_sv q_sT
    rw [hp]
  rw [hs]
section QAR
variable {g : q_G} {y : q_M} {R : Room} {K : List q_V → q_H → Prop} {u : Nat × Nat} {pc : Nat} {ls : List (Option q_V)} {st : List q_V} {h : q_H}
theorem xe_iald {c i n : Nat} {j : Int32} (hd : decode y.2.1 pc = .ok (.iaload, 1)) (hp : q_pk c = some (.int, n)) (hj : vp_in j n) (kk : q_E g y R K u (pc + 1) ls (q_I (h.1 c i j.toNatClampNeg) :: st) h) : q_E g y R K u pc ls (q_I j :: q_O c i :: st) h := by
  intro p e s m args below meth c0 Q ad0 n0 ad H locs L C F D hL hv h1 h2
  have hi : i < h.2.2 c := q_hd (q_tl hv)
  have k2 := kk p e s m args below meth c0 Q ad0 n0 ad H locs L C F D hL (q_cs trivial (q_tl (q_tl hv))) h1 h2
  obtain ⟨hx, hb, hml, hown, hts, -, -, -, hK, -⟩ := C
  have hlt : j.toNatClampNeg < n := Nat.not_le.mp fun q => hj (Or.inr q)
  exact W.iald (v := .int (h.1 c i j.toNatClampNeg)) hx hb (q_arr D.1 hi hp) ((hK.2.1 c _ hp).1 n _) (fun q => by cases q) (by show ¬ (j < 0 ∨ (arrV _ _ _).slots.size ≤ _); rw [arrV_size]; exact hj) (by show (arrV _ _ _).slots[_]? = _; rw [arrV_read _ _ hlt]; rfl) rfl rfl hd k2
theorem xe_bald {c i n : Nat} {j : Int32} (hd : decode y.2.1 pc = .ok (.baload, 1)) (hp : q_pk c = some (.byte, n)) (hj : vp_in j n) (kk : q_E g y R K u (pc + 1) ls (q_I (h.1 c i j.toNatClampNeg) :: st) h) : q_E g y R K u pc ls (q_I j :: q_O c i :: st) h := by
  intro p e s m args below meth c0 Q ad0 n0 ad H locs L C F D hL hv h1 h2
  have hi : i < h.2.2 c := q_hd (q_tl hv)
  have k2 := kk p e s m args below meth c0 Q ad0 n0 ad H locs L C F D hL (q_cs trivial (q_tl (q_tl hv))) h1 h2
  obtain ⟨hx, hb, hml, hown, hts, -, -, -, hK, -⟩ := C
  have hlt : j.toNatClampNeg < n := Nat.not_le.mp fun q => hj (Or.inr q)
  exact W.bald (v := .int (h.1 c i j.toNatClampNeg)) hx hb (q_arr D.1 hi hp) ((hK.2.1 c _ hp).1 n _) (fun q => by cases q) (by show ¬ (j < 0 ∨ (arrV _ _ _).slots.size ≤ _); rw [arrV_size]; exact hj) (by show (arrV _ _ _).slots[_]? = _; rw [arrV_read _ _ hlt]; rfl) rfl rfl hd k2
theorem xe_zald {c i n : Nat} {j : Int32} (hd : decode y.2.1 pc = .ok (.baload, 1)) (hp : q_pk c = some (.boolean, n)) (hj : vp_in j n) (kk : q_E g y R K u (pc + 1) ls (q_I (h.1 c i j.toNatClampNeg) :: st) h) : q_E g y R K u pc ls (q_I j :: q_O c i :: st) h := by
  intro p e s m args below meth c0 Q ad0 n0 ad H locs L C F D hL hv h1 h2
  have hi : i < h.2.2 c := q_hd (q_tl hv)
  have k2 := kk p e s m args below meth c0 Q ad0 n0 ad H locs L C F D hL (q_cs trivial (q_tl (q_tl hv))) h1 h2
  obtain ⟨hx, hb, hml, hown, hts, -, -, -, hK, -⟩ := C
  have hlt : j.toNatClampNeg < n := Nat.not_le.mp fun q => hj (Or.inr q)
  exact W.zald (v := .int (h.1 c i j.toNatClampNeg)) hx hb (q_arr D.1 hi hp) ((hK.2.1 c _ hp).1 n _) (fun q => by cases q) (by show ¬ (j < 0 ∨ (arrV _ _ _).slots.size ≤ _); rw [arrV_size]; exact hj) (by show (arrV _ _ _).slots[_]? = _; rw [arrV_read _ _ hlt]; rfl) rfl rfl hd k2
theorem xe_lald {c i n : Nat} {j : Int32} (hd : decode y.2.1 pc = .ok (.laload, 1)) (hp : q_pk c = some (.long, n)) (hj : vp_in j n) (kk : q_E g y R K u (pc + 1) ls (q_J (h.1 c i j.toNatClampNeg).toInt64 :: st) h) : q_E g y R K u pc ls (q_I j :: q_O c i :: st) h := by
  intro p e s m args below meth c0 Q ad0 n0 ad H locs L C F D hL hv h1 h2
  have hi : i < h.2.2 c := q_hd (q_tl hv)
  have k2 := kk p e s m args below meth c0 Q ad0 n0 ad H locs L C F D hL (q_cs trivial (q_tl (q_tl hv))) h1 h2
  obtain ⟨hx, hb, hml, hown, hts, -, -, -, hK, -⟩ := C
  have hlt : j.toNatClampNeg < n := Nat.not_le.mp fun q => hj (Or.inr q)
  exact W.lald (v := .long (h.1 c i j.toNatClampNeg).toInt64) hx hb (q_arr D.1 hi hp) ((hK.2.1 c _ hp).1 n _) (fun q => by cases q) (by show ¬ (j < 0 ∨ (arrV _ _ _).slots.size ≤ _); rw [arrV_size]; exact hj) (by show (arrV _ _ _).slots[_]? = _; rw [arrV_read _ _ hlt]; rfl) rfl rfl hd k2
theorem xe_aald {c i n : Nat} {j : Int32} {C1 : String} {r : Option (Nat × Nat)} (hd : decode y.2.1 pc = .ok (.aaload, 1)) (hp : q_pk c = some (.object C1, n)) (hj : vp_in j n) (hr : h.2.1 c i j.toNatClampNeg = r) (kk : q_E g y R K u (pc + 1) ls (q_rr r :: st) h) : q_E g y R K u pc ls (q_I j :: q_O c i :: st) h := by
  intro p e s m args below meth c0 Q ad0 n0 ad H locs L C F D hL hv h1 h2
  have hi : i < h.2.2 c := q_hd (q_tl hv)
  have hvk : q_vk h (q_rr r) := by
    cases r with
    | none => exact trivial
    | some q => exact D.1.2.2.2 c i _ q hi hr
  have k2 := kk p e s m args below meth c0 Q ad0 n0 ad H locs L C F D hL (q_cs hvk (q_tl (q_tl hv))) h1 h2
  obtain ⟨hx, hb, hml, hown, hts, -, -, -, hK, -⟩ := C
  have hlt : j.toNatClampNeg < n := Nat.not_le.mp fun q => hj (Or.inr q)
  exact W.aald (v := q_c ad (q_rr r)) (ty := .object C1) hx hb (q_arr D.1 hi hp) ((hK.2.1 c _ hp).1 n _) rfl (fun q => by cases q) (by show ¬ (j < 0 ∨ (arrV _ _ _).slots.size ≤ _); rw [arrV_size]; exact hj) (by show (arrV _ _ _).slots[_]? = _; rw [arrV_read _ _ hlt, q_c_rr, ← hr]; rfl) rfl rfl hd k2
theorem q_D.ast {ad0 : Nat → Nat → Nat} {n0 : Nat → Nat} {s : State} {ad : Nat → Nat → Nat} {H H1 : Heap} {locs : List Loc} {c i n t k0 : Nat} {ty : FieldType} {x : Int32} {v : Value} (D : q_D g ad0 n0 s ad h H locs) (hi : i < h.2.2 c) (hp : q_pk c = some (ty, n)) (hv : ∀ w, q_tv ty x w = v) (e1 : H1[ad c i]? = some ((arrV (g.2.2.1 ty) n (fun j => q_tv ty (h.1 c i j) (q_rf ad (h.2.1 c i j)))).setSlot t v)) (z : H1.size = H.size) (oq : ∀ q : Nat, q ≠ ad c i → H1[q]? = H[q]?) : q_D g ad0 n0 s ad (q_set h c i t x) H1 (locs ++ [⟨ad c i, k0⟩]) := by
  refine D.upd hi rfl (fun d j hne k => ⟨if_neg (fun w => hne ⟨w.1, w.2.1⟩), rfl⟩) (fun k q hq => D.1.2.2.2 c i k q hi hq) ⟨fun x0 hx0 => ?_, fun hx0 => (by rw [hp] at hx0; cases hx0)⟩ z oq
  cases hp.symm.trans hx0
  rw [e1, arrV_store]
  congr 2
  funext j
  unfold q_sv q_sT
  rw [hp]
  by_cases hj : j = t
  · subst hj
    show (if j = j then v else _) = q_tv ty (if c = c ∧ i = i ∧ j = j then x else h.1 c i j) _
    rw [if_pos rfl, if_pos ⟨rfl, rfl, rfl⟩, hv]
  · show (if j = t then v else _) = q_tv ty (if c = c ∧ i = i ∧ j = t then x else h.1 c i j) _
    rw [if_neg hj, if_neg (fun w => hj w.2.2)]
    rfl
theorem xe_iast {c i n : Nat} {j x : Int32} (hd : decode y.2.1 pc = .ok (.iastore, 1)) (hp : q_pk c = some (.int, n)) (hj : vp_in j n) (kk : q_E g y R K u (pc + 1) ls st (q_set h c i j.toNatClampNeg x)) : q_E g y R K u pc ls (q_I x :: q_I j :: q_O c i :: st) h := by
  intro p e s m args below meth c0 Q ad0 n0 ad H locs L C F D hL hv h1 h2
  have hi : i < h.2.2 c := q_hd (q_tl (q_tl hv))
  obtain ⟨hx, hb, hml, hown, hts, -, -, -, hK, -⟩ := id C
  refine W.iast hx hb (q_arr D.1 hi hp) ((hK.2.1 c _ hp).1 n _) (fun q => by cases q) (by show ¬ (j < 0 ∨ (arrV _ _ _).slots.size ≤ _); rw [arrV_size]; exact hj) rfl rfl hd fun H1 e1 z oq => ?_
  exact kk p e s m args below meth c0 Q ad0 n0 ad H1 _ L C F (D.ast hi hp (fun _ => rfl) e1 z oq) (hL.upd rfl) (q_vs (q_tl (q_tl (q_tl hv))) rfl) h1 h2
theorem xe_bast {c i n : Nat} {j x : Int32} (hd : decode y.2.1 pc = .ok (.bastore, 1)) (hp : q_pk c = some (.byte, n)) (hj : vp_in j n) (kk : q_E g y R K u (pc + 1) ls st (q_set h c i j.toNatClampNeg (vp_nar .byte x))) : q_E g y R K u pc ls (q_I x :: q_I j :: q_O c i :: st) h := by
  intro p e s m args below meth c0 Q ad0 n0 ad H locs L C F D hL hv h1 h2
  have hi : i < h.2.2 c := q_hd (q_tl (q_tl hv))
  obtain ⟨hx, hb, hml, hown, hts, -, -, -, hK, -⟩ := id C
  refine W.bast hx hb (q_arr D.1 hi hp) ((hK.2.1 c _ hp).1 n _) (fun q => by cases q) (by show ¬ (j < 0 ∨ (arrV _ _ _).slots.size ≤ _); rw [arrV_size]; exact hj) rfl rfl hd fun H1 e1 z oq => ?_
  exact kk p e s m args below meth c0 Q ad0 n0 ad H1 _ L C F (D.ast hi hp (fun _ => rfl) e1 z oq) (hL.upd rfl) (q_vs (q_tl (q_tl (q_tl hv))) rfl) h1 h2
theorem xe_zast {c i n : Nat} {j x : Int32} (hd : decode y.2.1 pc = .ok (.bastore, 1)) (hp : q_pk c = some (.boolean, n)) (hj : vp_in j n) (kk : q_E g y R K u (pc + 1) ls st (q_set h c i j.toNatClampNeg (vp_nar .boolean x))) : q_E g y R K u pc ls (q_I x :: q_I j :: q_O c i :: st) h := by
  intro p e s m args below meth c0 Q ad0 n0 ad H locs L C F D hL hv h1 h2
  have hi : i < h.2.2 c := q_hd (q_tl (q_tl hv))
  obtain ⟨hx, hb, hml, hown, hts, -, -, -, hK, -⟩ := id C
  refine W.zast hx hb (q_arr D.1 hi hp) ((hK.2.1 c _ hp).1 n _) (fun q => by cases q) (by show ¬ (j < 0 ∨ (arrV _ _ _).slots.size ≤ _); rw [arrV_size]; exact hj) rfl rfl hd fun H1 e1 z oq => ?_
  exact kk p e s m args below meth c0 Q ad0 n0 ad H1 _ L C F (D.ast hi hp (fun _ => rfl) e1 z oq) (hL.upd rfl) (q_vs (q_tl (q_tl (q_tl hv))) rfl) h1 h2
theorem xe_last {c i n : Nat} {j x : Int32} (hd : decode y.2.1 pc = .ok (.lastore, 1)) (hp : q_pk c = some (.long, n)) (hj : vp_in j n) (kk : q_E g y R K u (pc + 1) ls st (q_set h c i j.toNatClampNeg x)) : q_E g y R K u pc ls (q_J x.toInt64 :: q_I j :: q_O c i :: st) h := by
  intro p e s m args below meth c0 Q ad0 n0 ad H locs L C F D hL hv h1 h2
  have hi : i < h.2.2 c := q_hd (q_tl (q_tl hv))
  obtain ⟨hx, hb, hml, hown, hts, -, -, -, hK, -⟩ := id C
  refine W.last hx hb (q_arr D.1 hi hp) ((hK.2.1 c _ hp).1 n _) (fun q => by cases q) (by show ¬ (j < 0 ∨ (arrV _ _ _).slots.size ≤ _); rw [arrV_size]; exact hj) rfl rfl hd fun H1 e1 z oq => ?_
  exact kk p e s m args below meth c0 Q ad0 n0 ad H1 _ L C F (D.ast hi hp (fun _ => rfl) e1 z oq) (hL.upd rfl) (q_vs (q_tl (q_tl (q_tl hv))) rfl) h1 h2
theorem xe_aast {c i n d i2 : Nat} {j : Int32} {q : vw_C} (hd : decode y.2.1 pc = .ok (.aastore, 1)) (hp : q_pk c = some (.object q.1, n)) (hq : q_cl[d]? = some q) (hj : vp_in j n) (kk : q_E g y R K u (pc + 1) ls st (q_sr h c i j.toNatClampNeg (some (d, i2)))) : q_E g y R K u pc ls (q_O d i2 :: q_I j :: q_O c i :: st) h := by
  intro p e s m args below meth c0 Q ad0 n0 ad H locs L C F D hL hv h1 h2
  have hi2 : i2 < h.2.2 d := q_hd hv
  have hi : i < h.2.2 c := q_hd (q_tl (q_tl hv))
  obtain ⟨hx, hb, hml, hown, hts, -, -, -, hK, -⟩ := id C
  have hlt : j.toNatClampNeg < n := Nat.not_le.mp fun q => hj (Or.inr q)
  have h0 : ¬ j < 0 := fun q => hj (Or.inl q)
  obtain ⟨cellV, g1, g2, g3, -⟩ := q_obj D.1 hi2 hq
  have hcls := (hK.1 d q hq).2
  obtain ⟨kA, comp, k1, k2, k3, -⟩ := (hK.2.1 c _ hp).2
  have hcomp : comp = g.2.1.1 d := Option.some.inj (k3.symm.trans hcls.1)
  subst hcomp
  obtain ⟨kC, hkC, -⟩ := hcls.2
  refine W.aast hx hb (q_arr D.1 hi hp) (fun q h => by cases h) (fun h => by cases h) k1 k2 rfl hkC ⟨h0, by show _ < (arrV _ _ _).slots.size; rw [arrV_size]; exact hlt⟩ g1 (fun q h => by rw [g3] at h; cases h) (by rw [g2]; exact hkC) (by rw [g2]; exact va_assign hcls) rfl rfl hd fun H1 e1 z oq => ?_
  have D2 : q_D g ad0 n0 s ad (q_sr h c i j.toNatClampNeg (some (d, i2))) H1 (locs ++ [⟨ad c i, j.toNatClampNeg⟩]) := by
    refine D.upd hi rfl (fun d j hne k => ⟨rfl, if_neg (fun w => hne ⟨w.1, w.2.1⟩)⟩) (fun k r hr => ?_) ⟨fun x0 hx0 => ?_, fun hx0 => (by rw [hp] at hx0; cases hx0)⟩ z oq
    · have e : (if c = c ∧ i = i ∧ k = j.toNatClampNeg then some (d, i2) else h.2.1 c i k) = some r := hr
      by_cases hk : k = j.toNatClampNeg
      · rw [if_pos ⟨rfl, rfl, hk⟩] at e
        cases e
        exact hi2
      · rw [if_neg (fun w => hk w.2.2)] at e
        exact D.1.2.2.2 c i k r hi e
    · cases hp.symm.trans hx0
      rw [e1, arrV_store]
      congr 2
      funext k
      unfold q_sv q_sT
      rw [hp]
      by_cases hk : k = j.toNatClampNeg
      · subst hk
        show (if j.toNatClampNeg = j.toNatClampNeg then Value.ref (ad d i2) else _) = q_rf ad (if c = c ∧ i = i ∧ j.toNatClampNeg = j.toNatClampNeg then some (d, i2) else h.2.1 c i j.toNatClampNeg)
        rw [if_pos rfl, if_pos ⟨rfl, rfl, rfl⟩]
        rfl
      · show (if k = j.toNatClampNeg then Value.ref (ad d i2) else q_rf ad (h.2.1 c i k)) = q_rf ad (if c = c ∧ i = i ∧ k = j.toNatClampNeg then some (d, i2) else h.2.1 c i k)
        rw [if_neg hk, if_neg (fun w => hk w.2.2)]
  exact kk p e s m args below meth c0 Q ad0 n0 ad H1 _ L C F D2 (hL.upd rfl) (q_vs (q_tl (q_tl (q_tl hv))) rfl) h1 h2
end QAR
