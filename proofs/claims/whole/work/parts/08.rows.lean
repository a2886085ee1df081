def q_rv (v : q_V) : Prop := v = q_N ∨ (∃ a, v = .inl (.ref a)) ∨ ∃ q, v = .inr q
theorem q_rvO {q : Nat × Nat} : q_rv (.inr q) := Or.inr (Or.inr ⟨q, rfl⟩)
theorem q_rvN : q_rv q_N := Or.inl rfl
theorem q_rvA {a : Nat} : q_rv (.inl (.ref a)) := Or.inr (Or.inl ⟨a, rfl⟩)
theorem xe_iadd {g : q_G} {y : q_M} {R : Room} {K : List q_V → q_H → Prop} {u : Nat × Nat} {pc : Nat} {ls : List (Option q_V)} {st : List q_V} {h : q_H} {x z : Int32} (hd : decode y.2.1 pc = .ok (.iadd, 1)) (k : q_E g y R K u (pc + 1) ls (q_I (x + z) :: st) h) : q_E g y R K u pc ls (q_I z :: q_I x :: st) h := by
  intro p e s m args below meth c Q ad0 n0 ad H locs L C F D hL hv h1 h2
  exact lv_iadd C.1 C.2.1 hd (k p e s m args below meth c Q ad0 n0 ad H locs L C F D hL (q_cs trivial (q_tl (q_tl hv))) h1 h2)
theorem xe_isub {g : q_G} {y : q_M} {R : Room} {K : List q_V → q_H → Prop} {u : Nat × Nat} {pc : Nat} {ls : List (Option q_V)} {st : List q_V} {h : q_H} {x z : Int32} (hd : decode y.2.1 pc = .ok (.isub, 1)) (k : q_E g y R K u (pc + 1) ls (q_I (x - z) :: st) h) : q_E g y R K u pc ls (q_I z :: q_I x :: st) h := by
  intro p e s m args below meth c Q ad0 n0 ad H locs L C F D hL hv h1 h2
  exact lv_isub C.1 C.2.1 hd (k p e s m args below meth c Q ad0 n0 ad H locs L C F D hL (q_cs trivial (q_tl (q_tl hv))) h1 h2)
theorem xe_imul {g : q_G} {y : q_M} {R : Room} {K : List q_V → q_H → Prop} {u : Nat × Nat} {pc : Nat} {ls : List (Option q_V)} {st : List q_V} {h : q_H} {x z : Int32} (hd : decode y.2.1 pc = .ok (.imul, 1)) (k : q_E g y R K u (pc + 1) ls (q_I (x * z) :: st) h) : q_E g y R K u pc ls (q_I z :: q_I x :: st) h := by
  intro p e s m args below meth c Q ad0 n0 ad H locs L C F D hL hv h1 h2
  exact lv_imul C.1 C.2.1 hd (k p e s m args below meth c Q ad0 n0 ad H locs L C F D hL (q_cs trivial (q_tl (q_tl hv))) h1 h2)
theorem xe_iand {g : q_G} {y : q_M} {R : Room} {K : List q_V → q_H → Prop} {u : Nat × Nat} {pc : Nat} {ls : List (Option q_V)} {st : List q_V} {h : q_H} {x z : Int32} (hd : decode y.2.1 pc = .ok (.iand, 1)) (k : q_E g y R K u (pc + 1) ls (q_I (x &&& z) :: st) h) : q_E g y R K u pc ls (q_I z :: q_I x :: st) h := by
  intro p e s m args below meth c Q ad0 n0 ad H locs L C F D hL hv h1 h2
  exact lv_iand C.1 C.2.1 hd (k p e s m args below meth c Q ad0 n0 ad H locs L C F D hL (q_cs trivial (q_tl (q_tl hv))) h1 h2)
theorem xe_ior {g : q_G} {y : q_M} {R : Room} {K : List q_V → q_H → Prop} {u : Nat × Nat} {pc : Nat} {ls : List (Option q_V)} {st : List q_V} {h : q_H} {x z : Int32} (hd : decode y.2.1 pc = .ok (.ior, 1)) (k : q_E g y R K u (pc + 1) ls (q_I (x ||| z) :: st) h) : q_E g y R K u pc ls (q_I z :: q_I x :: st) h := by
  intro p e s m args below meth c Q ad0 n0 ad H locs L C F D hL hv h1 h2
  exact lv_ior C.1 C.2.1 hd (k p e s m args below meth c Q ad0 n0 ad H locs L C F D hL (q_cs trivial (q_tl (q_tl hv))) h1 h2)
theorem xe_ishl {g : q_G} {y : q_M} {R : Room} {K : List q_V → q_H → Prop} {u : Nat × Nat} {pc : Nat} {ls : List (Option q_V)} {st : List q_V} {h : q_H} {x z : Int32} (hd : decode y.2.1 pc = .ok (.ishl, 1)) (k : q_E g y R K u (pc + 1) ls (q_I (x <<< (z &&& 31)) :: st) h) : q_E g y R K u pc ls (q_I z :: q_I x :: st) h := by
  intro p e s m args below meth c Q ad0 n0 ad H locs L C F D hL hv h1 h2
  exact lv_ishl C.1 C.2.1 hd (k p e s m args below meth c Q ad0 n0 ad H locs L C F D hL (q_cs trivial (q_tl (q_tl hv))) h1 h2)
theorem xe_ishr {g : q_G} {y : q_M} {R : Room} {K : List q_V → q_H → Prop} {u : Nat × Nat} {pc : Nat} {ls : List (Option q_V)} {st : List q_V} {h : q_H} {x z : Int32} (hd : decode y.2.1 pc = .ok (.ishr, 1)) (k : q_E g y R K u (pc + 1) ls (q_I (x >>> (z &&& 31)) :: st) h) : q_E g y R K u pc ls (q_I z :: q_I x :: st) h := by
  intro p e s m args below meth c Q ad0 n0 ad H locs L C F D hL hv h1 h2
  exact lv_ishr C.1 C.2.1 hd (k p e s m args below meth c Q ad0 n0 ad H locs L C F D hL (q_cs trivial (q_tl (q_tl hv))) h1 h2)
theorem xe_iushr {g : q_G} {y : q_M} {R : Room} {K : List q_V → q_H → Prop} {u : Nat × Nat} {pc : Nat} {ls : List (Option q_V)} {st : List q_V} {h : q_H} {x z : Int32} (hd : decode y.2.1 pc = .ok (.iushr, 1)) (k : q_E g y R K u (pc + 1) ls (q_I ((x.toUInt32 >>> (z.toUInt32 &&& Int32.toUInt32 31)).toInt32) :: st) h) : q_E g y R K u pc ls (q_I z :: q_I x :: st) h := by
  intro p e s m args below meth c Q ad0 n0 ad H locs L C F D hL hv h1 h2
  exact lv_iushr C.1 C.2.1 hd rfl (k p e s m args below meth c Q ad0 n0 ad H locs L C F D hL (q_cs trivial (q_tl (q_tl hv))) h1 h2)
theorem xe_idiv {g : q_G} {y : q_M} {R : Room} {K : List q_V → q_H → Prop} {u : Nat × Nat} {pc : Nat} {ls : List (Option q_V)} {st : List q_V} {h : q_H} {x z : Int32} (hd : decode y.2.1 pc = .ok (.idiv, 1)) (hz : ¬ z = 0) (k : q_E g y R K u (pc + 1) ls (q_I (x / z) :: st) h) : q_E g y R K u pc ls (q_I z :: q_I x :: st) h := by
  intro p e s m args below meth c Q ad0 n0 ad H locs L C F D hL hv h1 h2
  exact lv_idiv C.1 C.2.1 hd hz (k p e s m args below meth c Q ad0 n0 ad H locs L C F D hL (q_cs trivial (q_tl (q_tl hv))) h1 h2)
theorem xe_irem {g : q_G} {y : q_M} {R : Room} {K : List q_V → q_H → Prop} {u : Nat × Nat} {pc : Nat} {ls : List (Option q_V)} {st : List q_V} {h : q_H} {x z : Int32} (hd : decode y.2.1 pc = .ok (.irem, 1)) (hz : ¬ z = 0) (k : q_E g y R K u (pc + 1) ls (q_I (x - x / z * z) :: st) h) : q_E g y R K u pc ls (q_I z :: q_I x :: st) h := by
  intro p e s m args below meth c Q ad0 n0 ad H locs L C F D hL hv h1 h2
  exact lv_irem C.1 C.2.1 hd hz (k p e s m args below meth c Q ad0 n0 ad H locs L C F D hL (q_cs trivial (q_tl (q_tl hv))) h1 h2)
theorem xe_ineg {g : q_G} {y : q_M} {R : Room} {K : List q_V → q_H → Prop} {u : Nat × Nat} {pc : Nat} {ls : List (Option q_V)} {st : List q_V} {h : q_H} {x : Int32} (hd : decode y.2.1 pc = .ok (.ineg, 1)) (k : q_E g y R K u (pc + 1) ls (q_I (-x) :: st) h) : q_E g y R K u pc ls (q_I x :: st) h := by
  intro p e s m args below meth c Q ad0 n0 ad H locs L C F D hL hv h1 h2
  exact lv_ineg C.1 C.2.1 hd (k p e s m args below meth c Q ad0 n0 ad H locs L C F D hL (q_cs trivial (q_tl hv)) h1 h2)
theorem xe_i2b {g : q_G} {y : q_M} {R : Room} {K : List q_V → q_H → Prop} {u : Nat × Nat} {pc : Nat} {ls : List (Option q_V)} {st : List q_V} {h : q_H} {x : Int32} (hd : decode y.2.1 pc = .ok (.i2b, 1)) (k : q_E g y R K u (pc + 1) ls (q_I x.toInt8.toInt32 :: st) h) : q_E g y R K u pc ls (q_I x :: st) h := by
  intro p e s m args below meth c Q ad0 n0 ad H locs L C F D hL hv h1 h2
  exact lv_i2b C.1 C.2.1 hd rfl (k p e s m args below meth c Q ad0 n0 ad H locs L C F D hL (q_cs trivial (q_tl hv)) h1 h2)
theorem xe_i2l {g : q_G} {y : q_M} {R : Room} {K : List q_V → q_H → Prop} {u : Nat × Nat} {pc : Nat} {ls : List (Option q_V)} {st : List q_V} {h : q_H} {x : Int32} (hd : decode y.2.1 pc = .ok (.i2l, 1)) (k : q_E g y R K u (pc + 1) ls (q_J x.toInt64 :: st) h) : q_E g y R K u pc ls (q_I x :: st) h := by
  intro p e s m args below meth c Q ad0 n0 ad H locs L C F D hL hv h1 h2
  exact lv_i2l C.1 C.2.1 hd rfl (k p e s m args below meth c Q ad0 n0 ad H locs L C F D hL (q_cs trivial (q_tl hv)) h1 h2)
theorem xe_iconst {g : q_G} {y : q_M} {R : Room} {K : List q_V → q_H → Prop} {u : Nat × Nat} {pc : Nat} {ls : List (Option q_V)} {st : List q_V} {h : q_H} {n : Int} (v : Int32) (hd : decode y.2.1 pc = .ok (.iconst n, 1)) (he : Int32.ofInt n = v) (k : q_E g y R K u (pc + 1) ls (q_I v :: st) h) : q_E g y R K u pc ls st h := by
  intro p e s m args below meth c Q ad0 n0 ad H locs L C F D hL hv h1 h2
  exact lv_iconst C.1 C.2.1 hd he (k p e s m args below meth c Q ad0 n0 ad H locs L C F D hL (q_cs trivial hv) h1 h2)
theorem xe_bipush {g : q_G} {y : q_M} {R : Room} {K : List q_V → q_H → Prop} {u : Nat × Nat} {pc : Nat} {ls : List (Option q_V)} {st : List q_V} {h : q_H} {n : Int} (v : Int32) (hd : decode y.2.1 pc = .ok (.bipush n, 2)) (he : (Int8.ofInt n).toInt32 = v) (k : q_E g y R K u (pc + 2) ls (q_I v :: st) h) : q_E g y R K u pc ls st h := by
  intro p e s m args below meth c Q ad0 n0 ad H locs L C F D hL hv h1 h2
  exact lv_bipush C.1 C.2.1 hd he (k p e s m args below meth c Q ad0 n0 ad H locs L C F D hL (q_cs trivial hv) h1 h2)
theorem xe_sipush {g : q_G} {y : q_M} {R : Room} {K : List q_V → q_H → Prop} {u : Nat × Nat} {pc : Nat} {ls : List (Option q_V)} {st : List q_V} {h : q_H} {n : Int} (v : Int32) (hd : decode y.2.1 pc = .ok (.sipush n, 3)) (he : (Int16.ofInt n).toInt32 = v) (k : q_E g y R K u (pc + 3) ls (q_I v :: st) h) : q_E g y R K u pc ls st h := by
  intro p e s m args below meth c Q ad0 n0 ad H locs L C F D hL hv h1 h2
  exact lv_sipush C.1 C.2.1 hd he (k p e s m args below meth c Q ad0 n0 ad H locs L C F D hL (q_cs trivial hv) h1 h2)
theorem xe_null {g : q_G} {y : q_M} {R : Room} {K : List q_V → q_H → Prop} {u : Nat × Nat} {pc : Nat} {ls : List (Option q_V)} {st : List q_V} {h : q_H} (hd : decode y.2.1 pc = .ok (.aconst_null, 1)) (k : q_E g y R K u (pc + 1) ls (q_N :: st) h) : q_E g y R K u pc ls st h := by
  intro p e s m args below meth c Q ad0 n0 ad H locs L C F D hL hv h1 h2
  exact lv_null C.1 C.2.1 hd (k p e s m args below meth c Q ad0 n0 ad H locs L C F D hL (q_cs trivial hv) h1 h2)
theorem xe_iload_n {g : q_G} {y : q_M} {R : Room} {K : List q_V → q_H → Prop} {u : Nat × Nat} {pc : Nat} {ls : List (Option q_V)} {st : List q_V} {h : q_H} {k0 : Fin 4} {x : Int32} (hd : decode y.2.1 pc = .ok (.iload_n k0, 1)) (hl : ls[(k0 : Nat)]? = some (some (q_I x))) (k : q_E g y R K u (pc + 1) ls (q_I x :: st) h) : q_E g y R K u pc ls st h := by
  intro p e s m args below meth c Q ad0 n0 ad H locs L C F D hL hv h1 h2
  exact lv_iload_n C.1 C.2.1 hd rfl (hL.2.2.2 _ _ hl).1 (k p e s m args below meth c Q ad0 n0 ad H locs L C F D hL (q_cs trivial hv) h1 h2)
theorem xe_iload {g : q_G} {y : q_M} {R : Room} {K : List q_V → q_H → Prop} {u : Nat × Nat} {pc : Nat} {ls : List (Option q_V)} {st : List q_V} {h : q_H} {i : Nat} {x : Int32} (hd : decode y.2.1 pc = .ok (.iload i, 2)) (hl : ls[i]? = some (some (q_I x))) (k : q_E g y R K u (pc + 2) ls (q_I x :: st) h) : q_E g y R K u pc ls st h := by
  intro p e s m args below meth c Q ad0 n0 ad H locs L C F D hL hv h1 h2
  exact lv_iload C.1 C.2.1 hd (hL.2.2.2 _ _ hl).1 (k p e s m args below meth c Q ad0 n0 ad H locs L C F D hL (q_cs trivial hv) h1 h2)
theorem xe_aload_n {g : q_G} {y : q_M} {R : Room} {K : List q_V → q_H → Prop} {u : Nat × Nat} {pc : Nat} {ls : List (Option q_V)} {st : List q_V} {h : q_H} {k0 : Fin 4} {v : q_V} (hd : decode y.2.1 pc = .ok (.aload_n k0, 1)) (hl : ls[(k0 : Nat)]? = some (some v)) (hr : q_rv v) (k : q_E g y R K u (pc + 1) ls (v :: st) h) : q_E g y R K u pc ls st h := by
  intro p e s m args below meth c Q ad0 n0 ad H locs L C F D hL hv h1 h2
  have hq := hL.2.2.2 _ _ hl
  have k2 := (k p e s m args below meth c Q ad0 n0 ad H locs L C F D hL (q_cs hq.2.1 hv) h1 h2)
  rcases hr with rfl | ⟨a, rfl⟩ | ⟨a, rfl⟩
  · exact lv_aload_nN C.1 C.2.1 hd rfl hq.1 k2
  · exact lv_aload_n C.1 C.2.1 hd rfl hq.1 k2
  · exact lv_aload_n C.1 C.2.1 hd rfl hq.1 k2
theorem xe_aload {g : q_G} {y : q_M} {R : Room} {K : List q_V → q_H → Prop} {u : Nat × Nat} {pc : Nat} {ls : List (Option q_V)} {st : List q_V} {h : q_H} {i : Nat} {v : q_V} (hd : decode y.2.1 pc = .ok (.aload i, 2)) (hl : ls[i]? = some (some v)) (hr : q_rv v) (k : q_E g y R K u (pc + 2) ls (v :: st) h) : q_E g y R K u pc ls st h := by
  intro p e s m args below meth c Q ad0 n0 ad H locs L C F D hL hv h1 h2
  have hq := hL.2.2.2 _ _ hl
  have k2 := (k p e s m args below meth c Q ad0 n0 ad H locs L C F D hL (q_cs hq.2.1 hv) h1 h2)
  rcases hr with rfl | ⟨a, rfl⟩ | ⟨a, rfl⟩
  · exact lv_aloadN C.1 C.2.1 hd hq.1 k2
  · exact lv_aload C.1 C.2.1 hd hq.1 k2
  · exact lv_aload C.1 C.2.1 hd hq.1 k2
theorem xe_istore_n {g : q_G} {y : q_M} {R : Room} {K : List q_V → q_H → Prop} {u : Nat × Nat} {pc : Nat} {ls : List (Option q_V)} {st : List q_V} {h : q_H} {k0 : Fin 4} {x : Int32} (hd : decode y.2.1 pc = .ok (.istore_n k0, 1)) (hi : (k0 : Nat) < y.2.2.1) (k : q_E g y R K u (pc + 1) (ls.set (k0 : Nat) (some (q_I x))) st h) : q_E g y R K u pc ls (q_I x :: st) h := by
  intro p e s m args below meth c Q ad0 n0 ad H locs L C F D hL hv h1 h2
  exact lv_istore_n C.1 C.2.1 hd rfl hL.has hi rfl (fun L2 hL2 => (k p e s m args below meth c Q ad0 n0 ad H locs L2 C F D (hL.set (v := q_I x) trivial rfl hL2) (q_tl hv) h1 h2))
theorem xe_istore {g : q_G} {y : q_M} {R : Room} {K : List q_V → q_H → Prop} {u : Nat × Nat} {pc : Nat} {ls : List (Option q_V)} {st : List q_V} {h : q_H} {i : Nat} {x : Int32} (hd : decode y.2.1 pc = .ok (.istore i, 2)) (hi : i < y.2.2.1) (k : q_E g y R K u (pc + 2) (ls.set i (some (q_I x))) st h) : q_E g y R K u pc ls (q_I x :: st) h := by
  intro p e s m args below meth c Q ad0 n0 ad H locs L C F D hL hv h1 h2
  exact lv_istore C.1 C.2.1 hd hL.has hi rfl (fun L2 hL2 => (k p e s m args below meth c Q ad0 n0 ad H locs L2 C F D (hL.set (v := q_I x) trivial rfl hL2) (q_tl hv) h1 h2))
theorem xe_astore_n {g : q_G} {y : q_M} {R : Room} {K : List q_V → q_H → Prop} {u : Nat × Nat} {pc : Nat} {ls : List (Option q_V)} {st : List q_V} {h : q_H} {k0 : Fin 4} {v : q_V} (hd : decode y.2.1 pc = .ok (.astore_n k0, 1)) (hi : (k0 : Nat) < y.2.2.1) (hr : q_rv v) (k : q_E g y R K u (pc + 1) (ls.set (k0 : Nat) (some v)) st h) : q_E g y R K u pc ls (v :: st) h := by
  intro p e s m args below meth c Q ad0 n0 ad H locs L C F D hL hv h1 h2
  have hq : q_vk h v := q_hd hv
  rcases hr with rfl | ⟨a, rfl⟩ | ⟨a, rfl⟩
  · exact lv_astore_nN C.1 C.2.1 hd rfl hL.has hi rfl (fun L2 hL2 => (k p e s m args below meth c Q ad0 n0 ad H locs L2 C F D (hL.set hq rfl hL2) (q_tl hv) h1 h2))
  · exact lv_astore_n C.1 C.2.1 hd rfl hL.has hi rfl (fun L2 hL2 => (k p e s m args below meth c Q ad0 n0 ad H locs L2 C F D (hL.set hq rfl hL2) (q_tl hv) h1 h2))
  · exact lv_astore_n C.1 C.2.1 hd rfl hL.has hi rfl (fun L2 hL2 => (k p e s m args below meth c Q ad0 n0 ad H locs L2 C F D (hL.set hq rfl hL2) (q_tl hv) h1 h2))
theorem xe_astore {g : q_G} {y : q_M} {R : Room} {K : List q_V → q_H → Prop} {u : Nat × Nat} {pc : Nat} {ls : List (Option q_V)} {st : List q_V} {h : q_H} {i : Nat} {v : q_V} (hd : decode y.2.1 pc = .ok (.astore i, 2)) (hi : i < y.2.2.1) (hr : q_rv v) (k : q_E g y R K u (pc + 2) (ls.set i (some v)) st h) : q_E g y R K u pc ls (v :: st) h := by
  intro p e s m args below meth c Q ad0 n0 ad H locs L C F D hL hv h1 h2
  have hq : q_vk h v := q_hd hv
  rcases hr with rfl | ⟨a, rfl⟩ | ⟨a, rfl⟩
  · exact lv_astoreN C.1 C.2.1 hd hL.has hi rfl (fun L2 hL2 => (k p e s m args below meth c Q ad0 n0 ad H locs L2 C F D (hL.set hq rfl hL2) (q_tl hv) h1 h2))
  · exact lv_astore C.1 C.2.1 hd hL.has hi rfl (fun L2 hL2 => (k p e s m args below meth c Q ad0 n0 ad H locs L2 C F D (hL.set hq rfl hL2) (q_tl hv) h1 h2))
  · exact lv_astore C.1 C.2.1 hd hL.has hi rfl (fun L2 hL2 => (k p e s m args below meth c Q ad0 n0 ad H locs L2 C F D (hL.set hq rfl hL2) (q_tl hv) h1 h2))
theorem xe_iinc {g : q_G} {y : q_M} {R : Room} {K : List q_V → q_H → Prop} {u : Nat × Nat} {pc : Nat} {ls : List (Option q_V)} {st : List q_V} {h : q_H} {i : Nat} {n : Int} {x : Int32} (v : Int32) (hd : decode y.2.1 pc = .ok (.iinc i n, 3)) (hi : i < y.2.2.1) (hl : ls[i]? = some (some (q_I x))) (he : x + Int32.ofInt n = v) (k : q_E g y R K u (pc + 3) (ls.set i (some (q_I v))) st h) : q_E g y R K u pc ls st h := by
  intro p e s m args below meth c Q ad0 n0 ad H locs L C F D hL hv h1 h2
  obtain ⟨j, hj⟩ := List.getElem?_of_mem (q_ll_mem (ad := ad).mpr ⟨q_I x, hl, rfl⟩)
  exact lv_iinc C.1 C.2.1 hd hL.has hj he hi rfl (fun L2 hL2 => (k p e s m args below meth c Q ad0 n0 ad H locs L2 C F D (hL.set (v := q_I v) trivial rfl hL2) hv h1 h2))
theorem xe_dup {g : q_G} {y : q_M} {R : Room} {K : List q_V → q_H → Prop} {u : Nat × Nat} {pc : Nat} {ls : List (Option q_V)} {st : List q_V} {h : q_H} {v : q_V} (hd : decode y.2.1 pc = .ok (.dup, 1)) (hc : q_sc v = 1) (k : q_E g y R K u (pc + 1) ls (v :: v :: st) h) : q_E g y R K u pc ls (v :: st) h := by
  intro p e s m args below meth c Q ad0 n0 ad H locs L C F D hL hv h1 h2
  exact lv_dup C.1 C.2.1 hd (by rw [q_c_cat]; exact hc) (k p e s m args below meth c Q ad0 n0 ad H locs L C F D hL (q_cs (q_hd hv) hv) h1 h2)
theorem xe_pop {g : q_G} {y : q_M} {R : Room} {K : List q_V → q_H → Prop} {u : Nat × Nat} {pc : Nat} {ls : List (Option q_V)} {st : List q_V} {h : q_H} {v : q_V} (hd : decode y.2.1 pc = .ok (.pop, 1)) (hc : q_sc v = 1) (k : q_E g y R K u (pc + 1) ls st h) : q_E g y R K u pc ls (v :: st) h := by
  intro p e s m args below meth c Q ad0 n0 ad H locs L C F D hL hv h1 h2
  exact lv_pop C.1 C.2.1 hd (by rw [q_c_cat]; exact hc) (k p e s m args below meth c Q ad0 n0 ad H locs L C F D hL (q_tl hv) h1 h2)
theorem xe_dup2 {g : q_G} {y : q_M} {R : Room} {K : List q_V → q_H → Prop} {u : Nat × Nat} {pc : Nat} {ls : List (Option q_V)} {st : List q_V} {h : q_H} {v w : q_V} (hd : decode y.2.1 pc = .ok (.dup2, 1)) (hc : q_sc v = 1) (hc2 : q_sc w = 1) (k : q_E g y R K u (pc + 1) ls (v :: w :: v :: w :: st) h) : q_E g y R K u pc ls (v :: w :: st) h := by
  intro p e s m args below meth c Q ad0 n0 ad H locs L C F D hL hv h1 h2
  exact lv_dup2_11 C.1 C.2.1 hd (by rw [q_c_cat]; exact hc) (by rw [q_c_cat]; exact hc2) (k p e s m args below meth c Q ad0 n0 ad H locs L C F D hL (q_cs (q_hd hv) (q_cs (q_hd (q_tl hv)) hv)) h1 h2)
theorem xe_dup_x1 {g : q_G} {y : q_M} {R : Room} {K : List q_V → q_H → Prop} {u : Nat × Nat} {pc : Nat} {ls : List (Option q_V)} {st : List q_V} {h : q_H} {v w : q_V} (hd : decode y.2.1 pc = .ok (.dup_x1, 1)) (hc : q_sc v = 1) (hc2 : q_sc w = 1) (k : q_E g y R K u (pc + 1) ls (v :: w :: v :: st) h) : q_E g y R K u pc ls (v :: w :: st) h := by
  intro p e s m args below meth c Q ad0 n0 ad H locs L C F D hL hv h1 h2
  exact lv_dup_x1 C.1 C.2.1 hd (by rw [q_c_cat]; exact hc) (by rw [q_c_cat]; exact hc2) (k p e s m args below meth c Q ad0 n0 ad H locs L C F D hL (q_cs (q_hd hv) (q_cs (q_hd (q_tl hv)) (q_cs (q_hd hv) (q_tl (q_tl hv))))) h1 h2)
theorem xe_goto {g : q_G} {y : q_M} {R : Room} {K : List q_V → q_H → Prop} {u : Nat × Nat} {pc : Nat} {ls : List (Option q_V)} {st : List q_V} {h : q_H} {off : Int} (tgt : Nat) (hd : decode y.2.1 pc = .ok (.goto off, 3)) (ht : (pc : Int) + off = (tgt : Int)) (k : q_E g y R K u tgt ls st h) : q_E g y R K u pc ls st h := by
  intro p e s m args below meth c Q ad0 n0 ad H locs L C F D hL hv h1 h2
  exact lv_goto C.1 C.2.1 hd ht (k p e s m args below meth c Q ad0 n0 ad H locs L C F D hL hv h1 h2)
theorem xe_if_eq {g : q_G} {y : q_M} {R : Room} {K : List q_V → q_H → Prop} {u : Nat × Nat} {pc : Nat} {ls : List (Option q_V)} {st : List q_V} {h : q_H} {x : Int32} {off : Int} (tgt : Nat) (hd : decode y.2.1 pc = .ok (.ifCond .eq off, 3)) (ht : (pc : Int) + off = (tgt : Int)) (kt : x = 0 → q_E g y R K u tgt ls st h) (kf : ¬ x = 0 → q_E g y R K u (pc + 3) ls st h) : q_E g y R K u pc ls (q_I x :: st) h := by
  intro p e s m args below meth c Q ad0 n0 ad H locs L C F D hL hv h1 h2
  exact lv_if_eq C.1 C.2.1 hd ht (fun z => (kt z p e s m args below meth c Q ad0 n0 ad H locs L C F D hL (q_tl hv) h1 h2)) (fun z => (kf z p e s m args below meth c Q ad0 n0 ad H locs L C F D hL (q_tl hv) h1 h2))
theorem xe_if_ne {g : q_G} {y : q_M} {R : Room} {K : List q_V → q_H → Prop} {u : Nat × Nat} {pc : Nat} {ls : List (Option q_V)} {st : List q_V} {h : q_H} {x : Int32} {off : Int} (tgt : Nat) (hd : decode y.2.1 pc = .ok (.ifCond .ne off, 3)) (ht : (pc : Int) + off = (tgt : Int)) (kt : ¬ x = 0 → q_E g y R K u tgt ls st h) (kf : x = 0 → q_E g y R K u (pc + 3) ls st h) : q_E g y R K u pc ls (q_I x :: st) h := by
  intro p e s m args below meth c Q ad0 n0 ad H locs L C F D hL hv h1 h2
  exact lv_if_ne C.1 C.2.1 hd ht (fun z => (kt z p e s m args below meth c Q ad0 n0 ad H locs L C F D hL (q_tl hv) h1 h2)) (fun z => (kf z p e s m args below meth c Q ad0 n0 ad H locs L C F D hL (q_tl hv) h1 h2))
theorem xe_if_lt {g : q_G} {y : q_M} {R : Room} {K : List q_V → q_H → Prop} {u : Nat × Nat} {pc : Nat} {ls : List (Option q_V)} {st : List q_V} {h : q_H} {x : Int32} {off : Int} (tgt : Nat) (hd : decode y.2.1 pc = .ok (.ifCond .lt off, 3)) (ht : (pc : Int) + off = (tgt : Int)) (kt : x < 0 → q_E g y R K u tgt ls st h) (kf : ¬ x < 0 → q_E g y R K u (pc + 3) ls st h) : q_E g y R K u pc ls (q_I x :: st) h := by
  intro p e s m args below meth c Q ad0 n0 ad H locs L C F D hL hv h1 h2
  exact lv_if_lt C.1 C.2.1 hd ht (fun z => (kt z p e s m args below meth c Q ad0 n0 ad H locs L C F D hL (q_tl hv) h1 h2)) (fun z => (kf z p e s m args below meth c Q ad0 n0 ad H locs L C F D hL (q_tl hv) h1 h2))
theorem xe_if_ge {g : q_G} {y : q_M} {R : Room} {K : List q_V → q_H → Prop} {u : Nat × Nat} {pc : Nat} {ls : List (Option q_V)} {st : List q_V} {h : q_H} {x : Int32} {off : Int} (tgt : Nat) (hd : decode y.2.1 pc = .ok (.ifCond .ge off, 3)) (ht : (pc : Int) + off = (tgt : Int)) (kt : 0 ≤ x → q_E g y R K u tgt ls st h) (kf : ¬ 0 ≤ x → q_E g y R K u (pc + 3) ls st h) : q_E g y R K u pc ls (q_I x :: st) h := by
  intro p e s m args below meth c Q ad0 n0 ad H locs L C F D hL hv h1 h2
  exact lv_if_ge C.1 C.2.1 hd ht (fun z => (kt z p e s m args below meth c Q ad0 n0 ad H locs L C F D hL (q_tl hv) h1 h2)) (fun z => (kf z p e s m args below meth c Q ad0 n0 ad H locs L C F D hL (q_tl hv) h1 h2))
theorem xe_if_gt {g : q_G} {y : q_M} {R : Room} {K : List q_V → q_H → Prop} {u : Nat × Nat} {pc : Nat} {ls : List (Option q_V)} {st : List q_V} {h : q_H} {x : Int32} {off : Int} (tgt : Nat) (hd : decode y.2.1 pc = .ok (.ifCond .gt off, 3)) (ht : (pc : Int) + off = (tgt : Int)) (kt : 0 < x → q_E g y R K u tgt ls st h) (kf : ¬ 0 < x → q_E g y R K u (pc + 3) ls st h) : q_E g y R K u pc ls (q_I x :: st) h := by
  intro p e s m args below meth c Q ad0 n0 ad H locs L C F D hL hv h1 h2
  exact lv_if_gt C.1 C.2.1 hd ht (fun z => (kt z p e s m args below meth c Q ad0 n0 ad H locs L C F D hL (q_tl hv) h1 h2)) (fun z => (kf z p e s m args below meth c Q ad0 n0 ad H locs L C F D hL (q_tl hv) h1 h2))
theorem xe_if_le {g : q_G} {y : q_M} {R : Room} {K : List q_V → q_H → Prop} {u : Nat × Nat} {pc : Nat} {ls : List (Option q_V)} {st : List q_V} {h : q_H} {x : Int32} {off : Int} (tgt : Nat) (hd : decode y.2.1 pc = .ok (.ifCond .le off, 3)) (ht : (pc : Int) + off = (tgt : Int)) (kt : x ≤ 0 → q_E g y R K u tgt ls st h) (kf : ¬ x ≤ 0 → q_E g y R K u (pc + 3) ls st h) : q_E g y R K u pc ls (q_I x :: st) h := by
  intro p e s m args below meth c Q ad0 n0 ad H locs L C F D hL hv h1 h2
  exact lv_if_le C.1 C.2.1 hd ht (fun z => (kt z p e s m args below meth c Q ad0 n0 ad H locs L C F D hL (q_tl hv) h1 h2)) (fun z => (kf z p e s m args below meth c Q ad0 n0 ad H locs L C F D hL (q_tl hv) h1 h2))
theorem xe_ic_eq {g : q_G} {y : q_M} {R : Room} {K : List q_V → q_H → Prop} {u : Nat × Nat} {pc : Nat} {ls : List (Option q_V)} {st : List q_V} {h : q_H} {x z : Int32} {off : Int} (tgt : Nat) (hd : decode y.2.1 pc = .ok (.if_icmp .eq off, 3)) (ht : (pc : Int) + off = (tgt : Int)) (kt : x = z → q_E g y R K u tgt ls st h) (kf : ¬ x = z → q_E g y R K u (pc + 3) ls st h) : q_E g y R K u pc ls (q_I z :: q_I x :: st) h := by
  intro p e s m args below meth c Q ad0 n0 ad H locs L C F D hL hv h1 h2
  exact lv_icmp_eq C.1 C.2.1 hd ht (fun z => (kt z p e s m args below meth c Q ad0 n0 ad H locs L C F D hL (q_tl (q_tl hv)) h1 h2)) (fun z => (kf z p e s m args below meth c Q ad0 n0 ad H locs L C F D hL (q_tl (q_tl hv)) h1 h2))
theorem xe_ic_ne {g : q_G} {y : q_M} {R : Room} {K : List q_V → q_H → Prop} {u : Nat × Nat} {pc : Nat} {ls : List (Option q_V)} {st : List q_V} {h : q_H} {x z : Int32} {off : Int} (tgt : Nat) (hd : decode y.2.1 pc = .ok (.if_icmp .ne off, 3)) (ht : (pc : Int) + off = (tgt : Int)) (kt : ¬ x = z → q_E g y R K u tgt ls st h) (kf : x = z → q_E g y R K u (pc + 3) ls st h) : q_E g y R K u pc ls (q_I z :: q_I x :: st) h := by
  intro p e s m args below meth c Q ad0 n0 ad H locs L C F D hL hv h1 h2
  exact lv_icmp_ne C.1 C.2.1 hd ht (fun z => (kt z p e s m args below meth c Q ad0 n0 ad H locs L C F D hL (q_tl (q_tl hv)) h1 h2)) (fun z => (kf z p e s m args below meth c Q ad0 n0 ad H locs L C F D hL (q_tl (q_tl hv)) h1 h2))
theorem xe_ic_lt {g : q_G} {y : q_M} {R : Room} {K : List q_V → q_H → Prop} {u : Nat × Nat} {pc : Nat} {ls : List (Option q_V)} {st : List q_V} {h : q_H} {x z : Int32} {off : Int} (tgt : Nat) (hd : decode y.2.1 pc = .ok (.if_icmp .lt off, 3)) (ht : (pc : Int) + off = (tgt : Int)) (kt : x < z → q_E g y R K u tgt ls st h) (kf : ¬ x < z → q_E g y R K u (pc + 3) ls st h) : q_E g y R K u pc ls (q_I z :: q_I x :: st) h := by
  intro p e s m args below meth c Q ad0 n0 ad H locs L C F D hL hv h1 h2
  exact lv_icmp_lt C.1 C.2.1 hd ht (fun z => (kt z p e s m args below meth c Q ad0 n0 ad H locs L C F D hL (q_tl (q_tl hv)) h1 h2)) (fun z => (kf z p e s m args below meth c Q ad0 n0 ad H locs L C F D hL (q_tl (q_tl hv)) h1 h2))
theorem xe_ic_ge {g : q_G} {y : q_M} {R : Room} {K : List q_V → q_H → Prop} {u : Nat × Nat} {pc : Nat} {ls : List (Option q_V)} {st : List q_V} {h : q_H} {x z : Int32} {off : Int} (tgt : Nat) (hd : decode y.2.1 pc = .ok (.if_icmp .ge off, 3)) (ht : (pc : Int) + off = (tgt : Int)) (kt : z ≤ x → q_E g y R K u tgt ls st h) (kf : ¬ z ≤ x → q_E g y R K u (pc + 3) ls st h) : q_E g y R K u pc ls (q_I z :: q_I x :: st) h := by
  intro p e s m args below meth c Q ad0 n0 ad H locs L C F D hL hv h1 h2
  exact lv_icmp_ge C.1 C.2.1 hd ht (fun z => (kt z p e s m args below meth c Q ad0 n0 ad H locs L C F D hL (q_tl (q_tl hv)) h1 h2)) (fun z => (kf z p e s m args below meth c Q ad0 n0 ad H locs L C F D hL (q_tl (q_tl hv)) h1 h2))
theorem xe_ic_gt {g : q_G} {y : q_M} {R : Room} {K : List q_V → q_H → Prop} {u : Nat × Nat} {pc : Nat} {ls : List (Option q_V)} {st : List q_V} {h : q_H} {x z : Int32} {off : Int} (tgt : Nat) (hd : decode y.2.1 pc = .ok (.if_icmp .gt off, 3)) (ht : (pc : Int) + off = (tgt : Int)) (kt : z < x → q_E g y R K u tgt ls st h) (kf : ¬ z < x → q_E g y R K u (pc + 3) ls st h) : q_E g y R K u pc ls (q_I z :: q_I x :: st) h := by
  intro p e s m args below meth c Q ad0 n0 ad H locs L C F D hL hv h1 h2
  exact lv_icmp_gt C.1 C.2.1 hd ht (fun z => (kt z p e s m args below meth c Q ad0 n0 ad H locs L C F D hL (q_tl (q_tl hv)) h1 h2)) (fun z => (kf z p e s m args below meth c Q ad0 n0 ad H locs L C F D hL (q_tl (q_tl hv)) h1 h2))
theorem xe_ic_le {g : q_G} {y : q_M} {R : Room} {K : List q_V → q_H → Prop} {u : Nat × Nat} {pc : Nat} {ls : List (Option q_V)} {st : List q_V} {h : q_H} {x z : Int32} {off : Int} (tgt : Nat) (hd : decode y.2.1 pc = .ok (.if_icmp .le off, 3)) (ht : (pc : Int) + off = (tgt : Int)) (kt : x ≤ z → q_E g y R K u tgt ls st h) (kf : ¬ x ≤ z → q_E g y R K u (pc + 3) ls st h) : q_E g y R K u pc ls (q_I z :: q_I x :: st) h := by
  intro p e s m args below meth c Q ad0 n0 ad H locs L C F D hL hv h1 h2
  exact lv_icmp_le C.1 C.2.1 hd ht (fun z => (kt z p e s m args below meth c Q ad0 n0 ad H locs L C F D hL (q_tl (q_tl hv)) h1 h2)) (fun z => (kf z p e s m args below meth c Q ad0 n0 ad H locs L C F D hL (q_tl (q_tl hv)) h1 h2))
theorem xe_ifnullO {g : q_G} {y : q_M} {R : Room} {K : List q_V → q_H → Prop} {u : Nat × Nat} {pc : Nat} {ls : List (Option q_V)} {st : List q_V} {h : q_H} {q : Nat × Nat} {off : Int} (hd : decode y.2.1 pc = .ok (.ifnull off, 3)) (k : q_E g y R K u (pc + 3) ls st h) : q_E g y R K u pc ls (.inr q :: st) h := by
  intro p e s m args below meth c Q ad0 n0 ad H locs L C F D hL hv h1 h2
  exact lv_ifnull C.1 C.2.1 hd (k p e s m args below meth c Q ad0 n0 ad H locs L C F D hL (q_tl hv) h1 h2)
theorem xe_ifnullN {g : q_G} {y : q_M} {R : Room} {K : List q_V → q_H → Prop} {u : Nat × Nat} {pc : Nat} {ls : List (Option q_V)} {st : List q_V} {h : q_H} {off : Int} (tgt : Nat) (hd : decode y.2.1 pc = .ok (.ifnull off, 3)) (ht : (pc : Int) + off = (tgt : Int)) (k : q_E g y R K u tgt ls st h) : q_E g y R K u pc ls (q_N :: st) h := by
  intro p e s m args below meth c Q ad0 n0 ad H locs L C F D hL hv h1 h2
  exact lv_ifnullN C.1 C.2.1 hd ht (k p e s m args below meth c Q ad0 n0 ad H locs L C F D hL (q_tl hv) h1 h2)
theorem xe_ifnonnullO {g : q_G} {y : q_M} {R : Room} {K : List q_V → q_H → Prop} {u : Nat × Nat} {pc : Nat} {ls : List (Option q_V)} {st : List q_V} {h : q_H} {q : Nat × Nat} {off : Int} (tgt : Nat) (hd : decode y.2.1 pc = .ok (.ifnonnull off, 3)) (ht : (pc : Int) + off = (tgt : Int)) (k : q_E g y R K u tgt ls st h) : q_E g y R K u pc ls (.inr q :: st) h := by
  intro p e s m args below meth c Q ad0 n0 ad H locs L C F D hL hv h1 h2
  exact lv_ifnonnull C.1 C.2.1 hd ht (k p e s m args below meth c Q ad0 n0 ad H locs L C F D hL (q_tl hv) h1 h2)
theorem xe_ifnonnullN {g : q_G} {y : q_M} {R : Room} {K : List q_V → q_H → Prop} {u : Nat × Nat} {pc : Nat} {ls : List (Option q_V)} {st : List q_V} {h : q_H} {off : Int} (hd : decode y.2.1 pc = .ok (.ifnonnull off, 3)) (k : q_E g y R K u (pc + 3) ls st h) : q_E g y R K u pc ls (q_N :: st) h := by
  intro p e s m args below meth c Q ad0 n0 ad H locs L C F D hL hv h1 h2
  exact lv_ifnonnullN C.1 C.2.1 hd (k p e s m args below meth c Q ad0 n0 ad H locs L C F D hL (q_tl hv) h1 h2)
theorem xe_swOut {g : q_G} {y : q_M} {R : Room} {K : List q_V → q_H → Prop} {u : Nat × Nat} {pc : Nat} {ls : List (Option q_V)} {st : List q_V} {h : q_H} {dflt lo hi : Int} {offs : Array Int} {len : Nat} {x : Int32} (tgt : Nat) (hd : decode y.2.1 pc = .ok (.tableswitch dflt lo hi offs, len)) (hx : x.toInt < lo ∨ hi < x.toInt) (ht : (pc : Int) + dflt = (tgt : Int)) (k : q_E g y R K u tgt ls st h) : q_E g y R K u pc ls (q_I x :: st) h := by
  intro p e s m args below meth c Q ad0 n0 ad H locs L C F D hL hv h1 h2
  exact lv_tableOut C.1 C.2.1 hd hx ht (k p e s m args below meth c Q ad0 n0 ad H locs L C F D hL (q_tl hv) h1 h2)
theorem xe_swIn {g : q_G} {y : q_M} {R : Room} {K : List q_V → q_H → Prop} {u : Nat × Nat} {pc : Nat} {ls : List (Option q_V)} {st : List q_V} {h : q_H} {dflt lo hi : Int} {offs : Array Int} {len : Nat} {x : Int32} {off : Int} (tgt : Nat) (hd : decode y.2.1 pc = .ok (.tableswitch dflt lo hi offs, len)) (hx1 : ¬ x.toInt < lo) (hx2 : ¬ hi < x.toInt) (ho : offs[(x.toInt - lo).toNat]? = some off) (ht : (pc : Int) + off = (tgt : Int)) (k : q_E g y R K u tgt ls st h) : q_E g y R K u pc ls (q_I x :: st) h := by
  intro p e s m args below meth c Q ad0 n0 ad H locs L C F D hL hv h1 h2
  exact lv_tableIn C.1 C.2.1 hd hx1 hx2 ho ht (k p e s m args below meth c Q ad0 n0 ad H locs L C F D hL (q_tl hv) h1 h2)
theorem xe_iret {g : q_G} {y : q_M} {R : Room} {K : List q_V → q_H → Prop} {u : Nat × Nat} {pc : Nat} {ls : List (Option q_V)} {h : q_H} {x : Int32} (ty : FieldType) (hd : decode y.2.1 pc = .ok (.ireturn, 1)) (hy : y.2.2.2 = some ty) (hn : narrow ty (.int x) = .int x) (hk : K [q_I x] h) : q_E g y R K u pc ls [q_I x] h := by
  intro p e s m args below meth c Q ad0 n0 ad H locs L C F D hL hv h1 h2
  exact F pc L [q_I x] h ad H locs u hk D hv (Or.inl ⟨x, ty, rfl, hy, hn, hd⟩) h1 h2 hL.1
theorem xe_vret {g : q_G} {y : q_M} {R : Room} {K : List q_V → q_H → Prop} {u : Nat × Nat} {pc : Nat} {ls : List (Option q_V)} {h : q_H} (hd : decode y.2.1 pc = .ok (.return_, 1)) (hy : y.2.2.2 = none) (hk : K [] h) : q_E g y R K u pc ls [] h := by
  intro p e s m args below meth c Q ad0 n0 ad H locs L C F D hL hv h1 h2
  exact F pc L [] h ad H locs u hk D hv (Or.inr (Or.inl ⟨rfl, hy, hd⟩)) h1 h2 hL.1
theorem xe_aretN {g : q_G} {y : q_M} {R : Room} {K : List q_V → q_H → Prop} {u : Nat × Nat} {pc : Nat} {ls : List (Option q_V)} {h : q_H} {C0 : String} (hd : decode y.2.1 pc = .ok (.areturn, 1)) (hy : y.2.2.2 = some (.object C0)) (hk : K [q_N] h) : q_E g y R K u pc ls [q_N] h := by
  intro p e s m args below meth c Q ad0 n0 ad H locs L C F D hL hv h1 h2
  exact F pc L [q_N] h ad H locs u hk D hv (Or.inr (Or.inr (Or.inl ⟨_, C0, rfl, hy, Or.inl rfl, hd⟩))) h1 h2 hL.1
theorem xe_aretO {g : q_G} {y : q_M} {R : Room} {K : List q_V → q_H → Prop} {u : Nat × Nat} {pc : Nat} {ls : List (Option q_V)} {h : q_H} {q : Nat × Nat} {C0 : String} (hd : decode y.2.1 pc = .ok (.areturn, 1)) (hy : y.2.2.2 = some (.object C0)) (hk : K [.inr q] h) : q_E g y R K u pc ls [.inr q] h := by
  intro p e s m args below meth c Q ad0 n0 ad H locs L C F D hL hv h1 h2
  exact F pc L [.inr q] h ad H locs u hk D hv (Or.inr (Or.inr (Or.inl ⟨_, C0, rfl, hy, Or.inr ⟨q, rfl⟩, hd⟩))) h1 h2 hL.1
theorem xe_exit {g : q_G} {y : q_M} {R : Room} {K : List q_V → q_H → Prop} {ls : List (Option q_V)} {h : q_H} (hy : y.1.cls = RX10 ∧ y.1.name = "brought") (hk : K [] h) : q_E g y R K (0, 0) 18 ls [] h := by
  intro p e s m args below meth c Q ad0 n0 ad H locs L C F D hL hv h1 h2
  exact F 18 L [] h ad H locs (0, 0) hk D hv (Or.inr (Or.inr (Or.inr ⟨rfl, hy.1, hy.2, rfl, rfl⟩))) h1 h2 hL.1
