def q_pk1 (h : q_H) (x1 x2 x3 x4 : Int32) : q_H := q_sr (q_pi (q_nu h 4) (h.2.2 4) x3 x4 x1 x2 (h.1 10 0 12)) 38 0 (h.1 10 0 9).toNatClampNeg (some (4, h.2.2 4))
def q_str1 (h : q_H) (x1 x2 x3 x4 : Int32) : q_H := q_sr (q_ti (q_nu h 9) (h.2.2 9) x1 x2 x3 x4) 37 0 (h.1 10 0 8).toNatClampNeg (some (9, h.2.2 9))
theorem q_st_ne : ∀ c k x, q_st c k = some x → c ≠ 3 ∧ c ≠ 4 ∧ c ≠ 9 ∧ c ≠ 36 ∧ c ≠ 37 ∧ c ≠ 38 ∧ c ≠ 0 ∧ c ≠ 39 := by
  intro c k x hx
  refine ⟨?_, ?_, ?_, ?_, ?_, ?_, ?_, ?_⟩ <;> (rintro rfl; simp [q_st] at hx)
theorem q_Sh_pack {t p : Nat} {s : q_S} {a : qa} (hS : q_Sh t p s) (hp : p < 100) (ha : (a 10 0 9).toNatClampNeg = p) (x1 x2 x3 x4 : Int32) : q_Sh t (p + 1) (q_pk1 (a, s) x1 x2 x3 x4).2 := by
  obtain ⟨s1, s2, s3, s4, s5, s6, s7, s8, s9, s10, s11, s12, s13, s14⟩ := hS
  have er : ∀ d j n, (q_pk1 (a, s) x1 x2 x3 x4).2.1 d j n = if d = 38 ∧ j = 0 ∧ n = p then some (4, p) else if d = 4 ∧ j = p then none else s.1 d j n := by
    intro d j n
    show (if d = 38 ∧ j = 0 ∧ n = (a 10 0 9).toNatClampNeg then some (4, s.2 4) else if d = 4 ∧ j = s.2 4 then none else s.1 d j n) = _
    rw [ha, s10]
  have ec : ∀ d, (q_pk1 (a, s) x1 x2 x3 x4).2.2 d = if d = 4 then p + 1 else s.2 d := by
    intro d
    show (if d = 4 then s.2 4 + 1 else s.2 d) = _
    rw [s10]
  have ne : ∀ d j n, d ≠ 38 → d ≠ 4 → (q_pk1 (a, s) x1 x2 x3 x4).2.1 d j n = s.1 d j n := by
    intro d j n h1 h2
    rw [er, if_neg (fun z => h1 z.1), if_neg (fun z => h2 z.1)]
  refine ⟨fun c k x hx => ?_, fun b k hb hk => ?_, fun i hi => ?_, fun i j hi hj => ?_, fun j => ?_, fun j => ?_, fun j hj => ?_, ?_, ?_, ?_, ?_, ?_, s13, by omega⟩
  · obtain ⟨-, n4, -, -, -, n38, -⟩ := q_st_ne c k x hx
    rw [ne c 0 k n38 n4]
    exact s1 c k x hx
  · rw [ne 0 b k (by decide) (by decide)]; exact s2 b k hb hk
  · rw [ne 9 i 0 (by decide) (by decide)]; exact s3 i hi
  · rw [ne 36 i j (by decide) (by decide)]; exact s4 i j hi hj
  · rw [ne 37 0 j (by decide) (by decide)]; exact s5 j
  · rw [er]
    by_cases hj : j = p
    · subst hj
      rw [if_pos ⟨rfl, rfl, rfl⟩, if_pos (by omega)]
      rfl
    · rw [if_neg (fun z => hj z.2.2), if_neg (fun z => absurd z.1 (by decide)), s6]
      by_cases hl : j < p
      · rw [if_pos hl, if_pos (by omega)]
      · rw [if_neg hl, if_neg (by omega)]
  · rw [ne 39 0 j (by decide) (by decide)]; exact s7 j hj
  · rw [ec]; exact s8
  · rw [ec]; exact s9
  · rw [ec, if_pos rfl]
  · rw [ec]; exact s11
  · rw [ec]; exact s12
theorem q_Sh_string {t p : Nat} {s : q_S} {a : qa} (hS : q_Sh t p s) (ht : t < 4) (ha : (a 10 0 8).toNatClampNeg = t) (x1 x2 x3 x4 : Int32) : q_Sh (t + 1) p (q_str1 (a, s) x1 x2 x3 x4).2 := by
  obtain ⟨s1, s2, s3, s4, s5, s6, s7, s8, s9, s10, s11, s12, s13, s14⟩ := hS
  have er : ∀ d j n, (q_str1 (a, s) x1 x2 x3 x4).2.1 d j n = if d = 37 ∧ j = 0 ∧ n = t then some (9, t) else if d = 36 ∧ j = t ∧ n = 2 then some (3, 3 * t + 2) else if d = 3 ∧ j = 3 * t + 2 then none else if d = 36 ∧ j = t ∧ n = 1 then some (3, 3 * t + 1) else if d = 3 ∧ j = 3 * t + 1 then none else if d = 36 ∧ j = t ∧ n = 0 then some (3, 3 * t) else if d = 3 ∧ j = 3 * t then none else if d = 9 ∧ j = t ∧ n = 0 then some (36, t) else if d = 36 ∧ j = t then none else if d = 9 ∧ j = t then none else s.1 d j n := by
    intro d j n
    show (if d = 37 ∧ j = 0 ∧ n = (a 10 0 8).toNatClampNeg then some (9, s.2 9) else if d = 36 ∧ j = s.2 36 ∧ n = 2 then some (3, s.2 3 + 1 + 1) else if d = 3 ∧ j = s.2 3 + 1 + 1 then none else if d = 36 ∧ j = s.2 36 ∧ n = 1 then some (3, s.2 3 + 1) else if d = 3 ∧ j = s.2 3 + 1 then none else if d = 36 ∧ j = s.2 36 ∧ n = 0 then some (3, s.2 3) else if d = 3 ∧ j = s.2 3 then none else if d = 9 ∧ j = s.2 9 ∧ n = 0 then some (36, s.2 36) else if d = 36 ∧ j = s.2 36 then none else if d = 9 ∧ j = s.2 9 then none else s.1 d j n) = _
    rw [ha, s9, s11, s12]
  have ec : ∀ d, (q_str1 (a, s) x1 x2 x3 x4).2.2 d = if d = 3 then 3 * t + 3 else if d = 36 then t + 1 else if d = 9 then t + 1 else s.2 d := by
    intro d
    show (if d = 3 then s.2 3 + 1 + 1 + 1 else if d = 3 then s.2 3 + 1 + 1 else if d = 3 then s.2 3 + 1 else if d = 36 then s.2 36 + 1 else if d = 9 then s.2 9 + 1 else s.2 d) = _
    rw [s9, s11, s12]
    by_cases h3 : d = 3
    · rw [if_pos h3, if_pos h3]
    · rw [if_neg h3, if_neg h3, if_neg h3, if_neg h3]
  have ne : ∀ d j n, d ≠ 37 → d ≠ 36 → d ≠ 3 → d ≠ 9 → (q_str1 (a, s) x1 x2 x3 x4).2.1 d j n = s.1 d j n := by
    intro d j n h1 h2 h3 h4
    rw [er, if_neg (fun z => h1 z.1), if_neg (fun z => h2 z.1), if_neg (fun z => h3 z.1), if_neg (fun z => h2 z.1), if_neg (fun z => h3 z.1), if_neg (fun z => h2 z.1), if_neg (fun z => h3 z.1), if_neg (fun z => h4 z.1), if_neg (fun z => h2 z.1), if_neg (fun z => h4 z.1)]
  refine ⟨fun c k x hx => ?_, fun b k hb hk => ?_, fun i hi => ?_, fun i j hi hj => ?_, fun j => ?_, fun j => ?_, fun j hj => ?_, ?_, ?_, ?_, ?_, ?_, by omega, s14⟩
  · obtain ⟨n3, n4, n9, n36, n37, n38, -⟩ := q_st_ne c k x hx
    rw [ne c 0 k n37 n36 n3 n9]
    exact s1 c k x hx
  · rw [ne 0 b k (by decide) (by decide) (by decide) (by decide)]; exact s2 b k hb hk
  · rw [er]
    by_cases hit : i = t
    · subst hit
      simp
    · have := s3 i (by omega)
      simp [hit, this]
  · rw [er]
    by_cases hit : i = t
    · subst hit
      rcases (show j = 0 ∨ j = 1 ∨ j = 2 by omega) with rfl | rfl | rfl <;> simp
    · have := s4 i j (by omega) hj
      simp [hit, this]
  · rw [er]
    by_cases hj : j = t
    · subst hj
      simp [q_om]
    · have := s5 j
      simp [hj, this]
      by_cases hl : j < t
      · rw [if_pos hl, if_pos (by omega)]
      · rw [if_neg hl, if_neg (by omega)]
  · rw [ne 38 0 j (by decide) (by decide) (by decide) (by decide)]; exact s6 j
  · rw [ne 39 0 j (by decide) (by decide) (by decide) (by decide)]; exact s7 j hj
  · rw [ec]; exact s8
  · rw [ec]; simp
  · rw [ec]; exact s10
  · rw [ec]; simp; omega
  · rw [ec]; simp
def wp_X10_string (t p : Nat) (s : q_S) (x1 x2 x3 x4 : Int32) (a : qa) (post : Int32 → q_H → Prop) : Prop := wp_X6_hasInn t p x1 a (fun r a5 => a5 = a ∧ (r = 0 → post (-1) (a, s)) ∧ (¬ r = 0 → (¬ a 10 0 8 < 4 → post (-1) (a, s)) ∧ (a 10 0 8 < 4 → wp_X10_isStrength t p x2 a (fun r a5 => a5 = a ∧ (r = 0 → post (-1) (a, s)) ∧ (¬ r = 0 → wp_X10_isStrength t p x3 a (fun r a5 => a5 = a ∧ (r = 0 → post (-1) (a, s)) ∧ (¬ r = 0 → wp_X10_isStrength t p x4 a (fun r a5 => a5 = a ∧ (r = 0 → post (-1) (a, s)) ∧ (¬ r = 0 → (vp_in (a 10 0 8) 4 ∧ ∀ h3, h3 = q_str1 (a, s) x1 x2 x3 x4 → post (h3.1 10 0 8 + 1 - 1) (q_set h3 10 0 8 (h3.1 10 0 8 + 1))))))))))))
def wp_X10_pack (t p : Nat) (s : q_S) (x1 x2 x3 x4 : Int32) (a : qa) (post : Int32 → q_H → Prop) : Prop := wp_X6_hasInn t p x1 a (fun r a5 => a5 = a ∧ (r = 0 → post (-1) (a, s)) ∧ (¬ r = 0 → wp_X6_hasInn t p x2 a (fun r a5 => a5 = a ∧ (r = 0 → post (-1) (a, s)) ∧ (¬ r = 0 → ((¬ x1 = x2 → ((x3 < 0 → post (-1) (a, s)) ∧ (¬ x3 < 0 → ((3 < x3 → post (-1) (a, s)) ∧ (¬ 3 < x3 → ((x4 < 1 → post (-1) (a, s)) ∧ (¬ x4 < 1 → ((60 < x4 → post (-1) (a, s)) ∧ (¬ 60 < x4 → ((a 10 0 9 < 100 → (vp_in (a 10 0 9) 100 ∧ q_Sh t (p + 1) (q_pk1 (a, s) x1 x2 x3 x4).2 ∧ ∀ h3, h3 = q_pk1 (a, s) x1 x2 x3 x4 → wp_X2_add t (p + 1) (h3.1 10 0 9) (h3.1 10 0 12) x1 h3.1 (fun a9 => post (a9 10 0 9 + 1 - 1) (q_set (a9, h3.2) 10 0 9 (a9 10 0 9 + 1))))) ∧ (¬ a 10 0 9 < 100 → post (-1) (a, s)))))))))))) ∧ (x1 = x2 → post (-1) (a, s)))))))
section QM3
variable {g : q_G} {s : q_S} {t p : Nat}
set_option maxHeartbeats 4000000 in
theorem cm_X10_string (hS : q_Sh t p s) {a : qa} {x1 x2 x3 x4 : Int32} {post : Int32 → q_H → Prop} (Wq : wp_X10_string t p s x1 x2 x3 x4 a post) : q_Ct g mX10_string (q_Rm 4 5 33) [q_O 10 0, q_I x1, q_I x2, q_I x3, q_I x4] (a, s) (fun v h' => ∃ x, v = [q_I x] ∧ post x h') := by
  refine q_mk rfl rfl (Nat.le_of_ble_eq_true rfl) (q_cs rfl (q_cs rfl (q_cs rfl (q_cs rfl (q_cs rfl q_nil))))) (fun hv => ?_)
  unfold wp_X10_string at Wq
  refine xe_aload_n dX10_string_0 rfl q_rvO ?_
  refine xe_getr dX10_string_1 fX10_10 (fun _ _ => rfl) (q_sg hS rfl) ?_
  refine xe_iload_n dX10_string_4 rfl ?_
  refine xe_cv (y' := mX6_hasInn) dX10_string_5 (Or.inl lX10_85) tX6_hasInn rfl rfl (ct_X6_hasInn hS Wq) rfl rfl (Nat.le_of_ble_eq_true rfl) ⟨Nat.le_of_ble_eq_true rfl, Nat.le_of_ble_eq_true rfl⟩ ⟨Nat.le_of_ble_eq_true rfl, Nat.le_of_ble_eq_true rfl⟩ (fun v1 h1 hl1 hk1 hm1 => ?_)
  obtain ⟨r5, a5, rfl, rfl, rfl, Wf, Wq⟩ := hk1
  refine xe_if_eq 19 dX10_string_8 (by decide) (fun c_8 => ?_) (fun c_8 => ?_)
  · refine xe_iconst (-1) dX10_string_19 (by decide) ?_
    exact xe_iret .int dX10_string_20 rfl rfl ⟨_, rfl, Wf c_8⟩
  · have Wq := Wq c_8
    refine xe_aload_n dX10_string_11 rfl q_rvO ?_
    refine xe_geti dX10_string_12 fX10_64 (fun _ _ => rfl) ?_
    refine xe_iconst 4 dX10_string_15 (by decide) ?_
    refine xe_ic_lt 21 dX10_string_16 (by decide) (fun c_16 => ?_) (fun c_16 => ?_)
    · replace Wq := Wq.2 c_16
      refine xe_iload_n dX10_string_21 rfl ?_
      refine xe_cs (y' := mX10_isStrength) dX10_string_22 (Or.inl lX10_89) tX10_isStrength (ct_X10_isStrength hS Wq) rfl rfl (Nat.le_of_ble_eq_true rfl) ⟨Nat.le_of_ble_eq_true rfl, Nat.le_of_ble_eq_true rfl⟩ ⟨Nat.le_of_ble_eq_true rfl, Nat.le_of_ble_eq_true rfl⟩ (fun v1 h1 hl1 hk1 hm1 => ?_)
      obtain ⟨r5, a5, rfl, rfl, rfl, Wf, Wq⟩ := hk1
      refine xe_if_eq 43 dX10_string_25 (by decide) (fun c_25 => ?_) (fun c_25 => ?_)
      · refine xe_iconst (-1) dX10_string_43 (by decide) ?_
        exact xe_iret .int dX10_string_44 rfl rfl ⟨_, rfl, Wf c_25⟩
      · replace Wq := Wq c_25
        refine xe_iload_n dX10_string_28 rfl ?_
        refine xe_cs (y' := mX10_isStrength) dX10_string_29 (Or.inl lX10_89) tX10_isStrength (ct_X10_isStrength hS Wq) rfl rfl (Nat.le_of_ble_eq_true rfl) ⟨Nat.le_of_ble_eq_true rfl, Nat.le_of_ble_eq_true rfl⟩ ⟨Nat.le_of_ble_eq_true rfl, Nat.le_of_ble_eq_true rfl⟩ (fun v1 h1 hl1 hk1 hm1 => ?_)
        obtain ⟨r5, a5, rfl, rfl, rfl, Wf, Wq⟩ := hk1
        refine xe_if_eq 43 dX10_string_32 (by decide) (fun c_32 => ?_) (fun c_32 => ?_)
        · refine xe_iconst (-1) dX10_string_43 (by decide) ?_
          exact xe_iret .int dX10_string_44 rfl rfl ⟨_, rfl, Wf c_32⟩
        · replace Wq := Wq c_32
          refine xe_iload dX10_string_35 rfl ?_
          refine xe_cs (y' := mX10_isStrength) dX10_string_37 (Or.inl lX10_89) tX10_isStrength (ct_X10_isStrength hS Wq) rfl rfl (Nat.le_of_ble_eq_true rfl) ⟨Nat.le_of_ble_eq_true rfl, Nat.le_of_ble_eq_true rfl⟩ ⟨Nat.le_of_ble_eq_true rfl, Nat.le_of_ble_eq_true rfl⟩ (fun v1 h1 hl1 hk1 hm1 => ?_)
          obtain ⟨r5, a5, rfl, rfl, rfl, Wf, Wq⟩ := hk1
          refine xe_if_ne 45 dX10_string_40 (by decide) (fun c_40 => ?_) (fun c_40 => ?_)
          · replace Wq := Wq c_40
            obtain ⟨hj, Wq⟩ := Wq
            refine xe_aload_n dX10_string_45 rfl q_rvO ?_
            refine xe_getr dX10_string_46 fX10_18 (fun _ _ => rfl) (q_sg hS rfl) ?_
            refine xe_aload_n dX10_string_49 rfl q_rvO ?_
            refine xe_geti dX10_string_50 fX10_64 (fun _ _ => rfl) ?_
            refine xe_new (c := 9) dX10_string_53 rfl kX10_16 q_ins9.1 q_ins9.2 (Nat.le_of_ble_eq_true rfl) (Nat.le_of_ble_eq_true rfl) ?_
            refine xe_dup dX10_string_56 rfl ?_
            refine xe_iload_n dX10_string_57 rfl ?_
            refine xe_iload_n dX10_string_58 rfl ?_
            refine xe_iload_n dX10_string_59 rfl ?_
            refine xe_iload dX10_string_60 rfl ?_
            refine xe_ci (y' := mX9_init) dX10_string_62 (Or.inl lX10_92) tX9_init (cm_X9_init) rfl rfl (Nat.le_of_ble_eq_true rfl) ⟨Nat.le_of_ble_eq_true rfl, Nat.le_of_ble_eq_true rfl⟩ ⟨Nat.le_of_ble_eq_true rfl, Nat.le_of_ble_eq_true rfl⟩ (fun v1 h1 hl1 hk1 hm1 => ?_)
            obtain ⟨rfl, rfl⟩ := hk1
            refine xe_aast (q := (RX9, TX9, 6)) dX10_string_65 rfl rfl hj ?_
            refine xe_aload_n dX10_string_66 rfl q_rvO ?_
            refine xe_dup dX10_string_67 rfl ?_
            refine xe_geti dX10_string_68 fX10_64 (fun _ _ => rfl) ?_
            refine xe_iconst 1 dX10_string_71 (by decide) ?_
            refine xe_iadd dX10_string_72 ?_
            refine xe_puti dX10_string_73 fX10_64 (fun q hq => Or.inl (by cases hq; rfl)) ⟨rfl, rfl⟩ (fun _ _ => rfl) ?_
            refine xe_aload_n dX10_string_76 rfl q_rvO ?_
            refine xe_geti dX10_string_77 fX10_64 (fun _ _ => rfl) ?_
            refine xe_iconst 1 dX10_string_80 (by decide) ?_
            refine xe_isub dX10_string_81 ?_
            refine xe_iret .int dX10_string_82 rfl rfl ?_
            exact ⟨_, rfl, Wq _ rfl⟩
          · refine xe_iconst (-1) dX10_string_43 (by decide) ?_
            exact xe_iret .int dX10_string_44 rfl rfl ⟨_, rfl, Wf c_40⟩
    · have Wf := Wq.1 c_16
      refine xe_iconst (-1) dX10_string_19 (by decide) ?_
      refine xe_iret .int dX10_string_20 rfl rfl ?_
      exact ⟨_, rfl, Wf⟩
set_option maxHeartbeats 4000000 in
theorem cm_X10_pack (hS : q_Sh t p s) {a : qa} {x1 x2 x3 x4 : Int32} {post : Int32 → q_H → Prop} (Wq : wp_X10_pack t p s x1 x2 x3 x4 a post) : q_Ct g mX10_pack (q_Rm 4 1 10) [q_O 10 0, q_I x1, q_I x2, q_I x3, q_I x4] (a, s) (fun v h' => ∃ x, v = [q_I x] ∧ post x h') := by
  refine q_mk rfl rfl (Nat.le_of_ble_eq_true rfl) (q_cs rfl (q_cs rfl (q_cs rfl (q_cs rfl (q_cs rfl q_nil))))) (fun hv => ?_)
  unfold wp_X10_pack at Wq
  refine xe_aload_n dX10_pack_0 rfl q_rvO ?_
  refine xe_getr dX10_pack_1 fX10_10 (fun _ _ => rfl) (q_sg hS rfl) ?_
  refine xe_iload_n dX10_pack_4 rfl ?_
  refine xe_cv (y' := mX6_hasInn) dX10_pack_5 (Or.inl lX10_85) tX6_hasInn rfl rfl (ct_X6_hasInn hS Wq) rfl rfl (Nat.le_of_ble_eq_true rfl) ⟨Nat.le_of_ble_eq_true rfl, Nat.le_of_ble_eq_true rfl⟩ ⟨Nat.le_of_ble_eq_true rfl, Nat.le_of_ble_eq_true rfl⟩ (fun v1 h1 hl1 hk1 hm1 => ?_)
  obtain ⟨r5, a5, rfl, rfl, rfl, Wf, Wq⟩ := hk1
  refine xe_if_eq 27 dX10_pack_8 (by decide) (fun c_8 => ?_) (fun c_8 => ?_)
  · refine xe_iconst (-1) dX10_pack_27 (by decide) ?_
    exact xe_iret .int dX10_pack_28 rfl rfl ⟨_, rfl, Wf c_8⟩
  · replace Wq := Wq c_8
    refine xe_aload_n dX10_pack_11 rfl q_rvO ?_
    refine xe_getr dX10_pack_12 fX10_10 (fun _ _ => rfl) (q_sg hS rfl) ?_
    refine xe_iload_n dX10_pack_15 rfl ?_
    refine xe_cv (y' := mX6_hasInn) dX10_pack_16 (Or.inl lX10_85) tX6_hasInn rfl rfl (ct_X6_hasInn hS Wq) rfl rfl (Nat.le_of_ble_eq_true rfl) ⟨Nat.le_of_ble_eq_true rfl, Nat.le_of_ble_eq_true rfl⟩ ⟨Nat.le_of_ble_eq_true rfl, Nat.le_of_ble_eq_true rfl⟩ (fun v1 h1 hl1 hk1 hm1 => ?_)
    obtain ⟨r5, a5, rfl, rfl, rfl, Wf, Wq⟩ := hk1
    refine xe_if_eq 27 dX10_pack_19 (by decide) (fun c_19 => ?_) (fun c_19 => ?_)
    · refine xe_iconst (-1) dX10_pack_27 (by decide) ?_
      exact xe_iret .int dX10_pack_28 rfl rfl ⟨_, rfl, Wf c_19⟩
    · replace Wq := Wq c_19
      refine xe_iload_n dX10_pack_22 rfl ?_
      refine xe_iload_n dX10_pack_23 rfl ?_
      refine xe_ic_ne 29 dX10_pack_24 (by decide) (fun c_24 => ?_) (fun c_24 => ?_)
      · replace Wq := Wq.1 c_24
        refine xe_iload_n dX10_pack_29 rfl ?_
        refine xe_if_lt 60 dX10_pack_30 (by decide) (fun c_30 => ?_) (fun c_30 => ?_)
        · refine xe_iconst (-1) dX10_pack_60 (by decide) ?_
          exact xe_iret .int dX10_pack_61 rfl rfl ⟨_, rfl, Wq.1 c_30⟩
        · replace Wq := Wq.2 c_30
          refine xe_iload_n dX10_pack_33 rfl ?_
          refine xe_iconst 3 dX10_pack_34 (by decide) ?_
          refine xe_ic_gt 60 dX10_pack_35 (by decide) (fun c_35 => ?_) (fun c_35 => ?_)
          · refine xe_iconst (-1) dX10_pack_60 (by decide) ?_
            exact xe_iret .int dX10_pack_61 rfl rfl ⟨_, rfl, Wq.1 c_35⟩
          · replace Wq := Wq.2 c_35
            refine xe_iload dX10_pack_38 rfl ?_
            refine xe_iconst 1 dX10_pack_40 (by decide) ?_
            refine xe_ic_lt 60 dX10_pack_41 (by decide) (fun c_41 => ?_) (fun c_41 => ?_)
            · refine xe_iconst (-1) dX10_pack_60 (by decide) ?_
              exact xe_iret .int dX10_pack_61 rfl rfl ⟨_, rfl, Wq.1 c_41⟩
            · replace Wq := Wq.2 c_41
              refine xe_iload dX10_pack_44 rfl ?_
              refine xe_bipush 60 dX10_pack_46 (by decide) ?_
              refine xe_ic_gt 60 dX10_pack_48 (by decide) (fun c_48 => ?_) (fun c_48 => ?_)
              · refine xe_iconst (-1) dX10_pack_60 (by decide) ?_
                exact xe_iret .int dX10_pack_61 rfl rfl ⟨_, rfl, Wq.1 c_48⟩
              · replace Wq := Wq.2 c_48
                refine xe_aload_n dX10_pack_51 rfl q_rvO ?_
                refine xe_geti dX10_pack_52 fX10_68 (fun _ _ => rfl) ?_
                refine xe_bipush 100 dX10_pack_55 (by decide) ?_
                refine xe_ic_lt 62 dX10_pack_57 (by decide) (fun c_57 => ?_) (fun c_57 => ?_)
                · obtain ⟨hj, hS2, Wq⟩ := Wq.1 c_57
                  replace Wq := Wq _ rfl
                  refine xe_aload_n dX10_pack_62 rfl q_rvO ?_
                  refine xe_getr dX10_pack_63 fX10_24 (fun _ _ => rfl) (q_sg hS rfl) ?_
                  refine xe_aload_n dX10_pack_66 rfl q_rvO ?_
                  refine xe_geti dX10_pack_67 fX10_68 (fun _ _ => rfl) ?_
                  refine xe_new (c := 4) dX10_pack_70 rfl kX10_22 q_ins4.1 q_ins4.2 (Nat.le_of_ble_eq_true rfl) (Nat.le_of_ble_eq_true rfl) ?_
                  refine xe_dup dX10_pack_73 rfl ?_
                  refine xe_iload_n dX10_pack_74 rfl ?_
                  refine xe_iload dX10_pack_75 rfl ?_
                  refine xe_iload_n dX10_pack_77 rfl ?_
                  refine xe_iload_n dX10_pack_78 rfl ?_
                  refine xe_aload_n dX10_pack_79 rfl q_rvO ?_
                  refine xe_geti dX10_pack_80 fX10_77 (fun _ _ => rfl) ?_
                  refine xe_ci (y' := mX4_init) dX10_pack_83 (Or.inl lX10_109) tX4_init (cm_X4_init) rfl rfl (Nat.le_of_ble_eq_true rfl) ⟨Nat.le_of_ble_eq_true rfl, Nat.le_of_ble_eq_true rfl⟩ ⟨Nat.le_of_ble_eq_true rfl, Nat.le_of_ble_eq_true rfl⟩ (fun v1 h1 hl1 hk1 hm1 => ?_)
                  obtain ⟨rfl, rfl⟩ := hk1
                  refine xe_aast (q := (RX4, TX4, 10)) dX10_pack_86 rfl rfl hj ?_
                  refine xe_aload_n dX10_pack_87 rfl q_rvO ?_
                  refine xe_getr dX10_pack_88 fX10_37 (fun _ _ => rfl) (q_sg hS2 rfl) ?_
                  refine xe_aload_n dX10_pack_91 rfl q_rvO ?_
                  refine xe_geti dX10_pack_92 fX10_68 (fun _ _ => rfl) ?_
                  refine xe_aload_n dX10_pack_95 rfl q_rvO ?_
                  refine xe_geti dX10_pack_96 fX10_77 (fun _ _ => rfl) ?_
                  refine xe_iload_n dX10_pack_99 rfl ?_
                  refine xe_cv (y' := mX2_add) dX10_pack_100 (Or.inl lX10_112) tX2_add rfl rfl (ct_X2_add hS2 Wq) rfl rfl (Nat.le_of_ble_eq_true rfl) ⟨Nat.le_of_ble_eq_true rfl, Nat.le_of_ble_eq_true rfl⟩ ⟨Nat.le_of_ble_eq_true rfl, Nat.le_of_ble_eq_true rfl⟩ (fun v1 h1 hl1 hk1 hm1 => ?_)
                  obtain ⟨a9, rfl, rfl, Wq⟩ := hk1
                  refine xe_aload_n dX10_pack_103 rfl q_rvO ?_
                  refine xe_dup dX10_pack_104 rfl ?_
                  refine xe_geti dX10_pack_105 fX10_68 (fun _ _ => rfl) ?_
                  refine xe_iconst 1 dX10_pack_108 (by decide) ?_
                  refine xe_iadd dX10_pack_109 ?_
                  refine xe_puti dX10_pack_110 fX10_68 (fun q hq => Or.inl (by cases hq; rfl)) ⟨rfl, rfl⟩ (fun _ _ => rfl) ?_
                  refine xe_aload_n dX10_pack_113 rfl q_rvO ?_
                  refine xe_geti dX10_pack_114 fX10_68 (fun _ _ => rfl) ?_
                  refine xe_iconst 1 dX10_pack_117 (by decide) ?_
                  refine xe_isub dX10_pack_118 ?_
                  refine xe_iret .int dX10_pack_119 rfl rfl ?_
                  exact ⟨_, rfl, Wq⟩
                · refine xe_iconst (-1) dX10_pack_60 (by decide) ?_
                  exact xe_iret .int dX10_pack_61 rfl rfl ⟨_, rfl, Wq.2 c_57⟩
      · refine xe_iconst (-1) dX10_pack_27 (by decide) ?_
        exact xe_iret .int dX10_pack_28 rfl rfl ⟨_, rfl, Wq.2 c_24⟩
end QM3
