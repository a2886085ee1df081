def wp_X0_addRule (t p : Nat) (i0 : Nat) (x1 : Int32) (a : qa) (post : qa → Prop) : Prop := (((a 0 i0 5) < 20 → vp_in (a 0 i0 5) 20 ∧ vp_in (a 0 i0 5) 20 ∧ post (qs (qs (qs a 12 i0 ((a 0 i0 5).toNatClampNeg) (a 0 i0 6)) 13 i0 ((a 0 i0 5).toNatClampNeg) x1) 0 i0 5 ((a 0 i0 5) + 1))) ∧ (¬ (a 0 i0 5) < 20 → post a))
set_option maxHeartbeats 4000000 in
theorem ct_X0_addRule {g : q_G} {s : q_S} {t p : Nat} (hS : q_Sh t p s) {i0 : Nat} {x1 : Int32} {a : qa} {post : qa → Prop} (Wq : wp_X0_addRule t p i0 x1 a post) : q_Ct g mX0_addRule (q_Rm 1 0 0) [q_O 0 i0, q_I x1] (a, s) (q_kV s post) := by
  refine q_mk rfl rfl (Nat.le_of_ble_eq_true rfl) (q_cs rfl (q_cs rfl q_nil)) (fun hv => ?_)
  have hi0 : i0 < 10 := q_lt0 hS (q_hd hv)
  unfold wp_X0_addRule at Wq
  refine xe_aload_n dX0_addRule_0 rfl q_rvO ?_
  refine xe_geti dX0_addRule_1 fX0_27 (fun _ _ => rfl) ?_
  refine xe_bipush 20 dX0_addRule_4 (by decide) ?_
  refine xe_ic_lt 10 dX0_addRule_6 (by decide) (fun c_6 => ?_) (fun c_6 => ?_)
  · replace Wq := Wq.1 c_6
    refine xe_aload_n dX0_addRule_10 rfl q_rvO ?_
    refine xe_getr dX0_addRule_11 fX0_9 (fun _ _ => rfl) (q_sB hS hi0 (by decide)) ?_
    refine xe_aload_n dX0_addRule_14 rfl q_rvO ?_
    refine xe_geti dX0_addRule_15 fX0_27 (fun _ _ => rfl) ?_
    refine xe_aload_n dX0_addRule_18 rfl q_rvO ?_
    refine xe_geti dX0_addRule_19 fX0_31 (fun _ _ => rfl) ?_
    obtain ⟨hj_22, Wq⟩ := Wq
    refine xf_iast dX0_addRule_22 rfl hj_22 ?_
    refine xe_aload_n dX0_addRule_23 rfl q_rvO ?_
    refine xe_getr dX0_addRule_24 fX0_15 (fun _ _ => rfl) (q_sB hS hi0 (by decide)) ?_
    refine xe_aload_n dX0_addRule_27 rfl q_rvO ?_
    refine xe_geti dX0_addRule_28 fX0_27 (fun _ _ => rfl) ?_
    refine xe_iload_n dX0_addRule_31 rfl ?_
    obtain ⟨hj_32, Wq⟩ := Wq
    refine xf_iast dX0_addRule_32 rfl hj_32 ?_
    refine xe_aload_n dX0_addRule_33 rfl q_rvO ?_
    refine xe_dup dX0_addRule_34 rfl ?_
    refine xe_geti dX0_addRule_35 fX0_27 (fun _ _ => rfl) ?_
    refine xe_iconst 1 dX0_addRule_38 (by decide) ?_
    refine xe_iadd dX0_addRule_39 ?_
    refine xf_puti dX0_addRule_40 fX0_27 (fun q hq => Or.inl (by cases hq; rfl)) ⟨rfl, rfl⟩ (fun _ _ => rfl) ?_
    exact xe_vret dX0_addRule_43 rfl ⟨_, rfl, rfl, Wq⟩
  · replace Wq := Wq.2 c_6
    exact xe_vret dX0_addRule_9 rfl ⟨_, rfl, rfl, Wq⟩
def wp_X0_addTerm (t p : Nat) (i0 : Nat) (x1 : Int32) (x2 : Int32) (x3 : Int32) (a : qa) (post : qa → Prop) : Prop := (((a 0 i0 6) < 80 → vp_in (a 0 i0 6) 80 ∧ vp_in (a 0 i0 6) 80 ∧ vp_in (a 0 i0 6) 80 ∧ post (qs (qs (qs (qs a 14 i0 ((a 0 i0 6).toNatClampNeg) x1) 15 i0 ((a 0 i0 6).toNatClampNeg) x2) 16 i0 ((a 0 i0 6).toNatClampNeg) x3) 0 i0 6 ((a 0 i0 6) + 1))) ∧ (¬ (a 0 i0 6) < 80 → post a))
set_option maxHeartbeats 4000000 in
theorem ct_X0_addTerm {g : q_G} {s : q_S} {t p : Nat} (hS : q_Sh t p s) {i0 : Nat} {x1 : Int32} {x2 : Int32} {x3 : Int32} {a : qa} {post : qa → Prop} (Wq : wp_X0_addTerm t p i0 x1 x2 x3 a post) : q_Ct g mX0_addTerm (q_Rm 1 0 0) [q_O 0 i0, q_I x1, q_I x2, q_I x3] (a, s) (q_kV s post) := by
  refine q_mk rfl rfl (Nat.le_of_ble_eq_true rfl) (q_cs rfl (q_cs rfl (q_cs rfl (q_cs rfl q_nil)))) (fun hv => ?_)
  have hi0 : i0 < 10 := q_lt0 hS (q_hd hv)
  unfold wp_X0_addTerm at Wq
  refine xe_aload_n dX0_addTerm_0 rfl q_rvO ?_
  refine xe_geti dX0_addTerm_1 fX0_31 (fun _ _ => rfl) ?_
  refine xe_bipush 80 dX0_addTerm_4 (by decide) ?_
  refine xe_ic_lt 10 dX0_addTerm_6 (by decide) (fun c_6 => ?_) (fun c_6 => ?_)
  · replace Wq := Wq.1 c_6
    refine xe_aload_n dX0_addTerm_10 rfl q_rvO ?_
    refine xe_getr dX0_addTerm_11 fX0_18 (fun _ _ => rfl) (q_sB hS hi0 (by decide)) ?_
    refine xe_aload_n dX0_addTerm_14 rfl q_rvO ?_
    refine xe_geti dX0_addTerm_15 fX0_31 (fun _ _ => rfl) ?_
    refine xe_iload_n dX0_addTerm_18 rfl ?_
    obtain ⟨hj_19, Wq⟩ := Wq
    refine xf_iast dX0_addTerm_19 rfl hj_19 ?_
    refine xe_aload_n dX0_addTerm_20 rfl q_rvO ?_
    refine xe_getr dX0_addTerm_21 fX0_21 (fun _ _ => rfl) (q_sB hS hi0 (by decide)) ?_
    refine xe_aload_n dX0_addTerm_24 rfl q_rvO ?_
    refine xe_geti dX0_addTerm_25 fX0_31 (fun _ _ => rfl) ?_
    refine xe_iload_n dX0_addTerm_28 rfl ?_
    obtain ⟨hj_29, Wq⟩ := Wq
    refine xf_iast dX0_addTerm_29 rfl hj_29 ?_
    refine xe_aload_n dX0_addTerm_30 rfl q_rvO ?_
    refine xe_getr dX0_addTerm_31 fX0_24 (fun _ _ => rfl) (q_sB hS hi0 (by decide)) ?_
    refine xe_aload_n dX0_addTerm_34 rfl q_rvO ?_
    refine xe_geti dX0_addTerm_35 fX0_31 (fun _ _ => rfl) ?_
    refine xe_iload_n dX0_addTerm_38 rfl ?_
    obtain ⟨hj_39, Wq⟩ := Wq
    refine xf_iast dX0_addTerm_39 rfl hj_39 ?_
    refine xe_aload_n dX0_addTerm_40 rfl q_rvO ?_
    refine xe_dup dX0_addTerm_41 rfl ?_
    refine xe_geti dX0_addTerm_42 fX0_31 (fun _ _ => rfl) ?_
    refine xe_iconst 1 dX0_addTerm_45 (by decide) ?_
    refine xe_iadd dX0_addTerm_46 ?_
    refine xf_puti dX0_addTerm_47 fX0_31 (fun q hq => Or.inl (by cases hq; rfl)) ⟨rfl, rfl⟩ (fun _ _ => rfl) ?_
    exact xe_vret dX0_addTerm_50 rfl ⟨_, rfl, rfl, Wq⟩
  · replace Wq := Wq.2 c_6
    exact xe_vret dX0_addTerm_9 rfl ⟨_, rfl, rfl, Wq⟩
def wp_X0_clear (t p : Nat) (i0 : Nat) (a : qa) (post : qa → Prop) : Prop := post (qs (qs a 0 i0 5 0) 0 i0 6 0)
set_option maxHeartbeats 4000000 in
theorem ct_X0_clear {g : q_G} {s : q_S} {t p : Nat} (hS : q_Sh t p s) {i0 : Nat} {a : qa} {post : qa → Prop} (Wq : wp_X0_clear t p i0 a post) : q_Ct g mX0_clear (q_Rm 1 0 0) [q_O 0 i0] (a, s) (q_kV s post) := by
  refine q_mk rfl rfl (Nat.le_of_ble_eq_true rfl) (q_cs rfl q_nil) (fun hv => ?_)
  have hi0 : i0 < 10 := q_lt0 hS (q_hd hv)
  unfold wp_X0_clear at Wq
  refine xe_aload_n dX0_clear_0 rfl q_rvO ?_
  refine xe_iconst 0 dX0_clear_1 (by decide) ?_
  refine xf_puti dX0_clear_2 fX0_27 (fun q hq => Or.inl (by cases hq; rfl)) ⟨rfl, rfl⟩ (fun _ _ => rfl) ?_
  refine xe_aload_n dX0_clear_5 rfl q_rvO ?_
  refine xe_iconst 0 dX0_clear_6 (by decide) ?_
  refine xf_puti dX0_clear_7 fX0_31 (fun q hq => Or.inl (by cases hq; rfl)) ⟨rfl, rfl⟩ (fun _ _ => rfl) ?_
  exact xe_vret dX0_clear_10 rfl ⟨_, rfl, rfl, Wq⟩
def wp_X0_holds (t p : Nat) (x0 : Int32) (x1 : Int32) (x2 : Int32) (a : qa) (post : Int32 → qa → Prop) : Prop := ((¬ x0 = 60 → ((¬ x0 = 62 → ((¬ x1 = x2 → post 0 a) ∧ (x1 = x2 → post 1 a))) ∧ (x0 = 62 → ((x1 ≤ x2 → post 0 a) ∧ (¬ x1 ≤ x2 → post 1 a))))) ∧ (x0 = 60 → ((x2 ≤ x1 → post 0 a) ∧ (¬ x2 ≤ x1 → post 1 a))))
set_option maxHeartbeats 4000000 in
theorem ct_X0_holds {g : q_G} {s : q_S} {t p : Nat} (hS : q_Sh t p s) {x0 : Int32} {x1 : Int32} {x2 : Int32} {a : qa} {post : Int32 → qa → Prop} (Wq : wp_X0_holds t p x0 x1 x2 a post) : q_Ct g mX0_holds (q_Rm 1 0 0) [q_I x0, q_I x1, q_I x2] (a, s) (q_kI s post) := by
  refine q_mk rfl rfl (Nat.le_of_ble_eq_true rfl) (q_cs rfl (q_cs rfl (q_cs rfl q_nil))) (fun hv => ?_)
  unfold wp_X0_holds at Wq
  refine xe_iload_n dX0_holds_0 rfl ?_
  refine xe_bipush 60 dX0_holds_1 (by decide) ?_
  refine xe_ic_ne 17 dX0_holds_3 (by decide) (fun c_3 => ?_) (fun c_3 => ?_)
  · replace Wq := Wq.1 c_3
    refine xe_iload_n dX0_holds_17 rfl ?_
    refine xe_bipush 62 dX0_holds_18 (by decide) ?_
    refine xe_ic_ne 36 dX0_holds_20 (by decide) (fun c_20 => ?_) (fun c_20 => ?_)
    · replace Wq := Wq.1 c_20
      refine xe_iload_n dX0_holds_36 rfl ?_
      refine xe_iload_n dX0_holds_37 rfl ?_
      refine xe_ic_ne 45 dX0_holds_38 (by decide) (fun c_38 => ?_) (fun c_38 => ?_)
      · replace Wq := Wq.1 c_38
        refine xe_iconst 0 dX0_holds_45 (by decide) ?_
        exact xe_iret .boolean dX0_holds_46 rfl (by decide) ⟨_, _, rfl, rfl, Wq⟩
      · replace Wq := Wq.2 c_38
        refine xe_iconst 1 dX0_holds_41 (by decide) ?_
        refine xe_goto 46 dX0_holds_42 (by decide) ?_
        exact xe_iret .boolean dX0_holds_46 rfl (by decide) ⟨_, _, rfl, rfl, Wq⟩
    · replace Wq := Wq.2 c_20
      refine xe_iload_n dX0_holds_23 rfl ?_
      refine xe_iload_n dX0_holds_24 rfl ?_
      refine xe_ic_le 32 dX0_holds_25 (by decide) (fun c_25 => ?_) (fun c_25 => ?_)
      · replace Wq := Wq.1 c_25
        refine xe_iconst 0 dX0_holds_32 (by decide) ?_
        refine xe_goto 46 dX0_holds_33 (by decide) ?_
        exact xe_iret .boolean dX0_holds_46 rfl (by decide) ⟨_, _, rfl, rfl, Wq⟩
      · replace Wq := Wq.2 c_25
        refine xe_iconst 1 dX0_holds_28 (by decide) ?_
        refine xe_goto 46 dX0_holds_29 (by decide) ?_
        exact xe_iret .boolean dX0_holds_46 rfl (by decide) ⟨_, _, rfl, rfl, Wq⟩
  · replace Wq := Wq.2 c_3
    refine xe_iload_n dX0_holds_6 rfl ?_
    refine xe_iload_n dX0_holds_7 rfl ?_
    refine xe_ic_ge 15 dX0_holds_8 (by decide) (fun c_8 => ?_) (fun c_8 => ?_)
    · replace Wq := Wq.1 c_8
      refine xe_iconst 0 dX0_holds_15 (by decide) ?_
      exact xe_iret .boolean dX0_holds_16 rfl (by decide) ⟨_, _, rfl, rfl, Wq⟩
    · replace Wq := Wq.2 c_8
      refine xe_iconst 1 dX0_holds_11 (by decide) ?_
      refine xe_goto 16 dX0_holds_12 (by decide) ?_
      exact xe_iret .boolean dX0_holds_16 rfl (by decide) ⟨_, _, rfl, rfl, Wq⟩
def wp_X0_measure (t p : Nat) (x0 : Int32) (o1 : Nat) (x2 : Int32) (a : qa) (post : Int32 → qa → Prop) : Prop := ((x0 = 0 → post (a 4 o1 1) a) ∧ (x0 = 1 → post x2 a) ∧ (x0 = 2 → post (a 4 o1 8) a) ∧ (¬ x0 = 0 → ¬ x0 = 1 → ¬ x0 = 2 → post (a 4 o1 0) a))
set_option maxHeartbeats 4000000 in
theorem ct_X0_measure {g : q_G} {s : q_S} {t p : Nat} (hS : q_Sh t p s) {x0 : Int32} {o1 : Nat} {x2 : Int32} {a : qa} {post : Int32 → qa → Prop} (Wq : wp_X0_measure t p x0 o1 x2 a post) : q_Ct g mX0_measure (q_Rm 1 0 0) [q_I x0, q_O 4 o1, q_I x2] (a, s) (q_kI s post) := by
  refine q_mk rfl rfl (Nat.le_of_ble_eq_true rfl) (q_cs rfl (q_cs rfl (q_cs rfl q_nil))) (fun hv => ?_)
  unfold wp_X0_measure at Wq
  refine xe_iload_n dX0_measure_0 rfl ?_
  by_cases e_1_0 : x0 = 0
  · replace Wq := Wq.1 e_1_0
    have e9 := q_toI e_1_0 (show (0 : Int32).toInt = 0 by decide)
    refine xe_swIn 28 dX0_measure_1 (by omega) (by omega) (by rw [e9]; rfl) (by decide) ?_
    refine xe_aload_n dX0_measure_28 rfl q_rvO ?_
    refine xe_geti dX0_measure_29 fX0_49 (fun _ _ => rfl) ?_
    exact xe_iret .int dX0_measure_32 rfl rfl ⟨_, _, rfl, rfl, Wq⟩
  by_cases e_1_1 : x0 = 1
  · replace Wq := Wq.2.1 e_1_1
    have e9 := q_toI e_1_1 (show (1 : Int32).toInt = 1 by decide)
    refine xe_swIn 33 dX0_measure_1 (by omega) (by omega) (by rw [e9]; rfl) (by decide) ?_
    refine xe_iload_n dX0_measure_33 rfl ?_
    exact xe_iret .int dX0_measure_34 rfl rfl ⟨_, _, rfl, rfl, Wq⟩
  by_cases e_1_2 : x0 = 2
  · replace Wq := Wq.2.2.1 e_1_2
    have e9 := q_toI e_1_2 (show (2 : Int32).toInt = 2 by decide)
    refine xe_swIn 35 dX0_measure_1 (by omega) (by omega) (by rw [e9]; rfl) (by decide) ?_
    refine xe_aload_n dX0_measure_35 rfl q_rvO ?_
    refine xe_geti dX0_measure_36 fX0_54 (fun _ _ => rfl) ?_
    exact xe_iret .int dX0_measure_39 rfl rfl ⟨_, _, rfl, rfl, Wq⟩
  replace Wq := Wq.2.2.2 e_1_0 e_1_1 e_1_2
  have z_0 := lv_neT e_1_0 (show (0 : Int32).toInt = 0 by decide)
  have z_1 := lv_neT e_1_1 (show (1 : Int32).toInt = 1 by decide)
  have z_2 := lv_neT e_1_2 (show (2 : Int32).toInt = 2 by decide)
  refine xe_swOut 40 dX0_measure_1 (by omega) (by decide) ?_
  refine xe_aload_n dX0_measure_40 rfl q_rvO ?_
  refine xe_geti dX0_measure_41 fX0_57 (fun _ _ => rfl) ?_
  exact xe_iret .int dX0_measure_44 rfl rfl ⟨_, _, rfl, rfl, Wq⟩
def wp_X10_isHour (t p : Nat) (x0 : Int32) (a : qa) (post : Int32 → qa → Prop) : Prop := ((x0 < 0 → post 0 a) ∧ (¬ x0 < 0 → ((9999 < x0 → post 0 a) ∧ (¬ 9999 < x0 → post 1 a))))
set_option maxHeartbeats 4000000 in
theorem ct_X10_isHour {g : q_G} {s : q_S} {t p : Nat} (hS : q_Sh t p s) {x0 : Int32} {a : qa} {post : Int32 → qa → Prop} (Wq : wp_X10_isHour t p x0 a post) : q_Ct g mX10_isHour (q_Rm 1 0 0) [q_I x0] (a, s) (q_kI s post) := by
  refine q_mk rfl rfl (Nat.le_of_ble_eq_true rfl) (q_cs rfl q_nil) (fun hv => ?_)
  unfold wp_X10_isHour at Wq
  refine xe_iload_n dX10_isHour_0 rfl ?_
  refine xe_if_lt 15 dX10_isHour_1 (by decide) (fun c_1 => ?_) (fun c_1 => ?_)
  · replace Wq := Wq.1 c_1
    refine xe_iconst 0 dX10_isHour_15 (by decide) ?_
    exact xe_iret .boolean dX10_isHour_16 rfl (by decide) ⟨_, _, rfl, rfl, Wq⟩
  · replace Wq := Wq.2 c_1
    refine xe_iload_n dX10_isHour_4 rfl ?_
    refine xe_sipush 9999 dX10_isHour_5 (by decide) ?_
    refine xe_ic_gt 15 dX10_isHour_8 (by decide) (fun c_8 => ?_) (fun c_8 => ?_)
    · replace Wq := Wq.1 c_8
      refine xe_iconst 0 dX10_isHour_15 (by decide) ?_
      exact xe_iret .boolean dX10_isHour_16 rfl (by decide) ⟨_, _, rfl, rfl, Wq⟩
    · replace Wq := Wq.2 c_8
      refine xe_iconst 1 dX10_isHour_11 (by decide) ?_
      refine xe_goto 16 dX10_isHour_12 (by decide) ?_
      exact xe_iret .boolean dX10_isHour_16 rfl (by decide) ⟨_, _, rfl, rfl, Wq⟩
def wp_X10_isStrength (t p : Nat) (x0 : Int32) (a : qa) (post : Int32 → qa → Prop) : Prop := ((x0 < 20 → post 0 a) ∧ (¬ x0 < 20 → ((120 < x0 → post 0 a) ∧ (¬ 120 < x0 → post 1 a))))
set_option maxHeartbeats 4000000 in
theorem ct_X10_isStrength {g : q_G} {s : q_S} {t p : Nat} (hS : q_Sh t p s) {x0 : Int32} {a : qa} {post : Int32 → qa → Prop} (Wq : wp_X10_isStrength t p x0 a post) : q_Ct g mX10_isStrength (q_Rm 1 0 0) [q_I x0] (a, s) (q_kI s post) := by
  refine q_mk rfl rfl (Nat.le_of_ble_eq_true rfl) (q_cs rfl q_nil) (fun hv => ?_)
  unfold wp_X10_isStrength at Wq
  refine xe_iload_n dX10_isStrength_0 rfl ?_
  refine xe_bipush 20 dX10_isStrength_1 (by decide) ?_
  refine xe_ic_lt 16 dX10_isStrength_3 (by decide) (fun c_3 => ?_) (fun c_3 => ?_)
  · replace Wq := Wq.1 c_3
    refine xe_iconst 0 dX10_isStrength_16 (by decide) ?_
    exact xe_iret .boolean dX10_isStrength_17 rfl (by decide) ⟨_, _, rfl, rfl, Wq⟩
  · replace Wq := Wq.2 c_3
    refine xe_iload_n dX10_isStrength_6 rfl ?_
    refine xe_bipush 120 dX10_isStrength_7 (by decide) ?_
    refine xe_ic_gt 16 dX10_isStrength_9 (by decide) (fun c_9 => ?_) (fun c_9 => ?_)
    · replace Wq := Wq.1 c_9
      refine xe_iconst 0 dX10_isStrength_16 (by decide) ?_
      exact xe_iret .boolean dX10_isStrength_17 rfl (by decide) ⟨_, _, rfl, rfl, Wq⟩
    · replace Wq := Wq.2 c_9
      refine xe_iconst 1 dX10_isStrength_12 (by decide) ?_
      refine xe_goto 17 dX10_isStrength_13 (by decide) ?_
      exact xe_iret .boolean dX10_isStrength_17 rfl (by decide) ⟨_, _, rfl, rfl, Wq⟩
def wp_X1_add (t p : Nat) (x1 : Int32) (x2 : Int32) (a : qa) (post : qa → Prop) : Prop := (((a 1 0 5) < 10 → vp_in (a 1 0 5) 10 ∧ vp_in (a 1 0 5) 10 ∧ post (qs (qs (qs a 17 0 ((a 1 0 5).toNatClampNeg) x1) 18 0 ((a 1 0 5).toNatClampNeg) x2) 1 0 5 ((a 1 0 5) + 1))) ∧ (¬ (a 1 0 5) < 10 → post a))
set_option maxHeartbeats 4000000 in
theorem ct_X1_add {g : q_G} {s : q_S} {t p : Nat} (hS : q_Sh t p s) {x1 : Int32} {x2 : Int32} {a : qa} {post : qa → Prop} (Wq : wp_X1_add t p x1 x2 a post) : q_Ct g mX1_add (q_Rm 1 0 0) [q_O 1 0, q_I x1, q_I x2] (a, s) (q_kV s post) := by
  refine q_mk rfl rfl (Nat.le_of_ble_eq_true rfl) (q_cs rfl (q_cs rfl (q_cs rfl q_nil))) (fun hv => ?_)
  unfold wp_X1_add at Wq
  refine xe_aload_n dX1_add_0 rfl q_rvO ?_
  refine xe_geti dX1_add_1 fX1_27 (fun _ _ => rfl) ?_
  refine xe_bipush 10 dX1_add_4 (by decide) ?_
  refine xe_ic_lt 10 dX1_add_6 (by decide) (fun c_6 => ?_) (fun c_6 => ?_)
  · replace Wq := Wq.1 c_6
    refine xe_aload_n dX1_add_10 rfl q_rvO ?_
    refine xe_getr dX1_add_11 fX1_9 (fun _ _ => rfl) (q_sg hS rfl) ?_
    refine xe_aload_n dX1_add_14 rfl q_rvO ?_
    refine xe_geti dX1_add_15 fX1_27 (fun _ _ => rfl) ?_
    refine xe_iload_n dX1_add_18 rfl ?_
    obtain ⟨hj_19, Wq⟩ := Wq
    refine xf_iast dX1_add_19 rfl hj_19 ?_
    refine xe_aload_n dX1_add_20 rfl q_rvO ?_
    refine xe_getr dX1_add_21 fX1_15 (fun _ _ => rfl) (q_sg hS rfl) ?_
    refine xe_aload_n dX1_add_24 rfl q_rvO ?_
    refine xe_geti dX1_add_25 fX1_27 (fun _ _ => rfl) ?_
    refine xe_iload_n dX1_add_28 rfl ?_
    obtain ⟨hj_29, Wq⟩ := Wq
    refine xf_iast dX1_add_29 rfl hj_29 ?_
    refine xe_aload_n dX1_add_30 rfl q_rvO ?_
    refine xe_dup dX1_add_31 rfl ?_
    refine xe_geti dX1_add_32 fX1_27 (fun _ _ => rfl) ?_
    refine xe_iconst 1 dX1_add_35 (by decide) ?_
    refine xe_iadd dX1_add_36 ?_
    refine xf_puti dX1_add_37 fX1_27 (fun q hq => Or.inl (by cases hq; rfl)) ⟨rfl, rfl⟩ (fun _ _ => rfl) ?_
    exact xe_vret dX1_add_40 rfl ⟨_, rfl, rfl, Wq⟩
  · replace Wq := Wq.2 c_6
    exact xe_vret dX1_add_9 rfl ⟨_, rfl, rfl, Wq⟩
def wp_X1_clear (t p : Nat) (a : qa) (post : qa → Prop) : Prop := post (qs a 1 0 5 0)
set_option maxHeartbeats 4000000 in
theorem ct_X1_clear {g : q_G} {s : q_S} {t p : Nat} (hS : q_Sh t p s) {a : qa} {post : qa → Prop} (Wq : wp_X1_clear t p  a post) : q_Ct g mX1_clear (q_Rm 1 0 0) [q_O 1 0] (a, s) (q_kV s post) := by
  refine q_mk rfl rfl (Nat.le_of_ble_eq_true rfl) (q_cs rfl q_nil) (fun hv => ?_)
  unfold wp_X1_clear at Wq
  refine xe_aload_n dX1_clear_0 rfl q_rvO ?_
  refine xe_iconst 0 dX1_clear_1 (by decide) ?_
  refine xf_puti dX1_clear_2 fX1_27 (fun q hq => Or.inl (by cases hq; rfl)) ⟨rfl, rfl⟩ (fun _ _ => rfl) ?_
  exact xe_vret dX1_clear_5 rfl ⟨_, rfl, rfl, Wq⟩
def wl_X1_isHopeless_94 (t p : Nat) (post : Int32 → qa → Prop) : Int32 → qa → Prop := fun y0 a => ((y0 < (a 1 0 8) → post 0 a) ∧ (¬ y0 < (a 1 0 8) → post 1 a))
def wp_X1_isHopeless (t p : Nat) (x1 : Int32) (x2 : Int32) (x3 : Int32) (x4 : Int32) (a : qa) (post : Int32 → qa → Prop) : Prop := (((a 1 0 6) < (x2 + x3) → post 1 a) ∧ (¬ (a 1 0 6) < (x2 + x3) → vp_in x1 11 ∧ (((if 0 ≤ (x2 - x3) then (x2 - x3) else 0 - (x2 - x3)) ≤ (10 + (a 19 0 x1.toNatClampNeg)) → vp_in x1 11 ∧ (((if ((x2 + x3) + (a 19 0 x1.toNatClampNeg)) < (a 1 0 6) then ((x2 + x3) + (a 19 0 x1.toNatClampNeg)) else (a 1 0 6)) = (a 1 0 7) → (((a 1 0 7) ≤ (x2 + x3) → wl_X1_isHopeless_94 t p post x4 a) ∧ (¬ (a 1 0 7) ≤ (x2 + x3) → wl_X1_isHopeless_94 t p post (x4 + 1) a))) ∧ (¬ (if ((x2 + x3) + (a 19 0 x1.toNatClampNeg)) < (a 1 0 6) then ((x2 + x3) + (a 19 0 x1.toNatClampNeg)) else (a 1 0 6)) = (a 1 0 7) → (((a 1 0 7) ≤ (if ((x2 + x3) + (a 19 0 x1.toNatClampNeg)) < (a 1 0 6) then ((x2 + x3) + (a 19 0 x1.toNatClampNeg)) else (a 1 0 6)) → post 0 a) ∧ (¬ (a 1 0 7) ≤ (if ((x2 + x3) + (a 19 0 x1.toNatClampNeg)) < (a 1 0 6) then ((x2 + x3) + (a 19 0 x1.toNatClampNeg)) else (a 1 0 6)) → post 1 a))))) ∧ (¬ (if 0 ≤ (x2 - x3) then (x2 - x3) else 0 - (x2 - x3)) ≤ (10 + (a 19 0 x1.toNatClampNeg)) → post 1 a))))
set_option maxHeartbeats 4000000 in
theorem el_X1_isHopeless_94 {g : q_G} {s : q_S} {t p : Nat} (hS : q_Sh t p s) {post : Int32 → qa → Prop} : ∀ (y0 : Int32) (a : qa), wl_X1_isHopeless_94 t p post y0 a → q_E g mX1_isHopeless (q_Rm 1 0 0) (q_kI s post) (0, 0) 94 [some (q_O 1 0), none, none, none, none, none, none] [(q_I y0)] (a, s) := by
  intro y0 a Wq
  unfold wl_X1_isHopeless_94 at Wq
  refine xe_aload_n dX1_isHopeless_94 rfl q_rvO ?_
  refine xe_geti dX1_isHopeless_95 fX1_37 (fun _ _ => rfl) ?_
  refine xe_ic_lt 105 dX1_isHopeless_98 (by decide) (fun c_98 => ?_) (fun c_98 => ?_)
  · replace Wq := Wq.1 c_98
    refine xe_iconst 0 dX1_isHopeless_105 (by decide) ?_
    exact xe_iret .boolean dX1_isHopeless_106 rfl (by decide) ⟨_, _, rfl, rfl, Wq⟩
  · replace Wq := Wq.2 c_98
    refine xe_iconst 1 dX1_isHopeless_101 (by decide) ?_
    refine xe_goto 106 dX1_isHopeless_102 (by decide) ?_
    exact xe_iret .boolean dX1_isHopeless_106 rfl (by decide) ⟨_, _, rfl, rfl, Wq⟩
set_option maxHeartbeats 4000000 in
theorem ct_X1_isHopeless {g : q_G} {s : q_S} {t p : Nat} (hS : q_Sh t p s) {x1 : Int32} {x2 : Int32} {x3 : Int32} {x4 : Int32} {a : qa} {post : Int32 → qa → Prop} (Wq : wp_X1_isHopeless t p x1 x2 x3 x4 a post) : q_Ct g mX1_isHopeless (q_Rm 1 0 0) [q_O 1 0, q_I x1, q_I x2, q_I x3, q_I x4] (a, s) (q_kI s post) := by
  refine q_mk rfl rfl (Nat.le_of_ble_eq_true rfl) (q_cs rfl (q_cs rfl (q_cs rfl (q_cs rfl (q_cs rfl q_nil))))) (fun hv => ?_)
  unfold wp_X1_isHopeless at Wq
  refine xe_iload_n dX1_isHopeless_0 rfl ?_
  refine xe_iload_n dX1_isHopeless_1 rfl ?_
  refine xe_iadd dX1_isHopeless_2 ?_
  refine xe_istore dX1_isHopeless_3 (by decide) ?_
  refine xe_iload dX1_isHopeless_5 rfl ?_
  refine xe_aload_n dX1_isHopeless_7 rfl q_rvO ?_
  refine xe_geti dX1_isHopeless_8 fX1_31 (fun _ _ => rfl) ?_
  refine xe_ic_gt 32 dX1_isHopeless_11 (by decide) (fun c_11 => ?_) (fun c_11 => ?_)
  · replace Wq := Wq.1 c_11
    refine xe_iconst 1 dX1_isHopeless_32 (by decide) ?_
    exact xe_iret .boolean dX1_isHopeless_33 rfl (by decide) ⟨_, _, rfl, rfl, Wq⟩
  · replace Wq := Wq.2 c_11
    refine xe_iload_n dX1_isHopeless_14 rfl ?_
    refine xe_iload_n dX1_isHopeless_15 rfl ?_
    refine xe_isub dX1_isHopeless_16 ?_
    refine xe_mabs dX1_isHopeless_17 ⟨lX1_52, q_wabs⟩ (Nat.le_of_ble_eq_true rfl) ⟨Nat.le_of_ble_eq_true rfl, Nat.le_of_ble_eq_true rfl⟩ ?_
    refine xe_bipush 10 dX1_isHopeless_20 (by decide) ?_
    refine xe_aload_n dX1_isHopeless_22 rfl q_rvO ?_
    refine xe_getr dX1_isHopeless_23 fX1_18 (fun _ _ => rfl) (q_sg hS rfl) ?_
    refine xe_iload_n dX1_isHopeless_26 rfl ?_
    obtain ⟨hj_27, Wq⟩ := Wq
    refine xe_iald dX1_isHopeless_27 rfl hj_27 ?_
    refine xe_iadd dX1_isHopeless_28 ?_
    refine xe_ic_le 34 dX1_isHopeless_29 (by decide) (fun c_29 => ?_) (fun c_29 => ?_)
    · replace Wq := Wq.1 c_29
      refine xe_aload_n dX1_isHopeless_34 rfl q_rvO ?_
      refine xe_geti dX1_isHopeless_35 fX1_31 (fun _ _ => rfl) ?_
      refine xe_iload dX1_isHopeless_38 rfl ?_
      refine xe_aload_n dX1_isHopeless_40 rfl q_rvO ?_
      refine xe_getr dX1_isHopeless_41 fX1_18 (fun _ _ => rfl) (q_sg hS rfl) ?_
      refine xe_iload_n dX1_isHopeless_44 rfl ?_
      obtain ⟨hj_45, Wq⟩ := Wq
      refine xe_iald dX1_isHopeless_45 rfl hj_45 ?_
      refine xe_iadd dX1_isHopeless_46 ?_
      refine xe_mmin dX1_isHopeless_47 ⟨lX1_58, q_wmin⟩ (Nat.le_of_ble_eq_true rfl) ⟨Nat.le_of_ble_eq_true rfl, Nat.le_of_ble_eq_true rfl⟩ ?_
      refine xe_istore dX1_isHopeless_50 (by decide) ?_
      refine xe_iload dX1_isHopeless_52 rfl ?_
      refine xe_aload_n dX1_isHopeless_54 rfl q_rvO ?_
      refine xe_geti dX1_isHopeless_55 fX1_34 (fun _ _ => rfl) ?_
      refine xe_ic_eq 76 dX1_isHopeless_58 (by decide) (fun c_58 => ?_) (fun c_58 => ?_)
      · replace Wq := Wq.1 c_58
        refine xe_iload dX1_isHopeless_76 rfl ?_
        refine xe_aload_n dX1_isHopeless_78 rfl q_rvO ?_
        refine xe_geti dX1_isHopeless_79 fX1_34 (fun _ _ => rfl) ?_
        refine xe_ic_ge 92 dX1_isHopeless_82 (by decide) (fun c_82 => ?_) (fun c_82 => ?_)
        · replace Wq := Wq.1 c_82
          refine xe_iload dX1_isHopeless_92 rfl ?_
          refine q_wk (ls := [some (q_O 1 0), none, none, none, none, none, none]) ⟨rfl, trivial⟩ ?_
          exact el_X1_isHopeless_94 hS _ _ Wq
        · replace Wq := Wq.2 c_82
          refine xe_iload dX1_isHopeless_85 rfl ?_
          refine xe_iconst 1 dX1_isHopeless_87 (by decide) ?_
          refine xe_iadd dX1_isHopeless_88 ?_
          refine xe_goto 94 dX1_isHopeless_89 (by decide) ?_
          refine q_wk (ls := [some (q_O 1 0), none, none, none, none, none, none]) ⟨rfl, trivial⟩ ?_
          exact el_X1_isHopeless_94 hS _ _ Wq
      · replace Wq := Wq.2 c_58
        refine xe_iload dX1_isHopeless_61 rfl ?_
        refine xe_aload_n dX1_isHopeless_63 rfl q_rvO ?_
        refine xe_geti dX1_isHopeless_64 fX1_34 (fun _ _ => rfl) ?_
        refine xe_ic_ge 74 dX1_isHopeless_67 (by decide) (fun c_67 => ?_) (fun c_67 => ?_)
        · replace Wq := Wq.1 c_67
          refine xe_iconst 0 dX1_isHopeless_74 (by decide) ?_
          exact xe_iret .boolean dX1_isHopeless_75 rfl (by decide) ⟨_, _, rfl, rfl, Wq⟩
        · replace Wq := Wq.2 c_67
          refine xe_iconst 1 dX1_isHopeless_70 (by decide) ?_
          refine xe_goto 75 dX1_isHopeless_71 (by decide) ?_
          exact xe_iret .boolean dX1_isHopeless_75 rfl (by decide) ⟨_, _, rfl, rfl, Wq⟩
    · replace Wq := Wq.2 c_29
      refine xe_iconst 1 dX1_isHopeless_32 (by decide) ?_
      exact xe_iret .boolean dX1_isHopeless_33 rfl (by decide) ⟨_, _, rfl, rfl, Wq⟩
def wl_X1_keep_12 (t p : Nat) (post : qa → Prop) : Nat → Int32 → qa → Prop
  | 0 => fun _ _ => False
  | n + 1 => fun x3 a => (((a 1 0 5) ≤ x3 → post a) ∧ (¬ (a 1 0 5) ≤ x3 → vp_in x3 10 ∧ vp_in x3 10 ∧ ((wl_X1_keep_12 t p post n) (x3 + 1) (qs a 21 0 x3.toNatClampNeg (a 20 0 x3.toNatClampNeg)))))
def wp_X1_keep (t p : Nat) (x1 : Int32) (x2 : Int32) (a : qa) (post : qa → Prop) : Prop := ∃ n_12, wl_X1_keep_12 t p post n_12 0 (qs (qs a 1 0 7 x1) 1 0 8 x2)
set_option maxHeartbeats 4000000 in
theorem el_X1_keep_12 {g : q_G} {s : q_S} {t p : Nat} (hS : q_Sh t p s) {post : qa → Prop} : ∀ (n : Nat) (x3 : Int32) (a : qa), wl_X1_keep_12 t p post n x3 a → q_E g mX1_keep (q_Rm 1 0 0) (q_kV s post) (0, 0) 12 [some (q_O 1 0), none, none, some (q_I x3)] [] (a, s) := by
  intro n
  induction n with
  | zero =>
    intro x3 a Wq
    exact absurd Wq id
  | succ n ih =>
    intro x3 a Wq
    unfold wl_X1_keep_12 at Wq
    refine xe_iload_n dX1_keep_12 rfl ?_
    refine xe_aload_n dX1_keep_13 rfl q_rvO ?_
    refine xe_geti dX1_keep_14 fX1_27 (fun _ _ => rfl) ?_
    refine xe_ic_ge 38 dX1_keep_17 (by decide) (fun c_17 => ?_) (fun c_17 => ?_)
    · replace Wq := Wq.1 c_17
      exact xe_vret dX1_keep_38 rfl ⟨_, rfl, rfl, Wq⟩
    · replace Wq := Wq.2 c_17
      refine xe_aload_n dX1_keep_20 rfl q_rvO ?_
      refine xe_getr dX1_keep_21 fX1_24 (fun _ _ => rfl) (q_sg hS rfl) ?_
      refine xe_iload_n dX1_keep_24 rfl ?_
      refine xe_aload_n dX1_keep_25 rfl q_rvO ?_
      refine xe_getr dX1_keep_26 fX1_21 (fun _ _ => rfl) (q_sg hS rfl) ?_
      refine xe_iload_n dX1_keep_29 rfl ?_
      obtain ⟨hj_30, Wq⟩ := Wq
      refine xe_iald dX1_keep_30 rfl hj_30 ?_
      obtain ⟨hj_31, Wq⟩ := Wq
      refine xf_iast dX1_keep_31 rfl hj_31 ?_
      refine xe_iinc (_ + 1) dX1_keep_32 (by decide) rfl rfl ?_
      refine xe_goto 12 dX1_keep_35 (by decide) ?_
      refine q_wk (ls := [some (q_O 1 0), none, none, some (q_I (x3 + 1))]) ⟨rfl, ⟨rfl, trivial⟩⟩ ?_
      exact ih _ _ Wq
set_option maxHeartbeats 4000000 in
theorem ct_X1_keep {g : q_G} {s : q_S} {t p : Nat} (hS : q_Sh t p s) {x1 : Int32} {x2 : Int32} {a : qa} {post : qa → Prop} (Wq : wp_X1_keep t p x1 x2 a post) : q_Ct g mX1_keep (q_Rm 1 0 0) [q_O 1 0, q_I x1, q_I x2] (a, s) (q_kV s post) := by
  refine q_mk rfl rfl (Nat.le_of_ble_eq_true rfl) (q_cs rfl (q_cs rfl (q_cs rfl q_nil))) (fun hv => ?_)
  unfold wp_X1_keep at Wq
  refine xe_aload_n dX1_keep_0 rfl q_rvO ?_
  refine xe_iload_n dX1_keep_1 rfl ?_
  refine xf_puti dX1_keep_2 fX1_34 (fun q hq => Or.inl (by cases hq; rfl)) ⟨rfl, rfl⟩ (fun _ _ => rfl) ?_
  refine xe_aload_n dX1_keep_5 rfl q_rvO ?_
  refine xe_iload_n dX1_keep_6 rfl ?_
  refine xf_puti dX1_keep_7 fX1_37 (fun q hq => Or.inl (by cases hq; rfl)) ⟨rfl, rfl⟩ (fun _ _ => rfl) ?_
  refine xe_iconst 0 dX1_keep_10 (by decide) ?_
  refine xe_istore_n dX1_keep_11 (by decide) ?_
  obtain ⟨n_12, Wq⟩ := Wq
  refine q_wk (ls := [some (q_O 1 0), none, none, some (q_I 0)]) ⟨rfl, ⟨rfl, trivial⟩⟩ ?_
  exact el_X1_keep_12 hS n_12 _ _ Wq
def wl_X1_sideOf_2 (t p : Nat) (post : Int32 → qa → Prop) : Nat → Int32 → Int32 → qa → Prop
  | 0 => fun _ _ _ => False
  | n + 1 => fun x1 x2 a => (((a 1 0 5) ≤ x2 → post (-1) a) ∧ (¬ (a 1 0 5) ≤ x2 → vp_in x2 10 ∧ ((¬ (a 17 0 x2.toNatClampNeg) = x1 → (wl_X1_sideOf_2 t p post n) x1 (x2 + 1) a) ∧ ((a 17 0 x2.toNatClampNeg) = x1 → vp_in x2 10 ∧ post (a 21 0 x2.toNatClampNeg) a))))
def wp_X1_sideOf (t p : Nat) (x1 : Int32) (a : qa) (post : Int32 → qa → Prop) : Prop := ∃ n_2, wl_X1_sideOf_2 t p post n_2 x1 0 a
set_option maxHeartbeats 4000000 in
theorem el_X1_sideOf_2 {g : q_G} {s : q_S} {t p : Nat} (hS : q_Sh t p s) {post : Int32 → qa → Prop} : ∀ (n : Nat) (x1 : Int32) (x2 : Int32) (a : qa), wl_X1_sideOf_2 t p post n x1 x2 a → q_E g mX1_sideOf (q_Rm 1 0 0) (q_kI s post) (0, 0) 2 [some (q_O 1 0), some (q_I x1), some (q_I x2)] [] (a, s) := by
  intro n
  induction n with
  | zero =>
    intro x1 x2 a Wq
    exact absurd Wq id
  | succ n ih =>
    intro x1 x2 a Wq
    unfold wl_X1_sideOf_2 at Wq
    refine xe_iload_n dX1_sideOf_2 rfl ?_
    refine xe_aload_n dX1_sideOf_3 rfl q_rvO ?_
    refine xe_geti dX1_sideOf_4 fX1_27 (fun _ _ => rfl) ?_
    refine xe_ic_ge 33 dX1_sideOf_7 (by decide) (fun c_7 => ?_) (fun c_7 => ?_)
    · replace Wq := Wq.1 c_7
      refine xe_iconst (-1) dX1_sideOf_33 (by decide) ?_
      exact xe_iret .int dX1_sideOf_34 rfl rfl ⟨_, _, rfl, rfl, Wq⟩
    · replace Wq := Wq.2 c_7
      refine xe_aload_n dX1_sideOf_10 rfl q_rvO ?_
      refine xe_getr dX1_sideOf_11 fX1_9 (fun _ _ => rfl) (q_sg hS rfl) ?_
      refine xe_iload_n dX1_sideOf_14 rfl ?_
      obtain ⟨hj_15, Wq⟩ := Wq
      refine xe_iald dX1_sideOf_15 rfl hj_15 ?_
      refine xe_iload_n dX1_sideOf_16 rfl ?_
      refine xe_ic_ne 27 dX1_sideOf_17 (by decide) (fun c_17 => ?_) (fun c_17 => ?_)
      · replace Wq := Wq.1 c_17
        refine xe_iinc (_ + 1) dX1_sideOf_27 (by decide) rfl rfl ?_
        refine xe_goto 2 dX1_sideOf_30 (by decide) ?_
        refine q_wk (ls := [some (q_O 1 0), some (q_I x1), some (q_I (x2 + 1))]) ⟨rfl, ⟨rfl, ⟨rfl, trivial⟩⟩⟩ ?_
        exact ih _ _ _ Wq
      · replace Wq := Wq.2 c_17
        refine xe_aload_n dX1_sideOf_20 rfl q_rvO ?_
        refine xe_getr dX1_sideOf_21 fX1_24 (fun _ _ => rfl) (q_sg hS rfl) ?_
        refine xe_iload_n dX1_sideOf_24 rfl ?_
        obtain ⟨hj_25, Wq⟩ := Wq
        refine xe_iald dX1_sideOf_25 rfl hj_25 ?_
        exact xe_iret .int dX1_sideOf_26 rfl rfl ⟨_, _, rfl, rfl, Wq⟩
set_option maxHeartbeats 4000000 in
theorem ct_X1_sideOf {g : q_G} {s : q_S} {t p : Nat} (hS : q_Sh t p s) {x1 : Int32} {a : qa} {post : Int32 → qa → Prop} (Wq : wp_X1_sideOf t p x1 a post) : q_Ct g mX1_sideOf (q_Rm 1 0 0) [q_O 1 0, q_I x1] (a, s) (q_kI s post) := by
  refine q_mk rfl rfl (Nat.le_of_ble_eq_true rfl) (q_cs rfl (q_cs rfl q_nil)) (fun hv => ?_)
  unfold wp_X1_sideOf at Wq
  refine xe_iconst 0 dX1_sideOf_0 (by decide) ?_
  refine xe_istore_n dX1_sideOf_1 (by decide) ?_
  obtain ⟨n_2, Wq⟩ := Wq
  refine q_wk (ls := [some (q_O 1 0), some (q_I x1), some (q_I 0)]) ⟨rfl, ⟨rfl, ⟨rfl, trivial⟩⟩⟩ ?_
  exact el_X1_sideOf_2 hS n_2 _ _ _ Wq
def wp_X2_add (t p : Nat) (x1 : Int32) (x2 : Int32) (x3 : Int32) (a : qa) (post : qa → Prop) : Prop := (((a 2 0 3) < 512 → vp_in (a 2 0 3) 512 ∧ vp_in (a 2 0 3) 512 ∧ vp_in (a 2 0 3) 512 ∧ post (qs (qs (qs (qs a 22 0 ((a 2 0 3).toNatClampNeg) x1) 23 0 ((a 2 0 3).toNatClampNeg) x2) 24 0 ((a 2 0 3).toNatClampNeg) x3) 2 0 3 ((a 2 0 3) + 1))) ∧ (¬ (a 2 0 3) < 512 → post a))
set_option maxHeartbeats 4000000 in
theorem ct_X2_add {g : q_G} {s : q_S} {t p : Nat} (hS : q_Sh t p s) {x1 : Int32} {x2 : Int32} {x3 : Int32} {a : qa} {post : qa → Prop} (Wq : wp_X2_add t p x1 x2 x3 a post) : q_Ct g mX2_add (q_Rm 1 0 0) [q_O 2 0, q_I x1, q_I x2, q_I x3] (a, s) (q_kV s post) := by
  refine q_mk rfl rfl (Nat.le_of_ble_eq_true rfl) (q_cs rfl (q_cs rfl (q_cs rfl (q_cs rfl q_nil)))) (fun hv => ?_)
  unfold wp_X2_add at Wq
  refine xe_aload_n dX2_add_0 rfl q_rvO ?_
  refine xe_geti dX2_add_1 fX2_21 (fun _ _ => rfl) ?_
  refine xe_sipush 512 dX2_add_4 (by decide) ?_
  refine xe_ic_lt 11 dX2_add_7 (by decide) (fun c_7 => ?_) (fun c_7 => ?_)
  · replace Wq := Wq.1 c_7
    refine xe_aload_n dX2_add_11 rfl q_rvO ?_
    refine xe_getr dX2_add_12 fX2_9 (fun _ _ => rfl) (q_sg hS rfl) ?_
    refine xe_aload_n dX2_add_15 rfl q_rvO ?_
    refine xe_geti dX2_add_16 fX2_21 (fun _ _ => rfl) ?_
    refine xe_iload_n dX2_add_19 rfl ?_
    obtain ⟨hj_20, Wq⟩ := Wq
    refine xf_iast dX2_add_20 rfl hj_20 ?_
    refine xe_aload_n dX2_add_21 rfl q_rvO ?_
    refine xe_getr dX2_add_22 fX2_15 (fun _ _ => rfl) (q_sg hS rfl) ?_
    refine xe_aload_n dX2_add_25 rfl q_rvO ?_
    refine xe_geti dX2_add_26 fX2_21 (fun _ _ => rfl) ?_
    refine xe_iload_n dX2_add_29 rfl ?_
    obtain ⟨hj_30, Wq⟩ := Wq
    refine xf_iast dX2_add_30 rfl hj_30 ?_
    refine xe_aload_n dX2_add_31 rfl q_rvO ?_
    refine xe_getr dX2_add_32 fX2_18 (fun _ _ => rfl) (q_sg hS rfl) ?_
    refine xe_aload_n dX2_add_35 rfl q_rvO ?_
    refine xe_geti dX2_add_36 fX2_21 (fun _ _ => rfl) ?_
    refine xe_iload_n dX2_add_39 rfl ?_
    obtain ⟨hj_40, Wq⟩ := Wq
    refine xf_iast dX2_add_40 rfl hj_40 ?_
    refine xe_aload_n dX2_add_41 rfl q_rvO ?_
    refine xe_dup dX2_add_42 rfl ?_
    refine xe_geti dX2_add_43 fX2_21 (fun _ _ => rfl) ?_
    refine xe_iconst 1 dX2_add_46 (by decide) ?_
    refine xe_iadd dX2_add_47 ?_
    refine xf_puti dX2_add_48 fX2_21 (fun q hq => Or.inl (by cases hq; rfl)) ⟨rfl, rfl⟩ (fun _ _ => rfl) ?_
    exact xe_vret dX2_add_51 rfl ⟨_, rfl, rfl, Wq⟩
  · replace Wq := Wq.2 c_7
    exact xe_vret dX2_add_10 rfl ⟨_, rfl, rfl, Wq⟩
def wl_X2_placeOf_7 (t p : Nat) (post : Int32 → qa → Prop) : Nat → Int32 → Int32 → Int32 → qa → Prop
  | 0 => fun _ _ _ _ => False
  | n + 1 => fun x1 x2 x3 a => ((x3 < 0 → post (-1) a) ∧ (¬ x3 < 0 → ((512 ≤ x3 → (wl_X2_placeOf_7 t p post n) x1 x2 (x3 + (-1)) a) ∧ (¬ 512 ≤ x3 → vp_in x3 512 ∧ ((¬ (a 22 0 x3.toNatClampNeg) = x1 → (wl_X2_placeOf_7 t p post n) x1 x2 (x3 + (-1)) a) ∧ ((a 22 0 x3.toNatClampNeg) = x1 → vp_in x3 512 ∧ ((x2 < (a 23 0 x3.toNatClampNeg) → (wl_X2_placeOf_7 t p post n) x1 x2 (x3 + (-1)) a) ∧ (¬ x2 < (a 23 0 x3.toNatClampNeg) → vp_in x3 512 ∧ post (a 24 0 x3.toNatClampNeg) a))))))))
def wp_X2_placeOf (t p : Nat) (x1 : Int32) (x2 : Int32) (a : qa) (post : Int32 → qa → Prop) : Prop := ∃ n_7, wl_X2_placeOf_7 t p post n_7 x1 x2 ((a 2 0 3) - 1) a
set_option maxHeartbeats 4000000 in
theorem el_X2_placeOf_7 {g : q_G} {s : q_S} {t p : Nat} (hS : q_Sh t p s) {post : Int32 → qa → Prop} : ∀ (n : Nat) (x1 : Int32) (x2 : Int32) (x3 : Int32) (a : qa), wl_X2_placeOf_7 t p post n x1 x2 x3 a → q_E g mX2_placeOf (q_Rm 1 0 0) (q_kI s post) (0, 0) 7 [some (q_O 2 0), some (q_I x1), some (q_I x2), some (q_I x3)] [] (a, s) := by
  intro n
  induction n with
  | zero =>
    intro x1 x2 x3 a Wq
    exact absurd Wq id
  | succ n ih =>
    intro x1 x2 x3 a Wq
    unfold wl_X2_placeOf_7 at Wq
    refine xe_iload_n dX2_placeOf_7 rfl ?_
    refine xe_if_lt 51 dX2_placeOf_8 (by decide) (fun c_8 => ?_) (fun c_8 => ?_)
    · replace Wq := Wq.1 c_8
      refine xe_iconst (-1) dX2_placeOf_51 (by decide) ?_
      exact xe_iret .int dX2_placeOf_52 rfl rfl ⟨_, _, rfl, rfl, Wq⟩
    · replace Wq := Wq.2 c_8
      refine xe_iload_n dX2_placeOf_11 rfl ?_
      refine xe_sipush 512 dX2_placeOf_12 (by decide) ?_
      refine xe_ic_ge 45 dX2_placeOf_15 (by decide) (fun c_15 => ?_) (fun c_15 => ?_)
      · replace Wq := Wq.1 c_15
        refine xe_iinc (_ + (-1)) dX2_placeOf_45 (by decide) rfl rfl ?_
        refine xe_goto 7 dX2_placeOf_48 (by decide) ?_
        refine q_wk (ls := [some (q_O 2 0), some (q_I x1), some (q_I x2), some (q_I (x3 + (-1)))]) ⟨rfl, ⟨rfl, ⟨rfl, ⟨rfl, trivial⟩⟩⟩⟩ ?_
        exact ih _ _ _ _ Wq
      · replace Wq := Wq.2 c_15
        refine xe_aload_n dX2_placeOf_18 rfl q_rvO ?_
        refine xe_getr dX2_placeOf_19 fX2_9 (fun _ _ => rfl) (q_sg hS rfl) ?_
        refine xe_iload_n dX2_placeOf_22 rfl ?_
        obtain ⟨hj_23, Wq⟩ := Wq
        refine xe_iald dX2_placeOf_23 rfl hj_23 ?_
        refine xe_iload_n dX2_placeOf_24 rfl ?_
        refine xe_ic_ne 45 dX2_placeOf_25 (by decide) (fun c_25 => ?_) (fun c_25 => ?_)
        · replace Wq := Wq.1 c_25
          refine xe_iinc (_ + (-1)) dX2_placeOf_45 (by decide) rfl rfl ?_
          refine xe_goto 7 dX2_placeOf_48 (by decide) ?_
          refine q_wk (ls := [some (q_O 2 0), some (q_I x1), some (q_I x2), some (q_I (x3 + (-1)))]) ⟨rfl, ⟨rfl, ⟨rfl, ⟨rfl, trivial⟩⟩⟩⟩ ?_
          exact ih _ _ _ _ Wq
        · replace Wq := Wq.2 c_25
          refine xe_aload_n dX2_placeOf_28 rfl q_rvO ?_
          refine xe_getr dX2_placeOf_29 fX2_15 (fun _ _ => rfl) (q_sg hS rfl) ?_
          refine xe_iload_n dX2_placeOf_32 rfl ?_
          obtain ⟨hj_33, Wq⟩ := Wq
          refine xe_iald dX2_placeOf_33 rfl hj_33 ?_
          refine xe_iload_n dX2_placeOf_34 rfl ?_
          refine xe_ic_gt 45 dX2_placeOf_35 (by decide) (fun c_35 => ?_) (fun c_35 => ?_)
          · replace Wq := Wq.1 c_35
            refine xe_iinc (_ + (-1)) dX2_placeOf_45 (by decide) rfl rfl ?_
            refine xe_goto 7 dX2_placeOf_48 (by decide) ?_
            refine q_wk (ls := [some (q_O 2 0), some (q_I x1), some (q_I x2), some (q_I (x3 + (-1)))]) ⟨rfl, ⟨rfl, ⟨rfl, ⟨rfl, trivial⟩⟩⟩⟩ ?_
            exact ih _ _ _ _ Wq
          · replace Wq := Wq.2 c_35
            refine xe_aload_n dX2_placeOf_38 rfl q_rvO ?_
            refine xe_getr dX2_placeOf_39 fX2_18 (fun _ _ => rfl) (q_sg hS rfl) ?_
            refine xe_iload_n dX2_placeOf_42 rfl ?_
            obtain ⟨hj_43, Wq⟩ := Wq
            refine xe_iald dX2_placeOf_43 rfl hj_43 ?_
            exact xe_iret .int dX2_placeOf_44 rfl rfl ⟨_, _, rfl, rfl, Wq⟩
set_option maxHeartbeats 4000000 in
theorem ct_X2_placeOf {g : q_G} {s : q_S} {t p : Nat} (hS : q_Sh t p s) {x1 : Int32} {x2 : Int32} {a : qa} {post : Int32 → qa → Prop} (Wq : wp_X2_placeOf t p x1 x2 a post) : q_Ct g mX2_placeOf (q_Rm 1 0 0) [q_O 2 0, q_I x1, q_I x2] (a, s) (q_kI s post) := by
  refine q_mk rfl rfl (Nat.le_of_ble_eq_true rfl) (q_cs rfl (q_cs rfl (q_cs rfl q_nil))) (fun hv => ?_)
  unfold wp_X2_placeOf at Wq
  refine xe_aload_n dX2_placeOf_0 rfl q_rvO ?_
  refine xe_geti dX2_placeOf_1 fX2_21 (fun _ _ => rfl) ?_
  refine xe_iconst 1 dX2_placeOf_4 (by decide) ?_
  refine xe_isub dX2_placeOf_5 ?_
  refine xe_istore_n dX2_placeOf_6 (by decide) ?_
  obtain ⟨n_7, Wq⟩ := Wq
  refine q_wk (ls := [some (q_O 2 0), some (q_I x1), some (q_I x2), some (q_I ((a 2 0 3) - 1))]) ⟨rfl, ⟨rfl, ⟨rfl, ⟨rfl, trivial⟩⟩⟩⟩ ?_
  exact el_X2_placeOf_7 hS n_7 _ _ _ _ Wq
def wp_X3_bear (t p : Nat) (i0 : Nat) (x1 : Int32) (x2 : Int32) (x3 : Int32) (a : qa) (post : qa → Prop) : Prop := ((¬ x1 = 0 → ((¬ x1 = 1 → post (qs (qs a 3 i0 6 x2) 3 i0 7 x3)) ∧ (x1 = 1 → post (qs a 3 i0 5 ((a 3 i0 5) + x3))))) ∧ (x1 = 0 → post (qs a 3 i0 4 ((a 3 i0 4) + x3))))
set_option maxHeartbeats 4000000 in
theorem ct_X3_bear {g : q_G} {s : q_S} {t p : Nat} (hS : q_Sh t p s) {i0 : Nat} {x1 : Int32} {x2 : Int32} {x3 : Int32} {a : qa} {post : qa → Prop} (Wq : wp_X3_bear t p i0 x1 x2 x3 a post) : q_Ct g mX3_bear (q_Rm 1 0 0) [q_O 3 i0, q_I x1, q_I x2, q_I x3] (a, s) (q_kV s post) := by
  refine q_mk rfl rfl (Nat.le_of_ble_eq_true rfl) (q_cs rfl (q_cs rfl (q_cs rfl (q_cs rfl q_nil)))) (fun hv => ?_)
  unfold wp_X3_bear at Wq
  refine xe_iload_n dX3_bear_0 rfl ?_
  refine xe_if_ne 17 dX3_bear_1 (by decide) (fun c_1 => ?_) (fun c_1 => ?_)
  · replace Wq := Wq.1 c_1
    refine xe_iload_n dX3_bear_17 rfl ?_
    refine xe_iconst 1 dX3_bear_18 (by decide) ?_
    refine xe_ic_ne 35 dX3_bear_19 (by decide) (fun c_19 => ?_) (fun c_19 => ?_)
    · replace Wq := Wq.1 c_19
      refine xe_aload_n dX3_bear_35 rfl q_rvO ?_
      refine xe_iload_n dX3_bear_36 rfl ?_
      refine xf_puti dX3_bear_37 fX3_28 (fun q hq => Or.inl (by cases hq; rfl)) ⟨rfl, rfl⟩ (fun _ _ => rfl) ?_
      refine xe_aload_n dX3_bear_40 rfl q_rvO ?_
      refine xe_iload_n dX3_bear_41 rfl ?_
      refine xf_puti dX3_bear_42 fX3_31 (fun q hq => Or.inl (by cases hq; rfl)) ⟨rfl, rfl⟩ (fun _ _ => rfl) ?_
      exact xe_vret dX3_bear_45 rfl ⟨_, rfl, rfl, Wq⟩
    · replace Wq := Wq.2 c_19
      refine xe_aload_n dX3_bear_22 rfl q_rvO ?_
      refine xe_dup dX3_bear_23 rfl ?_
      refine xe_geti dX3_bear_24 fX3_25 (fun _ _ => rfl) ?_
      refine xe_iload_n dX3_bear_27 rfl ?_
      refine xe_iadd dX3_bear_28 ?_
      refine xf_puti dX3_bear_29 fX3_25 (fun q hq => Or.inl (by cases hq; rfl)) ⟨rfl, rfl⟩ (fun _ _ => rfl) ?_
      refine xe_goto 45 dX3_bear_32 (by decide) ?_
      exact xe_vret dX3_bear_45 rfl ⟨_, rfl, rfl, Wq⟩
  · replace Wq := Wq.2 c_1
    refine xe_aload_n dX3_bear_4 rfl q_rvO ?_
    refine xe_dup dX3_bear_5 rfl ?_
    refine xe_geti dX3_bear_6 fX3_22 (fun _ _ => rfl) ?_
    refine xe_iload_n dX3_bear_9 rfl ?_
    refine xe_iadd dX3_bear_10 ?_
    refine xf_puti dX3_bear_11 fX3_22 (fun q hq => Or.inl (by cases hq; rfl)) ⟨rfl, rfl⟩ (fun _ _ => rfl) ?_
    refine xe_goto 45 dX3_bear_14 (by decide) ?_
    exact xe_vret dX3_bear_45 rfl ⟨_, rfl, rfl, Wq⟩
def wp_X3_load (t p : Nat) (i0 : Nat) (a : qa) (post : Int32 → qa → Prop) : Prop := post (((a 3 i0 4) + (a 3 i0 5)) + (a 3 i0 7)) a
set_option maxHeartbeats 4000000 in
theorem ct_X3_load {g : q_G} {s : q_S} {t p : Nat} (hS : q_Sh t p s) {i0 : Nat} {a : qa} {post : Int32 → qa → Prop} (Wq : wp_X3_load t p i0 a post) : q_Ct g mX3_load (q_Rm 1 0 0) [q_O 3 i0] (a, s) (q_kI s post) := by
  refine q_mk rfl rfl (Nat.le_of_ble_eq_true rfl) (q_cs rfl q_nil) (fun hv => ?_)
  unfold wp_X3_load at Wq
  refine xe_aload_n dX3_load_0 rfl q_rvO ?_
  refine xe_geti dX3_load_1 fX3_22 (fun _ _ => rfl) ?_
  refine xe_aload_n dX3_load_4 rfl q_rvO ?_
  refine xe_geti dX3_load_5 fX3_25 (fun _ _ => rfl) ?_
  refine xe_iadd dX3_load_8 ?_
  refine xe_aload_n dX3_load_9 rfl q_rvO ?_
  refine xe_geti dX3_load_10 fX3_31 (fun _ _ => rfl) ?_
  refine xe_iadd dX3_load_13 ?_
  exact xe_iret .int dX3_load_14 rfl rfl ⟨_, _, rfl, rfl, Wq⟩
def wp_X3_rest (t p : Nat) (i0 : Nat) (a : qa) (post : qa → Prop) : Prop := ((¬ ((qs a 3 i0 1 (if 0 < ((a 3 i0 1) - 5) then ((a 3 i0 1) - 5) else 0)) 3 i0 1) = 0 → post (qs a 3 i0 1 (if 0 < ((a 3 i0 1) - 5) then ((a 3 i0 1) - 5) else 0))) ∧ (((qs a 3 i0 1 (if 0 < ((a 3 i0 1) - 5) then ((a 3 i0 1) - 5) else 0)) 3 i0 1) = 0 → post (qs (qs a 3 i0 1 (if 0 < ((a 3 i0 1) - 5) then ((a 3 i0 1) - 5) else 0)) 3 i0 2 0)))
set_option maxHeartbeats 4000000 in
theorem ct_X3_rest {g : q_G} {s : q_S} {t p : Nat} (hS : q_Sh t p s) {i0 : Nat} {a : qa} {post : qa → Prop} (Wq : wp_X3_rest t p i0 a post) : q_Ct g mX3_rest (q_Rm 1 0 0) [q_O 3 i0] (a, s) (q_kV s post) := by
  refine q_mk rfl rfl (Nat.le_of_ble_eq_true rfl) (q_cs rfl q_nil) (fun hv => ?_)
  unfold wp_X3_rest at Wq
  refine xe_aload_n dX3_rest_0 rfl q_rvO ?_
  refine xe_iconst 0 dX3_rest_1 (by decide) ?_
  refine xe_aload_n dX3_rest_2 rfl q_rvO ?_
  refine xe_geti dX3_rest_3 fX3_9 (fun _ _ => rfl) ?_
  refine xe_iconst 5 dX3_rest_6 (by decide) ?_
  refine xe_isub dX3_rest_7 ?_
  refine xe_mmax dX3_rest_8 ⟨lX3_51, q_wmax⟩ (Nat.le_of_ble_eq_true rfl) ⟨Nat.le_of_ble_eq_true rfl, Nat.le_of_ble_eq_true rfl⟩ ?_
  refine xf_puti dX3_rest_11 fX3_9 (fun q hq => Or.inl (by cases hq; rfl)) ⟨rfl, rfl⟩ (fun _ _ => rfl) ?_
  refine xe_aload_n dX3_rest_14 rfl q_rvO ?_
  refine xe_geti dX3_rest_15 fX3_9 (fun _ _ => rfl) ?_
  refine xe_if_ne 26 dX3_rest_18 (by decide) (fun c_18 => ?_) (fun c_18 => ?_)
  · replace Wq := Wq.1 c_18
    exact xe_vret dX3_rest_26 rfl ⟨_, rfl, rfl, Wq⟩
  · replace Wq := Wq.2 c_18
    refine xe_aload_n dX3_rest_21 rfl q_rvO ?_
    refine xe_iconst 0 dX3_rest_22 (by decide) ?_
    refine xf_puti dX3_rest_23 fX3_15 (fun q hq => Or.inl (by cases hq; rfl)) ⟨rfl, rfl⟩ (fun _ _ => rfl) ?_
    exact xe_vret dX3_rest_26 rfl ⟨_, rfl, rfl, Wq⟩
def wp_X3_unload (t p : Nat) (i0 : Nat) (x1 : Int32) (x2 : Int32) (a : qa) (post : qa → Prop) : Prop := ((¬ x1 = 0 → ((¬ x1 = 1 → post (qs (qs a 3 i0 6 (-1)) 3 i0 7 0)) ∧ (x1 = 1 → post (qs a 3 i0 5 ((a 3 i0 5) - x2))))) ∧ (x1 = 0 → post (qs a 3 i0 4 ((a 3 i0 4) - x2))))
set_option maxHeartbeats 4000000 in
theorem ct_X3_unload {g : q_G} {s : q_S} {t p : Nat} (hS : q_Sh t p s) {i0 : Nat} {x1 : Int32} {x2 : Int32} {a : qa} {post : qa → Prop} (Wq : wp_X3_unload t p i0 x1 x2 a post) : q_Ct g mX3_unload (q_Rm 1 0 0) [q_O 3 i0, q_I x1, q_I x2] (a, s) (q_kV s post) := by
  refine q_mk rfl rfl (Nat.le_of_ble_eq_true rfl) (q_cs rfl (q_cs rfl (q_cs rfl q_nil))) (fun hv => ?_)
  unfold wp_X3_unload at Wq
  refine xe_iload_n dX3_unload_0 rfl ?_
  refine xe_if_ne 17 dX3_unload_1 (by decide) (fun c_1 => ?_) (fun c_1 => ?_)
  · replace Wq := Wq.1 c_1
    refine xe_iload_n dX3_unload_17 rfl ?_
    refine xe_iconst 1 dX3_unload_18 (by decide) ?_
    refine xe_ic_ne 35 dX3_unload_19 (by decide) (fun c_19 => ?_) (fun c_19 => ?_)
    · replace Wq := Wq.1 c_19
      refine xe_aload_n dX3_unload_35 rfl q_rvO ?_
      refine xe_iconst (-1) dX3_unload_36 (by decide) ?_
      refine xf_puti dX3_unload_37 fX3_28 (fun q hq => Or.inl (by cases hq; rfl)) ⟨rfl, rfl⟩ (fun _ _ => rfl) ?_
      refine xe_aload_n dX3_unload_40 rfl q_rvO ?_
      refine xe_iconst 0 dX3_unload_41 (by decide) ?_
      refine xf_puti dX3_unload_42 fX3_31 (fun q hq => Or.inl (by cases hq; rfl)) ⟨rfl, rfl⟩ (fun _ _ => rfl) ?_
      exact xe_vret dX3_unload_45 rfl ⟨_, rfl, rfl, Wq⟩
    · replace Wq := Wq.2 c_19
      refine xe_aload_n dX3_unload_22 rfl q_rvO ?_
      refine xe_dup dX3_unload_23 rfl ?_
      refine xe_geti dX3_unload_24 fX3_25 (fun _ _ => rfl) ?_
      refine xe_iload_n dX3_unload_27 rfl ?_
      refine xe_isub dX3_unload_28 ?_
      refine xf_puti dX3_unload_29 fX3_25 (fun q hq => Or.inl (by cases hq; rfl)) ⟨rfl, rfl⟩ (fun _ _ => rfl) ?_
      refine xe_goto 45 dX3_unload_32 (by decide) ?_
      exact xe_vret dX3_unload_45 rfl ⟨_, rfl, rfl, Wq⟩
  · replace Wq := Wq.2 c_1
    refine xe_aload_n dX3_unload_4 rfl q_rvO ?_
    refine xe_dup dX3_unload_5 rfl ?_
    refine xe_geti dX3_unload_6 fX3_22 (fun _ _ => rfl) ?_
    refine xe_iload_n dX3_unload_9 rfl ?_
    refine xe_isub dX3_unload_10 ?_
    refine xf_puti dX3_unload_11 fX3_22 (fun q hq => Or.inl (by cases hq; rfl)) ⟨rfl, rfl⟩ (fun _ _ => rfl) ?_
    refine xe_goto 45 dX3_unload_14 (by decide) ?_
    exact xe_vret dX3_unload_45 rfl ⟨_, rfl, rfl, Wq⟩
def wp_X4_deliver (t p : Nat) (i0 : Nat) (x1 : Int32) (a : qa) (post : qa → Prop) : Prop := post (qs (qs a 4 i0 4 2) 4 i0 9 x1)
set_option maxHeartbeats 4000000 in
theorem ct_X4_deliver {g : q_G} {s : q_S} {t p : Nat} (hS : q_Sh t p s) {i0 : Nat} {x1 : Int32} {a : qa} {post : qa → Prop} (Wq : wp_X4_deliver t p i0 x1 a post) : q_Ct g mX4_deliver (q_Rm 1 0 0) [q_O 4 i0, q_I x1] (a, s) (q_kV s post) := by
  refine q_mk rfl rfl (Nat.le_of_ble_eq_true rfl) (q_cs rfl (q_cs rfl q_nil)) (fun hv => ?_)
  unfold wp_X4_deliver at Wq
  refine xe_aload_n dX4_deliver_0 rfl q_rvO ?_
  refine xe_iconst 2 dX4_deliver_1 (by decide) ?_
  refine xf_puti dX4_deliver_2 fX4_9 (fun q hq => Or.inl (by cases hq; rfl)) ⟨rfl, rfl⟩ (fun _ _ => rfl) ?_
  refine xe_aload_n dX4_deliver_5 rfl q_rvO ?_
  refine xe_iload_n dX4_deliver_6 rfl ?_
  refine xf_puti dX4_deliver_7 fX4_24 (fun q hq => Or.inl (by cases hq; rfl)) ⟨rfl, rfl⟩ (fun _ _ => rfl) ?_
  exact xe_vret dX4_deliver_10 rfl ⟨_, rfl, rfl, Wq⟩
def wp_X4_liftOnto (t p : Nat) (i0 : Nat) (x1 : Int32) (x2 : Int32) (x3 : Int32) (a : qa) (post : qa → Prop) : Prop := post (qs (qs (qs (qs a 4 i0 4 1) 4 i0 5 x1) 4 i0 6 x2) 4 i0 7 x3)
set_option maxHeartbeats 4000000 in
theorem ct_X4_liftOnto {g : q_G} {s : q_S} {t p : Nat} (hS : q_Sh t p s) {i0 : Nat} {x1 : Int32} {x2 : Int32} {x3 : Int32} {a : qa} {post : qa → Prop} (Wq : wp_X4_liftOnto t p i0 x1 x2 x3 a post) : q_Ct g mX4_liftOnto (q_Rm 1 0 0) [q_O 4 i0, q_I x1, q_I x2, q_I x3] (a, s) (q_kV s post) := by
  refine q_mk rfl rfl (Nat.le_of_ble_eq_true rfl) (q_cs rfl (q_cs rfl (q_cs rfl (q_cs rfl q_nil)))) (fun hv => ?_)
  unfold wp_X4_liftOnto at Wq
  refine xe_aload_n dX4_liftOnto_0 rfl q_rvO ?_
  refine xe_iconst 1 dX4_liftOnto_1 (by decide) ?_
  refine xf_puti dX4_liftOnto_2 fX4_9 (fun q hq => Or.inl (by cases hq; rfl)) ⟨rfl, rfl⟩ (fun _ _ => rfl) ?_
  refine xe_aload_n dX4_liftOnto_5 rfl q_rvO ?_
  refine xe_iload_n dX4_liftOnto_6 rfl ?_
  refine xf_puti dX4_liftOnto_7 fX4_33 (fun q hq => Or.inl (by cases hq; rfl)) ⟨rfl, rfl⟩ (fun _ _ => rfl) ?_
  refine xe_aload_n dX4_liftOnto_10 rfl q_rvO ?_
  refine xe_iload_n dX4_liftOnto_11 rfl ?_
  refine xf_puti dX4_liftOnto_12 fX4_15 (fun q hq => Or.inl (by cases hq; rfl)) ⟨rfl, rfl⟩ (fun _ _ => rfl) ?_
  refine xe_aload_n dX4_liftOnto_15 rfl q_rvO ?_
  refine xe_iload_n dX4_liftOnto_16 rfl ?_
  refine xf_puti dX4_liftOnto_17 fX4_18 (fun q hq => Or.inl (by cases hq; rfl)) ⟨rfl, rfl⟩ (fun _ _ => rfl) ?_
  exact xe_vret dX4_liftOnto_20 rfl ⟨_, rfl, rfl, Wq⟩
def wp_X4_nextLeg (t p : Nat) (i0 : Nat) (x1 : Int32) (a : qa) (post : Int32 → qa → Prop) : Prop := ((x1 = (-1) → post (-1) a) ∧ (¬ x1 = (-1) → ((¬ x1 = (a 4 i0 2) → (((a 4 i0 2) ≤ x1 → post (x1 - 1) a) ∧ (¬ (a 4 i0 2) ≤ x1 → post x1 a))) ∧ (x1 = (a 4 i0 2) → post (-1) a))))
set_option maxHeartbeats 4000000 in
theorem ct_X4_nextLeg {g : q_G} {s : q_S} {t p : Nat} (hS : q_Sh t p s) {i0 : Nat} {x1 : Int32} {a : qa} {post : Int32 → qa → Prop} (Wq : wp_X4_nextLeg t p i0 x1 a post) : q_Ct g mX4_nextLeg (q_Rm 1 0 0) [q_O 4 i0, q_I x1] (a, s) (q_kI s post) := by
  refine q_mk rfl rfl (Nat.le_of_ble_eq_true rfl) (q_cs rfl (q_cs rfl q_nil)) (fun hv => ?_)
  unfold wp_X4_nextLeg at Wq
  refine xe_iload_n dX4_nextLeg_0 rfl ?_
  refine xe_iconst (-1) dX4_nextLeg_1 (by decide) ?_
  refine xe_ic_eq 13 dX4_nextLeg_2 (by decide) (fun c_2 => ?_) (fun c_2 => ?_)
  · replace Wq := Wq.1 c_2
    refine xe_iconst (-1) dX4_nextLeg_13 (by decide) ?_
    exact xe_iret .int dX4_nextLeg_14 rfl rfl ⟨_, _, rfl, rfl, Wq⟩
  · replace Wq := Wq.2 c_2
    refine xe_iload_n dX4_nextLeg_5 rfl ?_
    refine xe_aload_n dX4_nextLeg_6 rfl q_rvO ?_
    refine xe_geti dX4_nextLeg_7 fX4_36 (fun _ _ => rfl) ?_
    refine xe_ic_ne 15 dX4_nextLeg_10 (by decide) (fun c_10 => ?_) (fun c_10 => ?_)
    · replace Wq := Wq.1 c_10
      refine xe_iload_n dX4_nextLeg_15 rfl ?_
      refine xe_aload_n dX4_nextLeg_16 rfl q_rvO ?_
      refine xe_geti dX4_nextLeg_17 fX4_36 (fun _ _ => rfl) ?_
      refine xe_ic_ge 27 dX4_nextLeg_20 (by decide) (fun c_20 => ?_) (fun c_20 => ?_)
      · replace Wq := Wq.1 c_20
        refine xe_iload_n dX4_nextLeg_27 rfl ?_
        refine xe_iconst 1 dX4_nextLeg_28 (by decide) ?_
        refine xe_isub dX4_nextLeg_29 ?_
        exact xe_iret .int dX4_nextLeg_30 rfl rfl ⟨_, _, rfl, rfl, Wq⟩
      · replace Wq := Wq.2 c_20
        refine xe_iload_n dX4_nextLeg_23 rfl ?_
        refine xe_goto 30 dX4_nextLeg_24 (by decide) ?_
        exact xe_iret .int dX4_nextLeg_30 rfl rfl ⟨_, _, rfl, rfl, Wq⟩
    · replace Wq := Wq.2 c_10
      refine xe_iconst (-1) dX4_nextLeg_13 (by decide) ?_
      exact xe_iret .int dX4_nextLeg_14 rfl rfl ⟨_, _, rfl, rfl, Wq⟩
def wp_X4_putAt (t p : Nat) (i0 : Nat) (x1 : Int32) (a : qa) (post : qa → Prop) : Prop := post (qs (qs (qs (qs a 4 i0 4 0) 4 i0 5 x1) 4 i0 6 (-1)) 4 i0 7 (-1))
set_option maxHeartbeats 4000000 in
theorem ct_X4_putAt {g : q_G} {s : q_S} {t p : Nat} (hS : q_Sh t p s) {i0 : Nat} {x1 : Int32} {a : qa} {post : qa → Prop} (Wq : wp_X4_putAt t p i0 x1 a post) : q_Ct g mX4_putAt (q_Rm 1 0 0) [q_O 4 i0, q_I x1] (a, s) (q_kV s post) := by
  refine q_mk rfl rfl (Nat.le_of_ble_eq_true rfl) (q_cs rfl (q_cs rfl q_nil)) (fun hv => ?_)
  unfold wp_X4_putAt at Wq
  refine xe_aload_n dX4_putAt_0 rfl q_rvO ?_
  refine xe_iconst 0 dX4_putAt_1 (by decide) ?_
  refine xf_puti dX4_putAt_2 fX4_9 (fun q hq => Or.inl (by cases hq; rfl)) ⟨rfl, rfl⟩ (fun _ _ => rfl) ?_
  refine xe_aload_n dX4_putAt_5 rfl q_rvO ?_
  refine xe_iload_n dX4_putAt_6 rfl ?_
  refine xf_puti dX4_putAt_7 fX4_33 (fun q hq => Or.inl (by cases hq; rfl)) ⟨rfl, rfl⟩ (fun _ _ => rfl) ?_
  refine xe_aload_n dX4_putAt_10 rfl q_rvO ?_
  refine xe_iconst (-1) dX4_putAt_11 (by decide) ?_
  refine xf_puti dX4_putAt_12 fX4_15 (fun q hq => Or.inl (by cases hq; rfl)) ⟨rfl, rfl⟩ (fun _ _ => rfl) ?_
  refine xe_aload_n dX4_putAt_15 rfl q_rvO ?_
  refine xe_iconst (-1) dX4_putAt_16 (by decide) ?_
  refine xf_puti dX4_putAt_17 fX4_18 (fun q hq => Or.inl (by cases hq; rfl)) ⟨rfl, rfl⟩ (fun _ _ => rfl) ?_
  exact xe_vret dX4_putAt_20 rfl ⟨_, rfl, rfl, Wq⟩
def wl_X0_holdAll_3 (t p : Nat) (post : Int32 → qa → Prop) : Nat → Nat → Int32 → Nat → Int32 → Int32 → qa → Prop
  | 0 => fun _ _ _ _ _ _ => False
  | n + 1 => fun o0 x2 o3 x4 x5 a => ((x2 ≤ x5 → post 1 a) ∧ (¬ x2 ≤ x5 → ((80 ≤ x5 → post 1 a) ∧ (¬ 80 ≤ x5 → vp_in x5 80 ∧ vp_in x5 80 ∧ wp_X0_measure t p (a 14 o0 x5.toNatClampNeg) o3 x4 a (fun r33 a33 => vp_in x5 80 ∧ wp_X0_holds t p (a 15 o0 x5.toNatClampNeg) r33 (a33 16 o0 x5.toNatClampNeg) a33 (fun r43 a43 => ((¬ r43 = 0 → (wl_X0_holdAll_3 t p post n) o0 x2 o3 x4 (x5 + 1) a43) ∧ (r43 = 0 → post 0 a43))))))))
def wp_X0_holdAll (t p : Nat) (i0 : Nat) (x1 : Int32) (x2 : Int32) (o3 : Nat) (x4 : Int32) (a : qa) (post : Int32 → qa → Prop) : Prop := ∃ n_3, wl_X0_holdAll_3 t p post n_3 i0 x2 o3 x4 x1 a
set_option maxHeartbeats 4000000 in
theorem el_X0_holdAll_3 {g : q_G} {s : q_S} {t p : Nat} (hS : q_Sh t p s) {post : Int32 → qa → Prop} : ∀ (n : Nat) (o0 : Nat) (x2 : Int32) (o3 : Nat) (x4 : Int32) (x5 : Int32) (a : qa), o0 < 10 → wl_X0_holdAll_3 t p post n o0 x2 o3 x4 x5 a → q_E g mX0_holdAll (q_Rm 2 0 0) (q_kI s post) (0, 0) 3 [some (q_O 0 o0), none, some (q_I x2), some (q_O 4 o3), some (q_I x4), some (q_I x5)] [] (a, s) := by
  intro n
  induction n with
  | zero =>
    intro o0 x2 o3 x4 x5 a hi0 Wq
    exact absurd Wq id
  | succ n ih =>
    intro o0 x2 o3 x4 x5 a hi0 Wq
    unfold wl_X0_holdAll_3 at Wq
    refine xe_iload dX0_holdAll_3 rfl ?_
    refine xe_iload_n dX0_holdAll_5 rfl ?_
    refine xe_ic_ge 57 dX0_holdAll_6 (by decide) (fun c_6 => ?_) (fun c_6 => ?_)
    · replace Wq := Wq.1 c_6
      refine xe_iconst 1 dX0_holdAll_57 (by decide) ?_
      exact xe_iret .boolean dX0_holdAll_58 rfl (by decide) ⟨_, _, rfl, rfl, Wq⟩
    · replace Wq := Wq.2 c_6
      refine xe_iload dX0_holdAll_9 rfl ?_
      refine xe_bipush 80 dX0_holdAll_11 (by decide) ?_
      refine xe_ic_ge 57 dX0_holdAll_13 (by decide) (fun c_13 => ?_) (fun c_13 => ?_)
      · replace Wq := Wq.1 c_13
        refine xe_iconst 1 dX0_holdAll_57 (by decide) ?_
        exact xe_iret .boolean dX0_holdAll_58 rfl (by decide) ⟨_, _, rfl, rfl, Wq⟩
      · replace Wq := Wq.2 c_13
        refine xe_aload_n dX0_holdAll_16 rfl q_rvO ?_
        refine xe_getr dX0_holdAll_17 fX0_21 (fun _ _ => rfl) (q_sB hS hi0 (by decide)) ?_
        refine xe_iload dX0_holdAll_20 rfl ?_
        obtain ⟨hj_22, Wq⟩ := Wq
        refine xe_iald dX0_holdAll_22 rfl hj_22 ?_
        refine xe_aload_n dX0_holdAll_23 rfl q_rvO ?_
        refine xe_getr dX0_holdAll_24 fX0_18 (fun _ _ => rfl) (q_sB hS hi0 (by decide)) ?_
        refine xe_iload dX0_holdAll_27 rfl ?_
        obtain ⟨hj_29, Wq⟩ := Wq
        refine xe_iald dX0_holdAll_29 rfl hj_29 ?_
        refine xe_aload_n dX0_holdAll_30 rfl q_rvO ?_
        refine xe_iload dX0_holdAll_31 rfl ?_
        refine xe_cs (y' := mX0_measure) dX0_holdAll_33 (Or.inl lX0_41) tX0_measure (ct_X0_measure hS Wq) rfl rfl (Nat.le_of_ble_eq_true rfl) ⟨Nat.le_of_ble_eq_true rfl, Nat.le_of_ble_eq_true rfl⟩ ⟨Nat.le_of_ble_eq_true rfl, Nat.le_of_ble_eq_true rfl⟩ (fun v1 h1 hl1 hk1 hm1 => ?_)
        obtain ⟨r33, a33, rfl, rfl, Wq⟩ := hk1
        refine xe_aload_n dX0_holdAll_36 rfl q_rvO ?_
        refine xe_getr dX0_holdAll_37 fX0_24 (fun _ _ => rfl) (q_sB hS hi0 (by decide)) ?_
        refine xe_iload dX0_holdAll_40 rfl ?_
        obtain ⟨hj_42, Wq⟩ := Wq
        refine xe_iald dX0_holdAll_42 rfl hj_42 ?_
        refine xe_cs (y' := mX0_holds) dX0_holdAll_43 (Or.inl lX0_45) tX0_holds (ct_X0_holds hS Wq) rfl rfl (Nat.le_of_ble_eq_true rfl) ⟨Nat.le_of_ble_eq_true rfl, Nat.le_of_ble_eq_true rfl⟩ ⟨Nat.le_of_ble_eq_true rfl, Nat.le_of_ble_eq_true rfl⟩ (fun v1 h1 hl1 hk1 hm1 => ?_)
        obtain ⟨r43, a43, rfl, rfl, Wq⟩ := hk1
        refine xe_if_ne 51 dX0_holdAll_46 (by decide) (fun c_46 => ?_) (fun c_46 => ?_)
        · replace Wq := Wq.1 c_46
          refine xe_iinc (_ + 1) dX0_holdAll_51 (by decide) rfl rfl ?_
          refine xe_goto 3 dX0_holdAll_54 (by decide) ?_
          refine q_wk (ls := [some (q_O 0 o0), none, some (q_I x2), some (q_O 4 o3), some (q_I x4), some (q_I (x5 + 1))]) ⟨rfl, ⟨rfl, ⟨rfl, ⟨rfl, ⟨rfl, trivial⟩⟩⟩⟩⟩ ?_
          exact ih _ _ _ _ _ _ hi0 Wq
        · replace Wq := Wq.2 c_46
          refine xe_iconst 0 dX0_holdAll_49 (by decide) ?_
          exact xe_iret .boolean dX0_holdAll_50 rfl (by decide) ⟨_, _, rfl, rfl, Wq⟩
set_option maxHeartbeats 4000000 in
theorem ct_X0_holdAll {g : q_G} {s : q_S} {t p : Nat} (hS : q_Sh t p s) {i0 : Nat} {x1 : Int32} {x2 : Int32} {o3 : Nat} {x4 : Int32} {a : qa} {post : Int32 → qa → Prop} (Wq : wp_X0_holdAll t p i0 x1 x2 o3 x4 a post) : q_Ct g mX0_holdAll (q_Rm 2 0 0) [q_O 0 i0, q_I x1, q_I x2, q_O 4 o3, q_I x4] (a, s) (q_kI s post) := by
  refine q_mk rfl rfl (Nat.le_of_ble_eq_true rfl) (q_cs rfl (q_cs rfl (q_cs rfl (q_cs rfl (q_cs rfl q_nil))))) (fun hv => ?_)
  have hi0 : i0 < 10 := q_lt0 hS (q_hd hv)
  unfold wp_X0_holdAll at Wq
  refine xe_iload_n dX0_holdAll_0 rfl ?_
  refine xe_istore dX0_holdAll_1 (by decide) ?_
  obtain ⟨n_3, Wq⟩ := Wq
  refine q_wk (ls := [some (q_O 0 i0), none, some (q_I x2), some (q_O 4 o3), some (q_I x4), some (q_I x1)]) ⟨rfl, ⟨rfl, ⟨rfl, ⟨rfl, ⟨rfl, trivial⟩⟩⟩⟩⟩ ?_
  exact el_X0_holdAll_3 hS n_3 _ _ _ _ _ _ hi0 Wq
def wp_X3_isFit (t p : Nat) (i0 : Nat) (a : qa) (post : Int32 → qa → Prop) : Prop := ((10 < (if 0 ≤ ((a 3 i0 4) - (a 3 i0 5)) then ((a 3 i0 4) - (a 3 i0 5)) else 0 - ((a 3 i0 4) - (a 3 i0 5))) → post 0 a) ∧ (¬ 10 < (if 0 ≤ ((a 3 i0 4) - (a 3 i0 5)) then ((a 3 i0 4) - (a 3 i0 5)) else 0 - ((a 3 i0 4) - (a 3 i0 5))) → (((a 3 i0 2) = 0 → post 1 a) ∧ (¬ (a 3 i0 2) = 0 → wp_X3_load t p i0 a (fun r25 a25 => ((¬ r25 = 0 → post 0 a25) ∧ (r25 = 0 → post 1 a25)))))))
set_option maxHeartbeats 4000000 in
theorem ct_X3_isFit {g : q_G} {s : q_S} {t p : Nat} (hS : q_Sh t p s) {i0 : Nat} {a : qa} {post : Int32 → qa → Prop} (Wq : wp_X3_isFit t p i0 a post) : q_Ct g mX3_isFit (q_Rm 2 0 0) [q_O 3 i0] (a, s) (q_kI s post) := by
  refine q_mk rfl rfl (Nat.le_of_ble_eq_true rfl) (q_cs rfl q_nil) (fun hv => ?_)
  unfold wp_X3_isFit at Wq
  refine xe_aload_n dX3_isFit_0 rfl q_rvO ?_
  refine xe_geti dX3_isFit_1 fX3_22 (fun _ _ => rfl) ?_
  refine xe_aload_n dX3_isFit_4 rfl q_rvO ?_
  refine xe_geti dX3_isFit_5 fX3_25 (fun _ _ => rfl) ?_
  refine xe_isub dX3_isFit_8 ?_
  refine xe_mabs dX3_isFit_9 ⟨lX3_37, q_wabs⟩ (Nat.le_of_ble_eq_true rfl) ⟨Nat.le_of_ble_eq_true rfl, Nat.le_of_ble_eq_true rfl⟩ ?_
  refine xe_bipush 10 dX3_isFit_12 (by decide) ?_
  refine xe_ic_gt 35 dX3_isFit_14 (by decide) (fun c_14 => ?_) (fun c_14 => ?_)
  · replace Wq := Wq.1 c_14
    refine xe_iconst 0 dX3_isFit_35 (by decide) ?_
    exact xe_iret .boolean dX3_isFit_36 rfl (by decide) ⟨_, _, rfl, rfl, Wq⟩
  · replace Wq := Wq.2 c_14
    refine xe_aload_n dX3_isFit_17 rfl q_rvO ?_
    refine xe_geti dX3_isFit_18 fX3_15 (fun _ _ => rfl) ?_
    refine xe_if_eq 31 dX3_isFit_21 (by decide) (fun c_21 => ?_) (fun c_21 => ?_)
    · replace Wq := Wq.1 c_21
      refine xe_iconst 1 dX3_isFit_31 (by decide) ?_
      refine xe_goto 36 dX3_isFit_32 (by decide) ?_
      exact xe_iret .boolean dX3_isFit_36 rfl (by decide) ⟨_, _, rfl, rfl, Wq⟩
    · replace Wq := Wq.2 c_21
      refine xe_aload_n dX3_isFit_24 rfl q_rvO ?_
      refine xe_cv (y' := mX3_load) dX3_isFit_25 (Or.inl lX3_43) tX3_load rfl rfl (ct_X3_load hS Wq) rfl rfl (Nat.le_of_ble_eq_true rfl) ⟨Nat.le_of_ble_eq_true rfl, Nat.le_of_ble_eq_true rfl⟩ ⟨Nat.le_of_ble_eq_true rfl, Nat.le_of_ble_eq_true rfl⟩ (fun v1 h1 hl1 hk1 hm1 => ?_)
      obtain ⟨r25, a25, rfl, rfl, Wq⟩ := hk1
      refine xe_if_ne 35 dX3_isFit_28 (by decide) (fun c_28 => ?_) (fun c_28 => ?_)
      · replace Wq := Wq.1 c_28
        refine xe_iconst 0 dX3_isFit_35 (by decide) ?_
        exact xe_iret .boolean dX3_isFit_36 rfl (by decide) ⟨_, _, rfl, rfl, Wq⟩
      · replace Wq := Wq.2 c_28
        refine xe_iconst 1 dX3_isFit_31 (by decide) ?_
        refine xe_goto 36 dX3_isFit_32 (by decide) ?_
        exact xe_iret .boolean dX3_isFit_36 rfl (by decide) ⟨_, _, rfl, rfl, Wq⟩
def wp_X3_walk (t p : Nat) (i0 : Nat) (x1 : Int32) (x2 : Int32) (a : qa) (post : qa → Prop) : Prop := (((a 3 i0 2) = 0 → wp_X3_load t p i0 a (fun r18 a18 => ((¬ ((qs a18 3 i0 1 (if (((a 3 i0 1) + 2) + ((r18 * x1) / 100)) < 100 then (((a 3 i0 1) + 2) + ((r18 * x1) / 100)) else 100)) 3 i0 1) = 100 → post (qs a18 3 i0 1 (if (((a 3 i0 1) + 2) + ((r18 * x1) / 100)) < 100 then (((a 3 i0 1) + 2) + ((r18 * x1) / 100)) else 100))) ∧ (((qs a18 3 i0 1 (if (((a 3 i0 1) + 2) + ((r18 * x1) / 100)) < 100 then (((a 3 i0 1) + 2) + ((r18 * x1) / 100)) else 100)) 3 i0 1) = 100 → post (qs (qs (qs a18 3 i0 1 (if (((a 3 i0 1) + 2) + ((r18 * x1) / 100)) < 100 then (((a 3 i0 1) + 2) + ((r18 * x1) / 100)) else 100)) 3 i0 2 1) 3 i0 3 x2))))) ∧ (¬ (a 3 i0 2) = 0 → post a))
set_option maxHeartbeats 4000000 in
theorem ct_X3_walk {g : q_G} {s : q_S} {t p : Nat} (hS : q_Sh t p s) {i0 : Nat} {x1 : Int32} {x2 : Int32} {a : qa} {post : qa → Prop} (Wq : wp_X3_walk t p i0 x1 x2 a post) : q_Ct g mX3_walk (q_Rm 2 0 0) [q_O 3 i0, q_I x1, q_I x2] (a, s) (q_kV s post) := by
  refine q_mk rfl rfl (Nat.le_of_ble_eq_true rfl) (q_cs rfl (q_cs rfl (q_cs rfl q_nil))) (fun hv => ?_)
  unfold wp_X3_walk at Wq
  refine xe_aload_n dX3_walk_0 rfl q_rvO ?_
  refine xe_geti dX3_walk_1 fX3_15 (fun _ _ => rfl) ?_
  refine xe_if_eq 8 dX3_walk_4 (by decide) (fun c_4 => ?_) (fun c_4 => ?_)
  · replace Wq := Wq.1 c_4
    refine xe_aload_n dX3_walk_8 rfl q_rvO ?_
    refine xe_bipush 100 dX3_walk_9 (by decide) ?_
    refine xe_aload_n dX3_walk_11 rfl q_rvO ?_
    refine xe_geti dX3_walk_12 fX3_9 (fun _ _ => rfl) ?_
    refine xe_iconst 2 dX3_walk_15 (by decide) ?_
    refine xe_iadd dX3_walk_16 ?_
    refine xe_aload_n dX3_walk_17 rfl q_rvO ?_
    refine xe_cv (y' := mX3_load) dX3_walk_18 (Or.inl lX3_43) tX3_load rfl rfl (ct_X3_load hS Wq) rfl rfl (Nat.le_of_ble_eq_true rfl) ⟨Nat.le_of_ble_eq_true rfl, Nat.le_of_ble_eq_true rfl⟩ ⟨Nat.le_of_ble_eq_true rfl, Nat.le_of_ble_eq_true rfl⟩ (fun v1 h1 hl1 hk1 hm1 => ?_)
    obtain ⟨r18, a18, rfl, rfl, Wq⟩ := hk1
    refine xe_iload_n dX3_walk_21 rfl ?_
    refine xe_imul dX3_walk_22 ?_
    refine xe_bipush 100 dX3_walk_23 (by decide) ?_
    refine xe_idiv dX3_walk_25 (by decide) ?_
    refine xe_iadd dX3_walk_26 ?_
    refine xe_mmin dX3_walk_27 ⟨lX3_47, q_wmin⟩ (Nat.le_of_ble_eq_true rfl) ⟨Nat.le_of_ble_eq_true rfl, Nat.le_of_ble_eq_true rfl⟩ ?_
    refine xf_puti dX3_walk_30 fX3_9 (fun q hq => Or.inl (by cases hq; rfl)) ⟨rfl, rfl⟩ (fun _ _ => rfl) ?_
    refine xe_aload_n dX3_walk_33 rfl q_rvO ?_
    refine xe_geti dX3_walk_34 fX3_9 (fun _ _ => rfl) ?_
    refine xe_bipush 100 dX3_walk_37 (by decide) ?_
    refine xe_ic_ne 52 dX3_walk_39 (by decide) (fun c_39 => ?_) (fun c_39 => ?_)
    · replace Wq := Wq.1 c_39
      exact xe_vret dX3_walk_52 rfl ⟨_, rfl, rfl, Wq⟩
    · replace Wq := Wq.2 c_39
      refine xe_aload_n dX3_walk_42 rfl q_rvO ?_
      refine xe_iconst 1 dX3_walk_43 (by decide) ?_
      refine xf_puti dX3_walk_44 fX3_15 (fun q hq => Or.inl (by cases hq; rfl)) ⟨rfl, rfl⟩ (fun _ _ => rfl) ?_
      refine xe_aload_n dX3_walk_47 rfl q_rvO ?_
      refine xe_iload_n dX3_walk_48 rfl ?_
      refine xf_puti dX3_walk_49 fX3_19 (fun q hq => Or.inl (by cases hq; rfl)) ⟨rfl, rfl⟩ (fun _ _ => rfl) ?_
      exact xe_vret dX3_walk_52 rfl ⟨_, rfl, rfl, Wq⟩
  · replace Wq := Wq.2 c_4
    exact xe_vret dX3_walk_7 rfl ⟨_, rfl, rfl, Wq⟩
def wl_X0_payFor_52 (t p : Nat) (J8 : Nat → Nat → Int32 → Int32 → Int32 → Int32 → qa → Prop) (post : Int32 → qa → Prop) : Nat → Nat → Int32 → Int32 → Int32 → qa → Prop := fun o0 o1 x2 x3 x5 a => vp_in x5 20 ∧ (J8 o0 o1 x2 x3 (a 12 o0 x5.toNatClampNeg) (x5 + 1) a)
def wl_X0_payFor_8 (t p : Nat) (post : Int32 → qa → Prop) : Nat → Nat → Nat → Int32 → Int32 → Int32 → Int32 → qa → Prop
  | 0 => fun _ _ _ _ _ _ _ => False
  | n + 1 => fun o0 o1 x2 x3 x4 x5 a => (((a 0 o0 5) ≤ x5 → post x3 a) ∧ (¬ (a 0 o0 5) ≤ x5 → ((20 ≤ x5 → post x3 a) ∧ (¬ 20 ≤ x5 → vp_in x5 20 ∧ wp_X0_holdAll t p o0 x4 (a 12 o0 x5.toNatClampNeg) o1 x2 a (fun r36 a36 => ((r36 = 0 → wl_X0_payFor_52 t p (wl_X0_payFor_8 t p post n) post o0 o1 x2 x3 x5 a36) ∧ (¬ r36 = 0 → vp_in x5 20 ∧ (wl_X0_payFor_52 t p (wl_X0_payFor_8 t p post n) post o0 o1 x2 (x3 + (a36 13 o0 x5.toNatClampNeg)) x5 a36))))))))
def wp_X0_payFor (t p : Nat) (i0 : Nat) (o1 : Nat) (x2 : Int32) (a : qa) (post : Int32 → qa → Prop) : Prop := ∃ n_8, wl_X0_payFor_8 t p post n_8 i0 o1 x2 0 0 0 a
set_option maxHeartbeats 4000000 in
theorem el_X0_payFor_52 {g : q_G} {s : q_S} {t p : Nat} (hS : q_Sh t p s) {post : Int32 → qa → Prop} {J8 : Nat → Nat → Int32 → Int32 → Int32 → Int32 → qa → Prop} (hJ8 : ∀ (o0 : Nat) (o1 : Nat) (x2 : Int32) (x3 : Int32) (x4 : Int32) (x5 : Int32) (a : qa), o0 < 10 → J8 o0 o1 x2 x3 x4 x5 a → q_E g mX0_payFor (q_Rm 3 0 0) (q_kI s post) (0, 0) 8 [some (q_O 0 o0), some (q_O 4 o1), some (q_I x2), some (q_I x3), some (q_I x4), some (q_I x5)] [] (a, s)) : ∀ (o0 : Nat) (o1 : Nat) (x2 : Int32) (x3 : Int32) (x5 : Int32) (a : qa), o0 < 10 → wl_X0_payFor_52 t p J8 post o0 o1 x2 x3 x5 a → q_E g mX0_payFor (q_Rm 3 0 0) (q_kI s post) (0, 0) 52 [some (q_O 0 o0), some (q_O 4 o1), some (q_I x2), some (q_I x3), none, some (q_I x5)] [] (a, s) := by
  intro o0 o1 x2 x3 x5 a hi0 Wq
  unfold wl_X0_payFor_52 at Wq
  refine xe_aload_n dX0_payFor_52 rfl q_rvO ?_
  refine xe_getr dX0_payFor_53 fX0_9 (fun _ _ => rfl) (q_sB hS hi0 (by decide)) ?_
  refine xe_iload dX0_payFor_56 rfl ?_
  obtain ⟨hj_58, Wq⟩ := Wq
  refine xe_iald dX0_payFor_58 rfl hj_58 ?_
  refine xe_istore dX0_payFor_59 (by decide) ?_
  refine xe_iinc (_ + 1) dX0_payFor_61 (by decide) rfl rfl ?_
  refine xe_goto 8 dX0_payFor_64 (by decide) ?_
  refine q_wk (ls := [some (q_O 0 o0), some (q_O 4 o1), some (q_I x2), some (q_I x3), some (q_I (a 12 o0 x5.toNatClampNeg)), some (q_I (x5 + 1))]) ⟨rfl, ⟨rfl, ⟨rfl, ⟨rfl, ⟨rfl, ⟨rfl, trivial⟩⟩⟩⟩⟩⟩ ?_
  exact hJ8 _ _ _ _ _ _ _ hi0 Wq
set_option maxHeartbeats 4000000 in
theorem el_X0_payFor_8 {g : q_G} {s : q_S} {t p : Nat} (hS : q_Sh t p s) {post : Int32 → qa → Prop} : ∀ (n : Nat) (o0 : Nat) (o1 : Nat) (x2 : Int32) (x3 : Int32) (x4 : Int32) (x5 : Int32) (a : qa), o0 < 10 → wl_X0_payFor_8 t p post n o0 o1 x2 x3 x4 x5 a → q_E g mX0_payFor (q_Rm 3 0 0) (q_kI s post) (0, 0) 8 [some (q_O 0 o0), some (q_O 4 o1), some (q_I x2), some (q_I x3), some (q_I x4), some (q_I x5)] [] (a, s) := by
  intro n
  induction n with
  | zero =>
    intro o0 o1 x2 x3 x4 x5 a hi0 Wq
    exact absurd Wq id
  | succ n ih =>
    intro o0 o1 x2 x3 x4 x5 a hi0 Wq
    unfold wl_X0_payFor_8 at Wq
    refine xe_iload dX0_payFor_8 rfl ?_
    refine xe_aload_n dX0_payFor_10 rfl q_rvO ?_
    refine xe_geti dX0_payFor_11 fX0_27 (fun _ _ => rfl) ?_
    refine xe_ic_ge 67 dX0_payFor_14 (by decide) (fun c_14 => ?_) (fun c_14 => ?_)
    · replace Wq := Wq.1 c_14
      refine xe_iload_n dX0_payFor_67 rfl ?_
      exact xe_iret .int dX0_payFor_68 rfl rfl ⟨_, _, rfl, rfl, Wq⟩
    · replace Wq := Wq.2 c_14
      refine xe_iload dX0_payFor_17 rfl ?_
      refine xe_bipush 20 dX0_payFor_19 (by decide) ?_
      refine xe_ic_ge 67 dX0_payFor_21 (by decide) (fun c_21 => ?_) (fun c_21 => ?_)
      · replace Wq := Wq.1 c_21
        refine xe_iload_n dX0_payFor_67 rfl ?_
        exact xe_iret .int dX0_payFor_68 rfl rfl ⟨_, _, rfl, rfl, Wq⟩
      · replace Wq := Wq.2 c_21
        refine xe_aload_n dX0_payFor_24 rfl q_rvO ?_
        refine xe_iload dX0_payFor_25 rfl ?_
        refine xe_aload_n dX0_payFor_27 rfl q_rvO ?_
        refine xe_getr dX0_payFor_28 fX0_9 (fun _ _ => rfl) (q_sB hS hi0 (by decide)) ?_
        refine xe_iload dX0_payFor_31 rfl ?_
        obtain ⟨hj_33, Wq⟩ := Wq
        refine xe_iald dX0_payFor_33 rfl hj_33 ?_
        refine xe_aload_n dX0_payFor_34 rfl q_rvO ?_
        refine xe_iload_n dX0_payFor_35 rfl ?_
        refine xe_cv (y' := mX0_holdAll) dX0_payFor_36 (Or.inl lX0_37) tX0_holdAll rfl rfl (ct_X0_holdAll hS Wq) rfl rfl (Nat.le_of_ble_eq_true rfl) ⟨Nat.le_of_ble_eq_true rfl, Nat.le_of_ble_eq_true rfl⟩ ⟨Nat.le_of_ble_eq_true rfl, Nat.le_of_ble_eq_true rfl⟩ (fun v1 h1 hl1 hk1 hm1 => ?_)
        obtain ⟨r36, a36, rfl, rfl, Wq⟩ := hk1
        refine xe_if_eq 52 dX0_payFor_39 (by decide) (fun c_39 => ?_) (fun c_39 => ?_)
        · replace Wq := Wq.1 c_39
          refine q_wk (ls := [some (q_O 0 o0), some (q_O 4 o1), some (q_I x2), some (q_I x3), none, some (q_I x5)]) ⟨rfl, ⟨rfl, ⟨rfl, ⟨rfl, ⟨rfl, trivial⟩⟩⟩⟩⟩ ?_
          exact el_X0_payFor_52 hS ih _ _ _ _ _ _ hi0 Wq
        · replace Wq := Wq.2 c_39
          refine xe_iload_n dX0_payFor_42 rfl ?_
          refine xe_aload_n dX0_payFor_43 rfl q_rvO ?_
          refine xe_getr dX0_payFor_44 fX0_15 (fun _ _ => rfl) (q_sB hS hi0 (by decide)) ?_
          refine xe_iload dX0_payFor_47 rfl ?_
          obtain ⟨hj_49, Wq⟩ := Wq
          refine xe_iald dX0_payFor_49 rfl hj_49 ?_
          refine xe_iadd dX0_payFor_50 ?_
          refine xe_istore_n dX0_payFor_51 (by decide) ?_
          refine q_wk (ls := [some (q_O 0 o0), some (q_O 4 o1), some (q_I x2), some (q_I (x3 + (a36 13 o0 x5.toNatClampNeg))), none, some (q_I x5)]) ⟨rfl, ⟨rfl, ⟨rfl, ⟨rfl, ⟨rfl, trivial⟩⟩⟩⟩⟩ ?_
          exact el_X0_payFor_52 hS ih _ _ _ _ _ _ hi0 Wq
set_option maxHeartbeats 4000000 in
theorem ct_X0_payFor {g : q_G} {s : q_S} {t p : Nat} (hS : q_Sh t p s) {i0 : Nat} {o1 : Nat} {x2 : Int32} {a : qa} {post : Int32 → qa → Prop} (Wq : wp_X0_payFor t p i0 o1 x2 a post) : q_Ct g mX0_payFor (q_Rm 3 0 0) [q_O 0 i0, q_O 4 o1, q_I x2] (a, s) (q_kI s post) := by
  refine q_mk rfl rfl (Nat.le_of_ble_eq_true rfl) (q_cs rfl (q_cs rfl (q_cs rfl q_nil))) (fun hv => ?_)
  have hi0 : i0 < 10 := q_lt0 hS (q_hd hv)
  unfold wp_X0_payFor at Wq
  refine xe_iconst 0 dX0_payFor_0 (by decide) ?_
  refine xe_istore_n dX0_payFor_1 (by decide) ?_
  refine xe_iconst 0 dX0_payFor_2 (by decide) ?_
  refine xe_istore dX0_payFor_3 (by decide) ?_
  refine xe_iconst 0 dX0_payFor_5 (by decide) ?_
  refine xe_istore dX0_payFor_6 (by decide) ?_
  obtain ⟨n_8, Wq⟩ := Wq
  refine q_wk (ls := [some (q_O 0 i0), some (q_O 4 o1), some (q_I x2), some (q_I 0), some (q_I 0), some (q_I 0)]) ⟨rfl, ⟨rfl, ⟨rfl, ⟨rfl, ⟨rfl, ⟨rfl, trivial⟩⟩⟩⟩⟩⟩ ?_
  exact el_X0_payFor_8 hS n_8 _ _ _ _ _ _ _ hi0 Wq
def wp_X1_look (t p : Nat) : Nat → Int32 → Int32 → Int32 → Int32 → qa → (qa → Prop) → Prop
  | 0 => fun _ _ _ _ _ _ => False
  | n + 1 => fun x1 x2 x3 x4 a post => wp_X1_isHopeless t p x1 x2 x3 x4 a (fun r6 a6 => ((r6 = 0 → ((x1 < (a6 1 0 5) → vp_in x1 10 ∧ vp_in x1 10 ∧ wp_X1_look t p n (x1 + 1) (x2 + (a6 18 0 x1.toNatClampNeg)) x3 (x4 + 1) (qs a6 20 0 x1.toNatClampNeg 0) (fun a55 => ((x2 = x3 → vp_in x1 10 ∧ wp_X1_look t p n (x1 + 1) x2 x3 x4 (qs a55 20 0 x1.toNatClampNeg 2) (fun a105 => post a105)) ∧ (¬ x2 = x3 → vp_in x1 10 ∧ vp_in x1 10 ∧ wp_X1_look t p n (x1 + 1) x2 (x3 + (a55 18 0 x1.toNatClampNeg)) (x4 + 1) (qs a55 20 0 x1.toNatClampNeg 1) (fun a87 => vp_in x1 10 ∧ wp_X1_look t p n (x1 + 1) x2 x3 x4 (qs a87 20 0 x1.toNatClampNeg 2) (fun a105 => post a105)))))) ∧ (¬ x1 < (a6 1 0 5) → wp_X1_keep t p (x2 + x3) x4 a6 (fun a27 => post a27)))) ∧ (¬ r6 = 0 → post a6)))
set_option maxHeartbeats 4000000 in
theorem ct_X1_look {g : q_G} {s : q_S} {t p : Nat} (hS : q_Sh t p s) : ∀ (n : Nat) (x1 : Int32) (x2 : Int32) (x3 : Int32) (x4 : Int32) (a : qa) (post : qa → Prop), wp_X1_look t p n x1 x2 x3 x4 a post → q_Ct g mX1_look (q_Rm (n + 2) 0 0) [q_O 1 0, q_I x1, q_I x2, q_I x3, q_I x4] (a, s) (q_kV s post) := by
  intro n
  induction n with
  | zero =>
    intro x1 x2 x3 x4 a post Wq
    exact absurd Wq id
  | succ n ih =>
    intro x1 x2 x3 x4 a post Wq
    refine q_mk rfl rfl (Nat.le_of_ble_eq_true rfl) (q_cs rfl (q_cs rfl (q_cs rfl (q_cs rfl (q_cs rfl q_nil))))) (fun hv => ?_)
    unfold wp_X1_look at Wq
    refine xe_aload_n dX1_look_0 rfl q_rvO ?_
    refine xe_iload_n dX1_look_1 rfl ?_
    refine xe_iload_n dX1_look_2 rfl ?_
    refine xe_iload_n dX1_look_3 rfl ?_
    refine xe_iload dX1_look_4 rfl ?_
    refine xe_cv (y' := mX1_isHopeless) dX1_look_6 (Or.inl lX1_44) tX1_isHopeless rfl rfl (ct_X1_isHopeless hS Wq) rfl rfl (Nat.le_of_ble_eq_true rfl) (q_rm2 (D := 2) 7 (Nat.le_of_ble_eq_true rfl) (Nat.le_of_ble_eq_true rfl)) ⟨Nat.le_of_ble_eq_true rfl, Nat.le_of_ble_eq_true rfl⟩ (fun v1 h1 hl1 hk1 hm1 => ?_)
    obtain ⟨r6, a6, rfl, rfl, Wq⟩ := hk1
    refine xe_if_eq 13 dX1_look_9 (by decide) (fun c_9 => ?_) (fun c_9 => ?_)
    · replace Wq := Wq.1 c_9
      refine xe_iload_n dX1_look_13 rfl ?_
      refine xe_aload_n dX1_look_14 rfl q_rvO ?_
      refine xe_geti dX1_look_15 fX1_27 (fun _ _ => rfl) ?_
      refine xe_ic_lt 31 dX1_look_18 (by decide) (fun c_18 => ?_) (fun c_18 => ?_)
      · replace Wq := Wq.1 c_18
        refine xe_aload_n dX1_look_31 rfl q_rvO ?_
        refine xe_getr dX1_look_32 fX1_21 (fun _ _ => rfl) (q_sg hS rfl) ?_
        refine xe_iload_n dX1_look_35 rfl ?_
        refine xe_iconst 0 dX1_look_36 (by decide) ?_
        obtain ⟨hj_37, Wq⟩ := Wq
        refine xf_iast dX1_look_37 rfl hj_37 ?_
        refine xe_aload_n dX1_look_38 rfl q_rvO ?_
        refine xe_iload_n dX1_look_39 rfl ?_
        refine xe_iconst 1 dX1_look_40 (by decide) ?_
        refine xe_iadd dX1_look_41 ?_
        refine xe_iload_n dX1_look_42 rfl ?_
        refine xe_aload_n dX1_look_43 rfl q_rvO ?_
        refine xe_getr dX1_look_44 fX1_15 (fun _ _ => rfl) (q_sg hS rfl) ?_
        refine xe_iload_n dX1_look_47 rfl ?_
        obtain ⟨hj_48, Wq⟩ := Wq
        refine xe_iald dX1_look_48 rfl hj_48 ?_
        refine xe_iadd dX1_look_49 ?_
        refine xe_iload_n dX1_look_50 rfl ?_
        refine xe_iload dX1_look_51 rfl ?_
        refine xe_iconst 1 dX1_look_53 (by decide) ?_
        refine xe_iadd dX1_look_54 ?_
        refine xe_cs (y' := mX1_look) dX1_look_55 (Or.inl lX1_40) tX1_look (ih _ _ _ _ _ _ Wq) rfl rfl (Nat.le_of_ble_eq_true rfl) (q_rm1 5 (Nat.le_of_ble_eq_true rfl)) ⟨Nat.le_of_ble_eq_true rfl, Nat.le_of_ble_eq_true rfl⟩ (fun v1 h1 hl1 hk1 hm1 => ?_)
        obtain ⟨a55, rfl, rfl, Wq⟩ := hk1
        refine xe_iload_n dX1_look_58 rfl ?_
        refine xe_iload_n dX1_look_59 rfl ?_
        refine xe_ic_eq 90 dX1_look_60 (by decide) (fun c_60 => ?_) (fun c_60 => ?_)
        · replace Wq := Wq.1 c_60
          refine xe_aload_n dX1_look_90 rfl q_rvO ?_
          refine xe_getr dX1_look_91 fX1_21 (fun _ _ => rfl) (q_sg hS rfl) ?_
          refine xe_iload_n dX1_look_94 rfl ?_
          refine xe_iconst 2 dX1_look_95 (by decide) ?_
          obtain ⟨hj_96, Wq⟩ := Wq
          refine xf_iast dX1_look_96 rfl hj_96 ?_
          refine xe_aload_n dX1_look_97 rfl q_rvO ?_
          refine xe_iload_n dX1_look_98 rfl ?_
          refine xe_iconst 1 dX1_look_99 (by decide) ?_
          refine xe_iadd dX1_look_100 ?_
          refine xe_iload_n dX1_look_101 rfl ?_
          refine xe_iload_n dX1_look_102 rfl ?_
          refine xe_iload dX1_look_103 rfl ?_
          refine xe_cs (y' := mX1_look) dX1_look_105 (Or.inl lX1_40) tX1_look (ih _ _ _ _ _ _ Wq) rfl rfl (Nat.le_of_ble_eq_true rfl) (q_rm1 5 (Nat.le_of_ble_eq_true rfl)) ⟨Nat.le_of_ble_eq_true rfl, Nat.le_of_ble_eq_true rfl⟩ (fun v1 h1 hl1 hk1 hm1 => ?_)
          obtain ⟨a105, rfl, rfl, Wq⟩ := hk1
          exact xe_vret dX1_look_108 rfl ⟨_, rfl, rfl, Wq⟩
        · replace Wq := Wq.2 c_60
          refine xe_aload_n dX1_look_63 rfl q_rvO ?_
          refine xe_getr dX1_look_64 fX1_21 (fun _ _ => rfl) (q_sg hS rfl) ?_
          refine xe_iload_n dX1_look_67 rfl ?_
          refine xe_iconst 1 dX1_look_68 (by decide) ?_
          obtain ⟨hj_69, Wq⟩ := Wq
          refine xf_iast dX1_look_69 rfl hj_69 ?_
          refine xe_aload_n dX1_look_70 rfl q_rvO ?_
          refine xe_iload_n dX1_look_71 rfl ?_
          refine xe_iconst 1 dX1_look_72 (by decide) ?_
          refine xe_iadd dX1_look_73 ?_
          refine xe_iload_n dX1_look_74 rfl ?_
          refine xe_iload_n dX1_look_75 rfl ?_
          refine xe_aload_n dX1_look_76 rfl q_rvO ?_
          refine xe_getr dX1_look_77 fX1_15 (fun _ _ => rfl) (q_sg hS rfl) ?_
          refine xe_iload_n dX1_look_80 rfl ?_
          obtain ⟨hj_81, Wq⟩ := Wq
          refine xe_iald dX1_look_81 rfl hj_81 ?_
          refine xe_iadd dX1_look_82 ?_
          refine xe_iload dX1_look_83 rfl ?_
          refine xe_iconst 1 dX1_look_85 (by decide) ?_
          refine xe_iadd dX1_look_86 ?_
          refine xe_cs (y' := mX1_look) dX1_look_87 (Or.inl lX1_40) tX1_look (ih _ _ _ _ _ _ Wq) rfl rfl (Nat.le_of_ble_eq_true rfl) (q_rm1 5 (Nat.le_of_ble_eq_true rfl)) ⟨Nat.le_of_ble_eq_true rfl, Nat.le_of_ble_eq_true rfl⟩ (fun v1 h1 hl1 hk1 hm1 => ?_)
          obtain ⟨a87, rfl, rfl, Wq⟩ := hk1
          refine xe_aload_n dX1_look_90 rfl q_rvO ?_
          refine xe_getr dX1_look_91 fX1_21 (fun _ _ => rfl) (q_sg hS rfl) ?_
          refine xe_iload_n dX1_look_94 rfl ?_
          refine xe_iconst 2 dX1_look_95 (by decide) ?_
          obtain ⟨hj_96, Wq⟩ := Wq
          refine xf_iast dX1_look_96 rfl hj_96 ?_
          refine xe_aload_n dX1_look_97 rfl q_rvO ?_
          refine xe_iload_n dX1_look_98 rfl ?_
          refine xe_iconst 1 dX1_look_99 (by decide) ?_
          refine xe_iadd dX1_look_100 ?_
          refine xe_iload_n dX1_look_101 rfl ?_
          refine xe_iload_n dX1_look_102 rfl ?_
          refine xe_iload dX1_look_103 rfl ?_
          refine xe_cs (y' := mX1_look) dX1_look_105 (Or.inl lX1_40) tX1_look (ih _ _ _ _ _ _ Wq) rfl rfl (Nat.le_of_ble_eq_true rfl) (q_rm1 5 (Nat.le_of_ble_eq_true rfl)) ⟨Nat.le_of_ble_eq_true rfl, Nat.le_of_ble_eq_true rfl⟩ (fun v1 h1 hl1 hk1 hm1 => ?_)
          obtain ⟨a105, rfl, rfl, Wq⟩ := hk1
          exact xe_vret dX1_look_108 rfl ⟨_, rfl, rfl, Wq⟩
      · replace Wq := Wq.2 c_18
        refine xe_aload_n dX1_look_21 rfl q_rvO ?_
        refine xe_iload_n dX1_look_22 rfl ?_
        refine xe_iload_n dX1_look_23 rfl ?_
        refine xe_iadd dX1_look_24 ?_
        refine xe_iload dX1_look_25 rfl ?_
        refine xe_cv (y' := mX1_keep) dX1_look_27 (Or.inl lX1_48) tX1_keep rfl rfl (ct_X1_keep hS Wq) rfl rfl (Nat.le_of_ble_eq_true rfl) (q_rm2 (D := 2) 4 (Nat.le_of_ble_eq_true rfl) (Nat.le_of_ble_eq_true rfl)) ⟨Nat.le_of_ble_eq_true rfl, Nat.le_of_ble_eq_true rfl⟩ (fun v1 h1 hl1 hk1 hm1 => ?_)
        obtain ⟨a27, rfl, rfl, Wq⟩ := hk1
        exact xe_vret dX1_look_30 rfl ⟨_, rfl, rfl, Wq⟩
    · replace Wq := Wq.2 c_9
      exact xe_vret dX1_look_12 rfl ⟨_, rfl, rfl, Wq⟩
def wl_X1_findFor_32 (t p : Nat) (post : qa → Prop) : Nat → Int32 → qa → Prop
  | 0 => fun _ _ => False
  | n + 1 => fun x2 a => ((x2 < 0 → ∃ n_75, n_75 ≤ 14 ∧ wp_X1_look t p n_75 0 0 0 0 a (fun a75 => post a75)) ∧ (¬ x2 < 0 → vp_in (x2 + 1) 11 ∧ vp_in x2 10 ∧ vp_in x2 11 ∧ vp_in x2 10 ∧ ((wl_X1_findFor_32 t p post n) (x2 + (-1)) (qs (qs a 19 0 x2.toNatClampNeg ((a 19 0 ((x2 + 1).toNatClampNeg)) + (a 18 0 x2.toNatClampNeg))) 21 0 x2.toNatClampNeg 2))))
def wp_X1_findFor (t p : Nat) (x1 : Int32) (a : qa) (post : qa → Prop) : Prop := vp_in (a 1 0 5) 11 ∧ (∃ n_32, wl_X1_findFor_32 t p post n_32 ((a 1 0 5) - 1) (qs (qs (qs (qs a 1 0 6 x1) 1 0 7 0) 1 0 8 0) 19 0 ((a 1 0 5).toNatClampNeg) 0))
set_option maxHeartbeats 4000000 in
theorem el_X1_findFor_32 {g : q_G} {s : q_S} {t p : Nat} (hS : q_Sh t p s) {post : qa → Prop} : ∀ (n : Nat) (x2 : Int32) (a : qa), wl_X1_findFor_32 t p post n x2 a → q_E g mX1_findFor (q_Rm 20 0 0) (q_kV s post) (0, 0) 32 [some (q_O 1 0), none, some (q_I x2)] [] (a, s) := by
  intro n
  induction n with
  | zero =>
    intro x2 a Wq
    exact absurd Wq id
  | succ n ih =>
    intro x2 a Wq
    unfold wl_X1_findFor_32 at Wq
    refine xe_iload_n dX1_findFor_32 rfl ?_
    refine xe_if_lt 70 dX1_findFor_33 (by decide) (fun c_33 => ?_) (fun c_33 => ?_)
    · replace Wq := Wq.1 c_33
      refine xe_aload_n dX1_findFor_70 rfl q_rvO ?_
      refine xe_iconst 0 dX1_findFor_71 (by decide) ?_
      refine xe_iconst 0 dX1_findFor_72 (by decide) ?_
      refine xe_iconst 0 dX1_findFor_73 (by decide) ?_
      refine xe_iconst 0 dX1_findFor_74 (by decide) ?_
      obtain ⟨n_75, hn_75, Wq⟩ := Wq
      refine xe_cs (y' := mX1_look) dX1_findFor_75 (Or.inl lX1_40) tX1_look (ct_X1_look hS n_75 _ _ _ _ _ _ Wq) rfl rfl (Nat.le_of_ble_eq_true rfl) (q_rm3 5 ⟨Nat.le_of_ble_eq_true rfl, Nat.le_of_ble_eq_true rfl⟩ hn_75) ⟨Nat.le_of_ble_eq_true rfl, Nat.le_of_ble_eq_true rfl⟩ (fun v1 h1 hl1 hk1 hm1 => ?_)
      obtain ⟨a75, rfl, rfl, Wq⟩ := hk1
      exact xe_vret dX1_findFor_78 rfl ⟨_, rfl, rfl, Wq⟩
    · replace Wq := Wq.2 c_33
      refine xe_aload_n dX1_findFor_36 rfl q_rvO ?_
      refine xe_getr dX1_findFor_37 fX1_18 (fun _ _ => rfl) (q_sg hS rfl) ?_
      refine xe_iload_n dX1_findFor_40 rfl ?_
      refine xe_aload_n dX1_findFor_41 rfl q_rvO ?_
      refine xe_getr dX1_findFor_42 fX1_18 (fun _ _ => rfl) (q_sg hS rfl) ?_
      refine xe_iload_n dX1_findFor_45 rfl ?_
      refine xe_iconst 1 dX1_findFor_46 (by decide) ?_
      refine xe_iadd dX1_findFor_47 ?_
      obtain ⟨hj_48, Wq⟩ := Wq
      refine xe_iald dX1_findFor_48 rfl hj_48 ?_
      refine xe_aload_n dX1_findFor_49 rfl q_rvO ?_
      refine xe_getr dX1_findFor_50 fX1_15 (fun _ _ => rfl) (q_sg hS rfl) ?_
      refine xe_iload_n dX1_findFor_53 rfl ?_
      obtain ⟨hj_54, Wq⟩ := Wq
      refine xe_iald dX1_findFor_54 rfl hj_54 ?_
      refine xe_iadd dX1_findFor_55 ?_
      obtain ⟨hj_56, Wq⟩ := Wq
      refine xf_iast dX1_findFor_56 rfl hj_56 ?_
      refine xe_aload_n dX1_findFor_57 rfl q_rvO ?_
      refine xe_getr dX1_findFor_58 fX1_24 (fun _ _ => rfl) (q_sg hS rfl) ?_
      refine xe_iload_n dX1_findFor_61 rfl ?_
      refine xe_iconst 2 dX1_findFor_62 (by decide) ?_
      obtain ⟨hj_63, Wq⟩ := Wq
      refine xf_iast dX1_findFor_63 rfl hj_63 ?_
      refine xe_iinc (_ + (-1)) dX1_findFor_64 (by decide) rfl rfl ?_
      refine xe_goto 32 dX1_findFor_67 (by decide) ?_
      refine q_wk (ls := [some (q_O 1 0), none, some (q_I (x2 + (-1)))]) ⟨rfl, ⟨rfl, trivial⟩⟩ ?_
      exact ih _ _ Wq
set_option maxHeartbeats 4000000 in
theorem ct_X1_findFor {g : q_G} {s : q_S} {t p : Nat} (hS : q_Sh t p s) {x1 : Int32} {a : qa} {post : qa → Prop} (Wq : wp_X1_findFor t p x1 a post) : q_Ct g mX1_findFor (q_Rm 20 0 0) [q_O 1 0, q_I x1] (a, s) (q_kV s post) := by
  refine q_mk rfl rfl (Nat.le_of_ble_eq_true rfl) (q_cs rfl (q_cs rfl q_nil)) (fun hv => ?_)
  unfold wp_X1_findFor at Wq
  refine xe_aload_n dX1_findFor_0 rfl q_rvO ?_
  refine xe_iload_n dX1_findFor_1 rfl ?_
  refine xf_puti dX1_findFor_2 fX1_31 (fun q hq => Or.inl (by cases hq; rfl)) ⟨rfl, rfl⟩ (fun _ _ => rfl) ?_
  refine xe_aload_n dX1_findFor_5 rfl q_rvO ?_
  refine xe_iconst 0 dX1_findFor_6 (by decide) ?_
  refine xf_puti dX1_findFor_7 fX1_34 (fun q hq => Or.inl (by cases hq; rfl)) ⟨rfl, rfl⟩ (fun _ _ => rfl) ?_
  refine xe_aload_n dX1_findFor_10 rfl q_rvO ?_
  refine xe_iconst 0 dX1_findFor_11 (by decide) ?_
  refine xf_puti dX1_findFor_12 fX1_37 (fun q hq => Or.inl (by cases hq; rfl)) ⟨rfl, rfl⟩ (fun _ _ => rfl) ?_
  refine xe_aload_n dX1_findFor_15 rfl q_rvO ?_
  refine xe_getr dX1_findFor_16 fX1_18 (fun _ _ => rfl) (q_sg hS rfl) ?_
  refine xe_aload_n dX1_findFor_19 rfl q_rvO ?_
  refine xe_geti dX1_findFor_20 fX1_27 (fun _ _ => rfl) ?_
  refine xe_iconst 0 dX1_findFor_23 (by decide) ?_
  obtain ⟨hj_24, Wq⟩ := Wq
  refine xf_iast dX1_findFor_24 rfl hj_24 ?_
  refine xe_aload_n dX1_findFor_25 rfl q_rvO ?_
  refine xe_geti dX1_findFor_26 fX1_27 (fun _ _ => rfl) ?_
  refine xe_iconst 1 dX1_findFor_29 (by decide) ?_
  refine xe_isub dX1_findFor_30 ?_
  refine xe_istore_n dX1_findFor_31 (by decide) ?_
  obtain ⟨n_32, Wq⟩ := Wq
  refine q_wk (ls := [some (q_O 1 0), none, some (q_I ((a 1 0 5) - 1))]) ⟨rfl, ⟨rfl, trivial⟩⟩ ?_
  exact el_X1_findFor_32 hS n_32 _ _ Wq
