def wl_X11_down_87 (t p : Nat) (post : Int32 → qa → Prop) : Int32 → Int32 → Int32 → qa → Prop := fun x1 y1 y2 a => vp_in y1 100 ∧ vp_in x1 100 ∧ vp_in x1 100 ∧ wp_X11_change t p x1 (a 59 0 x1.toNatClampNeg) (qs (qs a 58 0 y1.toNatClampNeg y2) 63 0 x1.toNatClampNeg (a 11 0 1)) (fun a106 => vp_in x1 100 ∧ ((¬ (a106 58 0 x1.toNatClampNeg) = 2 → post 0 a106) ∧ ((a106 58 0 x1.toNatClampNeg) = 2 → post 1 a106)))
def wp_X11_down (t p : Nat) (x1 : Int32) (a : qa) (post : Int32 → qa → Prop) : Prop := wp_X11_isPack t p x1 (qs a 11 0 0 0) (fun r7 a7 => ((¬ r7 = 0 → vp_in x1 100 ∧ (((a7 58 0 x1.toNatClampNeg) = 1 → vp_in x1 100 ∧ vp_in ((a7 60 0 x1.toNatClampNeg) / 3) 4 ∧ ((¬ (a7 47 0 (((a7 60 0 x1.toNatClampNeg) / 3).toNatClampNeg)) = (-1) → vp_in ((a7 60 0 x1.toNatClampNeg) / 3) 4 ∧ vp_in x1 100 ∧ vp_in x1 100 ∧ vp_in x1 100 ∧ ((¬ ((qs a7 59 0 x1.toNatClampNeg (a7 47 0 (((a7 60 0 x1.toNatClampNeg) / 3).toNatClampNeg))) 59 0 x1.toNatClampNeg) = (a7 57 0 x1.toNatClampNeg) → wl_X11_down_87 t p post x1 x1 0 (qs a7 59 0 x1.toNatClampNeg (a7 47 0 (((a7 60 0 x1.toNatClampNeg) / 3).toNatClampNeg)))) ∧ (((qs a7 59 0 x1.toNatClampNeg (a7 47 0 (((a7 60 0 x1.toNatClampNeg) / 3).toNatClampNeg))) 59 0 x1.toNatClampNeg) = (a7 57 0 x1.toNatClampNeg) → wl_X11_down_87 t p post x1 x1 2 (qs a7 59 0 x1.toNatClampNeg (a7 47 0 (((a7 60 0 x1.toNatClampNeg) / 3).toNatClampNeg)))))) ∧ ((a7 47 0 (((a7 60 0 x1.toNatClampNeg) / 3).toNatClampNeg)) = (-1) → post (-3) a7))) ∧ (¬ (a7 58 0 x1.toNatClampNeg) = 1 → post (-2) a7))) ∧ (r7 = 0 → post (-1) a7)))
set_option maxHeartbeats 4000000 in
theorem el_X11_down_87 {g : q_G} {s : q_S} {t p : Nat} (hS : q_Sh t p s) {post : Int32 → qa → Prop} : ∀ (x1 : Int32) (y1 : Int32) (y2 : Int32) (a : qa), wl_X11_down_87 t p post x1 y1 y2 a → q_E g mX11_down (q_Rm 2 0 0) (q_kI s post) (0, 0) 87 [some (q_O 11 0), some (q_I x1), none] [(q_I y2), (q_I y1), (q_O 58 0)] (a, s) := by
  intro x1 y1 y2 a Wq
  unfold wl_X11_down_87 at Wq
  obtain ⟨hj_87, Wq⟩ := Wq
  refine xf_iast dX11_down_87 rfl hj_87 ?_
  refine xe_aload_n dX11_down_88 rfl q_rvO ?_
  refine xe_getr dX11_down_89 fX11_84 (fun _ _ => rfl) (q_sg hS rfl) ?_
  refine xe_iload_n dX11_down_92 rfl ?_
  refine xe_aload_n dX11_down_93 rfl q_rvO ?_
  refine xe_geti dX11_down_94 fX11_150 (fun _ _ => rfl) ?_
  obtain ⟨hj_97, Wq⟩ := Wq
  refine xf_iast dX11_down_97 rfl hj_97 ?_
  refine xe_aload_n dX11_down_98 rfl q_rvO ?_
  refine xe_iload_n dX11_down_99 rfl ?_
  refine xe_aload_n dX11_down_100 rfl q_rvO ?_
  refine xe_getr dX11_down_101 fX11_72 (fun _ _ => rfl) (q_sg hS rfl) ?_
  refine xe_iload_n dX11_down_104 rfl ?_
  obtain ⟨hj_105, Wq⟩ := Wq
  refine xe_iald dX11_down_105 rfl hj_105 ?_
  refine xe_cv (y' := mX11_change) dX11_down_106 (Or.inl lX11_168) tX11_change rfl rfl (ct_X11_change hS Wq) rfl rfl (Nat.le_of_ble_eq_true rfl) ⟨Nat.le_of_ble_eq_true rfl, Nat.le_of_ble_eq_true rfl⟩ ⟨Nat.le_of_ble_eq_true rfl, Nat.le_of_ble_eq_true rfl⟩ (fun v1 h1 hl1 hk1 hm1 => ?_)
  obtain ⟨a106, rfl, rfl, Wq⟩ := hk1
  refine xe_aload_n dX11_down_109 rfl q_rvO ?_
  refine xe_getr dX11_down_110 fX11_69 (fun _ _ => rfl) (q_sg hS rfl) ?_
  refine xe_iload_n dX11_down_113 rfl ?_
  obtain ⟨hj_114, Wq⟩ := Wq
  refine xe_iald dX11_down_114 rfl hj_114 ?_
  refine xe_iconst 2 dX11_down_115 (by decide) ?_
  refine xe_ic_ne 123 dX11_down_116 (by decide) (fun c_116 => ?_) (fun c_116 => ?_)
  · replace Wq := Wq.1 c_116
    refine xe_iconst 0 dX11_down_123 (by decide) ?_
    exact xe_iret .int dX11_down_124 rfl rfl ⟨_, _, rfl, rfl, Wq⟩
  · replace Wq := Wq.2 c_116
    refine xe_iconst 1 dX11_down_119 (by decide) ?_
    refine xe_goto 124 dX11_down_120 (by decide) ?_
    exact xe_iret .int dX11_down_124 rfl rfl ⟨_, _, rfl, rfl, Wq⟩
set_option maxHeartbeats 4000000 in
theorem ct_X11_down {g : q_G} {s : q_S} {t p : Nat} (hS : q_Sh t p s) {x1 : Int32} {a : qa} {post : Int32 → qa → Prop} (Wq : wp_X11_down t p x1 a post) : q_Ct g mX11_down (q_Rm 2 0 0) [q_O 11 0, q_I x1] (a, s) (q_kI s post) := by
  refine q_mk rfl rfl (Nat.le_of_ble_eq_true rfl) (q_cs rfl (q_cs rfl q_nil)) (fun hv => ?_)
  unfold wp_X11_down at Wq
  refine xe_aload_n dX11_down_0 rfl q_rvO ?_
  refine xe_iconst 0 dX11_down_1 (by decide) ?_
  refine xf_puti dX11_down_2 fX11_1 (fun q hq => Or.inl (by cases hq; rfl)) ⟨rfl, rfl⟩ (fun _ _ => rfl) ?_
  refine xe_aload_n dX11_down_5 rfl q_rvO ?_
  refine xe_iload_n dX11_down_6 rfl ?_
  refine xe_cv (y' := mX11_isPack) dX11_down_7 (Or.inl lX11_175) tX11_isPack rfl rfl (ct_X11_isPack hS Wq) rfl rfl (Nat.le_of_ble_eq_true rfl) ⟨Nat.le_of_ble_eq_true rfl, Nat.le_of_ble_eq_true rfl⟩ ⟨Nat.le_of_ble_eq_true rfl, Nat.le_of_ble_eq_true rfl⟩ (fun v1 h1 hl1 hk1 hm1 => ?_)
  obtain ⟨r7, a7, rfl, rfl, Wq⟩ := hk1
  refine xe_if_ne 15 dX11_down_10 (by decide) (fun c_10 => ?_) (fun c_10 => ?_)
  · replace Wq := Wq.1 c_10
    refine xe_aload_n dX11_down_15 rfl q_rvO ?_
    refine xe_getr dX11_down_16 fX11_69 (fun _ _ => rfl) (q_sg hS rfl) ?_
    refine xe_iload_n dX11_down_19 rfl ?_
    obtain ⟨hj_20, Wq⟩ := Wq
    refine xe_iald dX11_down_20 rfl hj_20 ?_
    refine xe_iconst 1 dX11_down_21 (by decide) ?_
    refine xe_ic_eq 28 dX11_down_22 (by decide) (fun c_22 => ?_) (fun c_22 => ?_)
    · replace Wq := Wq.1 c_22
      refine xe_aload_n dX11_down_28 rfl q_rvO ?_
      refine xe_getr dX11_down_29 fX11_75 (fun _ _ => rfl) (q_sg hS rfl) ?_
      refine xe_iload_n dX11_down_32 rfl ?_
      obtain ⟨hj_33, Wq⟩ := Wq
      refine xe_iald dX11_down_33 rfl hj_33 ?_
      refine xe_iconst 3 dX11_down_34 (by decide) ?_
      refine xe_idiv dX11_down_35 (by decide) ?_
      refine xe_istore_n dX11_down_36 (by decide) ?_
      refine xe_aload_n dX11_down_37 rfl q_rvO ?_
      refine xe_getr dX11_down_38 fX11_36 (fun _ _ => rfl) (q_sg hS rfl) ?_
      refine xe_iload_n dX11_down_41 rfl ?_
      obtain ⟨hj_42, Wq⟩ := Wq
      refine xe_iald dX11_down_42 rfl hj_42 ?_
      refine xe_iconst (-1) dX11_down_43 (by decide) ?_
      refine xe_ic_ne 50 dX11_down_44 (by decide) (fun c_44 => ?_) (fun c_44 => ?_)
      · replace Wq := Wq.1 c_44
        refine xe_aload_n dX11_down_50 rfl q_rvO ?_
        refine xe_getr dX11_down_51 fX11_72 (fun _ _ => rfl) (q_sg hS rfl) ?_
        refine xe_iload_n dX11_down_54 rfl ?_
        refine xe_aload_n dX11_down_55 rfl q_rvO ?_
        refine xe_getr dX11_down_56 fX11_36 (fun _ _ => rfl) (q_sg hS rfl) ?_
        refine xe_iload_n dX11_down_59 rfl ?_
        obtain ⟨hj_60, Wq⟩ := Wq
        refine xe_iald dX11_down_60 rfl hj_60 ?_
        obtain ⟨hj_61, Wq⟩ := Wq
        refine xf_iast dX11_down_61 rfl hj_61 ?_
        refine xe_aload_n dX11_down_62 rfl q_rvO ?_
        refine xe_getr dX11_down_63 fX11_69 (fun _ _ => rfl) (q_sg hS rfl) ?_
        refine xe_iload_n dX11_down_66 rfl ?_
        refine xe_aload_n dX11_down_67 rfl q_rvO ?_
        refine xe_getr dX11_down_68 fX11_72 (fun _ _ => rfl) (q_sg hS rfl) ?_
        refine xe_iload_n dX11_down_71 rfl ?_
        obtain ⟨hj_72, Wq⟩ := Wq
        refine xe_iald dX11_down_72 rfl hj_72 ?_
        refine xe_aload_n dX11_down_73 rfl q_rvO ?_
        refine xe_getr dX11_down_74 fX11_66 (fun _ _ => rfl) (q_sg hS rfl) ?_
        refine xe_iload_n dX11_down_77 rfl ?_
        obtain ⟨hj_78, Wq⟩ := Wq
        refine xe_iald dX11_down_78 rfl hj_78 ?_
        refine xe_ic_ne 86 dX11_down_79 (by decide) (fun c_79 => ?_) (fun c_79 => ?_)
        · replace Wq := Wq.1 c_79
          refine xe_iconst 0 dX11_down_86 (by decide) ?_
          refine q_wk (ls := [some (q_O 11 0), some (q_I x1), none]) ⟨rfl, ⟨rfl, trivial⟩⟩ ?_
          exact el_X11_down_87 hS _ _ _ _ Wq
        · replace Wq := Wq.2 c_79
          refine xe_iconst 2 dX11_down_82 (by decide) ?_
          refine xe_goto 87 dX11_down_83 (by decide) ?_
          refine q_wk (ls := [some (q_O 11 0), some (q_I x1), none]) ⟨rfl, ⟨rfl, trivial⟩⟩ ?_
          exact el_X11_down_87 hS _ _ _ _ Wq
      · replace Wq := Wq.2 c_44
        refine xe_bipush (-3) dX11_down_47 (by decide) ?_
        exact xe_iret .int dX11_down_49 rfl rfl ⟨_, _, rfl, rfl, Wq⟩
    · replace Wq := Wq.2 c_22
      refine xe_bipush (-2) dX11_down_25 (by decide) ?_
      exact xe_iret .int dX11_down_27 rfl rfl ⟨_, _, rfl, rfl, Wq⟩
  · replace Wq := Wq.2 c_10
    refine xe_iconst (-1) dX11_down_13 (by decide) ?_
    exact xe_iret .int dX11_down_14 rfl rfl ⟨_, _, rfl, rfl, Wq⟩
def wl_X11_inn_120 (t p : Nat) (post : Int32 → qa → Prop) : qa → Prop := fun a => post (((a 11 0 2) + 1) - 1) (qs a 11 0 2 ((a 11 0 2) + 1))
def wl_X11_inn_68 (t p : Nat) (post : Int32 → qa → Prop) : Int32 → Int32 → Int32 → Int32 → qa → Prop := fun x1 x2 x3 y0 a => ((¬ y0 = 0 → (((a 11 0 2) ≤ 0 → wl_X11_inn_120 t p post  a) ∧ (¬ (a 11 0 2) ≤ 0 → vp_in ((a 11 0 2) - 1) 6 ∧ vp_in ((a 11 0 2) - 1) 6 ∧ vp_in ((a 11 0 2) - 1) 6 ∧ (wl_X11_inn_120 t p post  (qs (qs (qs a 40 0 (((a 11 0 2) - 1).toNatClampNeg) x1) 41 0 (((a 11 0 2) - 1).toNatClampNeg) x2) 42 0 (((a 11 0 2) - 1).toNatClampNeg) (vp_nar .boolean x3)))))) ∧ (y0 = 0 → post (-1) a))
def wl_X11_inn_67 (t p : Nat) (post : Int32 → qa → Prop) : Int32 → Int32 → Int32 → qa → Prop := fun x1 x2 x3 a => wl_X11_inn_68 t p post x1 x2 x3 0 a
def wl_X11_inn_39 (t p : Nat) (post : Int32 → qa → Prop) : Int32 → Int32 → Int32 → qa → Prop := fun x1 x2 x3 a => wl_X11_inn_68 t p post x1 x2 x3 0 a
def wp_X11_inn (t p : Nat) (x1 : Int32) (x2 : Int32) (x3 : Int32) (a : qa) (post : Int32 → qa → Prop) : Prop := ((¬ (a 11 0 2) = 6 → ((¬ (a 11 0 2) = 0 → wp_X11_within t p x1 1 9 (qs a 11 0 0 0) (fun r47 a47 => ((r47 = 0 → wl_X11_inn_67 t p post x1 x2 x3 a47) ∧ (¬ r47 = 0 → wp_X11_within t p x2 0 9 a47 (fun r57 a57 => ((r57 = 0 → wl_X11_inn_67 t p post x1 x2 x3 a57) ∧ (¬ r57 = 0 → wl_X11_inn_68 t p post x1 x2 x3 1 a57))))))) ∧ ((a 11 0 2) = 0 → ((¬ x1 = 0 → wl_X11_inn_39 t p post x1 x2 x3 (qs a 11 0 0 0)) ∧ (x1 = 0 → ((¬ x2 = 0 → wl_X11_inn_39 t p post x1 x2 x3 (qs a 11 0 0 0)) ∧ (x2 = 0 → ((¬ x3 = 0 → wl_X11_inn_39 t p post x1 x2 x3 (qs a 11 0 0 0)) ∧ (x3 = 0 → wl_X11_inn_68 t p post x1 x2 x3 1 (qs a 11 0 0 0)))))))))) ∧ ((a 11 0 2) = 6 → post (-1) (qs a 11 0 0 0)))
set_option maxHeartbeats 4000000 in
theorem el_X11_inn_120 {g : q_G} {s : q_S} {t p : Nat} (hS : q_Sh t p s) {post : Int32 → qa → Prop} : ∀ (a : qa), wl_X11_inn_120 t p post a → q_E g mX11_inn (q_Rm 2 0 0) (q_kI s post) (0, 0) 120 [some (q_O 11 0), none, none, none, none] [] (a, s) := by
  intro a Wq
  unfold wl_X11_inn_120 at Wq
  refine xe_aload_n dX11_inn_120 rfl q_rvO ?_
  refine xe_dup dX11_inn_121 rfl ?_
  refine xe_geti dX11_inn_122 fX11_136 (fun _ _ => rfl) ?_
  refine xe_iconst 1 dX11_inn_125 (by decide) ?_
  refine xe_iadd dX11_inn_126 ?_
  refine xf_puti dX11_inn_127 fX11_136 (fun q hq => Or.inl (by cases hq; rfl)) ⟨rfl, rfl⟩ (fun _ _ => rfl) ?_
  refine xe_aload_n dX11_inn_130 rfl q_rvO ?_
  refine xe_geti dX11_inn_131 fX11_136 (fun _ _ => rfl) ?_
  refine xe_iconst 1 dX11_inn_134 (by decide) ?_
  refine xe_isub dX11_inn_135 ?_
  exact xe_iret .int dX11_inn_136 rfl rfl ⟨_, _, rfl, rfl, Wq⟩
set_option maxHeartbeats 4000000 in
theorem el_X11_inn_68 {g : q_G} {s : q_S} {t p : Nat} (hS : q_Sh t p s) {post : Int32 → qa → Prop} : ∀ (x1 : Int32) (x2 : Int32) (x3 : Int32) (y0 : Int32) (a : qa), wl_X11_inn_68 t p post x1 x2 x3 y0 a → q_E g mX11_inn (q_Rm 2 0 0) (q_kI s post) (0, 0) 68 [some (q_O 11 0), some (q_I x1), some (q_I x2), some (q_I x3), none] [(q_I y0)] (a, s) := by
  intro x1 x2 x3 y0 a Wq
  unfold wl_X11_inn_68 at Wq
  refine xe_istore dX11_inn_68 (by decide) ?_
  refine xe_iload dX11_inn_70 rfl ?_
  refine xe_if_ne 77 dX11_inn_72 (by decide) (fun c_72 => ?_) (fun c_72 => ?_)
  · replace Wq := Wq.1 c_72
    refine xe_aload_n dX11_inn_77 rfl q_rvO ?_
    refine xe_geti dX11_inn_78 fX11_136 (fun _ _ => rfl) ?_
    refine xe_if_le 120 dX11_inn_81 (by decide) (fun c_81 => ?_) (fun c_81 => ?_)
    · replace Wq := Wq.1 c_81
      refine q_wk (ls := [some (q_O 11 0), none, none, none, none]) ⟨rfl, trivial⟩ ?_
      exact el_X11_inn_120 hS  _ Wq
    · replace Wq := Wq.2 c_81
      refine xe_aload_n dX11_inn_84 rfl q_rvO ?_
      refine xe_getr dX11_inn_85 fX11_13 (fun _ _ => rfl) (q_sg hS rfl) ?_
      refine xe_aload_n dX11_inn_88 rfl q_rvO ?_
      refine xe_geti dX11_inn_89 fX11_136 (fun _ _ => rfl) ?_
      refine xe_iconst 1 dX11_inn_92 (by decide) ?_
      refine xe_isub dX11_inn_93 ?_
      refine xe_iload_n dX11_inn_94 rfl ?_
      obtain ⟨hj_95, Wq⟩ := Wq
      refine xf_iast dX11_inn_95 rfl hj_95 ?_
      refine xe_aload_n dX11_inn_96 rfl q_rvO ?_
      refine xe_getr dX11_inn_97 fX11_17 (fun _ _ => rfl) (q_sg hS rfl) ?_
      refine xe_aload_n dX11_inn_100 rfl q_rvO ?_
      refine xe_geti dX11_inn_101 fX11_136 (fun _ _ => rfl) ?_
      refine xe_iconst 1 dX11_inn_104 (by decide) ?_
      refine xe_isub dX11_inn_105 ?_
      refine xe_iload_n dX11_inn_106 rfl ?_
      obtain ⟨hj_107, Wq⟩ := Wq
      refine xf_iast dX11_inn_107 rfl hj_107 ?_
      refine xe_aload_n dX11_inn_108 rfl q_rvO ?_
      refine xe_getr dX11_inn_109 fX11_20 (fun _ _ => rfl) (q_sg hS rfl) ?_
      refine xe_aload_n dX11_inn_112 rfl q_rvO ?_
      refine xe_geti dX11_inn_113 fX11_136 (fun _ _ => rfl) ?_
      refine xe_iconst 1 dX11_inn_116 (by decide) ?_
      refine xe_isub dX11_inn_117 ?_
      refine xe_iload_n dX11_inn_118 rfl ?_
      obtain ⟨hj_119, Wq⟩ := Wq
      refine xf_zast dX11_inn_119 rfl hj_119 ?_
      refine q_wk (ls := [some (q_O 11 0), none, none, none, none]) ⟨rfl, trivial⟩ ?_
      exact el_X11_inn_120 hS  _ Wq
  · replace Wq := Wq.2 c_72
    refine xe_iconst (-1) dX11_inn_75 (by decide) ?_
    exact xe_iret .int dX11_inn_76 rfl rfl ⟨_, _, rfl, rfl, Wq⟩
set_option maxHeartbeats 4000000 in
theorem el_X11_inn_67 {g : q_G} {s : q_S} {t p : Nat} (hS : q_Sh t p s) {post : Int32 → qa → Prop} : ∀ (x1 : Int32) (x2 : Int32) (x3 : Int32) (a : qa), wl_X11_inn_67 t p post x1 x2 x3 a → q_E g mX11_inn (q_Rm 2 0 0) (q_kI s post) (0, 0) 67 [some (q_O 11 0), some (q_I x1), some (q_I x2), some (q_I x3), none] [] (a, s) := by
  intro x1 x2 x3 a Wq
  unfold wl_X11_inn_67 at Wq
  refine xe_iconst 0 dX11_inn_67 (by decide) ?_
  refine q_wk (ls := [some (q_O 11 0), some (q_I x1), some (q_I x2), some (q_I x3), none]) ⟨rfl, ⟨rfl, ⟨rfl, ⟨rfl, trivial⟩⟩⟩⟩ ?_
  exact el_X11_inn_68 hS _ _ _ _ _ Wq
set_option maxHeartbeats 4000000 in
theorem el_X11_inn_39 {g : q_G} {s : q_S} {t p : Nat} (hS : q_Sh t p s) {post : Int32 → qa → Prop} : ∀ (x1 : Int32) (x2 : Int32) (x3 : Int32) (a : qa), wl_X11_inn_39 t p post x1 x2 x3 a → q_E g mX11_inn (q_Rm 2 0 0) (q_kI s post) (0, 0) 39 [some (q_O 11 0), some (q_I x1), some (q_I x2), some (q_I x3), none] [] (a, s) := by
  intro x1 x2 x3 a Wq
  unfold wl_X11_inn_39 at Wq
  refine xe_iconst 0 dX11_inn_39 (by decide) ?_
  refine xe_goto 68 dX11_inn_40 (by decide) ?_
  refine q_wk (ls := [some (q_O 11 0), some (q_I x1), some (q_I x2), some (q_I x3), none]) ⟨rfl, ⟨rfl, ⟨rfl, ⟨rfl, trivial⟩⟩⟩⟩ ?_
  exact el_X11_inn_68 hS _ _ _ _ _ Wq
set_option maxHeartbeats 4000000 in
theorem ct_X11_inn {g : q_G} {s : q_S} {t p : Nat} (hS : q_Sh t p s) {x1 : Int32} {x2 : Int32} {x3 : Int32} {a : qa} {post : Int32 → qa → Prop} (Wq : wp_X11_inn t p x1 x2 x3 a post) : q_Ct g mX11_inn (q_Rm 2 0 0) [q_O 11 0, q_I x1, q_I x2, q_I x3] (a, s) (q_kI s post) := by
  refine q_mk rfl rfl (Nat.le_of_ble_eq_true rfl) (q_cs rfl (q_cs rfl (q_cs rfl (q_cs rfl q_nil)))) (fun hv => ?_)
  unfold wp_X11_inn at Wq
  refine xe_aload_n dX11_inn_0 rfl q_rvO ?_
  refine xe_iconst 0 dX11_inn_1 (by decide) ?_
  refine xf_puti dX11_inn_2 fX11_1 (fun q hq => Or.inl (by cases hq; rfl)) ⟨rfl, rfl⟩ (fun _ _ => rfl) ?_
  refine xe_aload_n dX11_inn_5 rfl q_rvO ?_
  refine xe_geti dX11_inn_6 fX11_136 (fun _ _ => rfl) ?_
  refine xe_bipush 6 dX11_inn_9 (by decide) ?_
  refine xe_ic_ne 16 dX11_inn_11 (by decide) (fun c_11 => ?_) (fun c_11 => ?_)
  · replace Wq := Wq.1 c_11
    refine xe_aload_n dX11_inn_16 rfl q_rvO ?_
    refine xe_geti dX11_inn_17 fX11_136 (fun _ _ => rfl) ?_
    refine xe_if_ne 43 dX11_inn_20 (by decide) (fun c_20 => ?_) (fun c_20 => ?_)
    · replace Wq := Wq.1 c_20
      refine xe_iload_n dX11_inn_43 rfl ?_
      refine xe_iconst 1 dX11_inn_44 (by decide) ?_
      refine xe_bipush 9 dX11_inn_45 (by decide) ?_
      refine xe_cs (y' := mX11_within) dX11_inn_47 (Or.inl lX11_139) tX11_within (ct_X11_within hS Wq) rfl rfl (Nat.le_of_ble_eq_true rfl) ⟨Nat.le_of_ble_eq_true rfl, Nat.le_of_ble_eq_true rfl⟩ ⟨Nat.le_of_ble_eq_true rfl, Nat.le_of_ble_eq_true rfl⟩ (fun v1 h1 hl1 hk1 hm1 => ?_)
      obtain ⟨r47, a47, rfl, rfl, Wq⟩ := hk1
      refine xe_if_eq 67 dX11_inn_50 (by decide) (fun c_50 => ?_) (fun c_50 => ?_)
      · replace Wq := Wq.1 c_50
        refine q_wk (ls := [some (q_O 11 0), some (q_I x1), some (q_I x2), some (q_I x3), none]) ⟨rfl, ⟨rfl, ⟨rfl, ⟨rfl, trivial⟩⟩⟩⟩ ?_
        exact el_X11_inn_67 hS _ _ _ _ Wq
      · replace Wq := Wq.2 c_50
        refine xe_iload_n dX11_inn_53 rfl ?_
        refine xe_iconst 0 dX11_inn_54 (by decide) ?_
        refine xe_bipush 9 dX11_inn_55 (by decide) ?_
        refine xe_cs (y' := mX11_within) dX11_inn_57 (Or.inl lX11_139) tX11_within (ct_X11_within hS Wq) rfl rfl (Nat.le_of_ble_eq_true rfl) ⟨Nat.le_of_ble_eq_true rfl, Nat.le_of_ble_eq_true rfl⟩ ⟨Nat.le_of_ble_eq_true rfl, Nat.le_of_ble_eq_true rfl⟩ (fun v1 h1 hl1 hk1 hm1 => ?_)
        obtain ⟨r57, a57, rfl, rfl, Wq⟩ := hk1
        refine xe_if_eq 67 dX11_inn_60 (by decide) (fun c_60 => ?_) (fun c_60 => ?_)
        · replace Wq := Wq.1 c_60
          refine q_wk (ls := [some (q_O 11 0), some (q_I x1), some (q_I x2), some (q_I x3), none]) ⟨rfl, ⟨rfl, ⟨rfl, ⟨rfl, trivial⟩⟩⟩⟩ ?_
          exact el_X11_inn_67 hS _ _ _ _ Wq
        · replace Wq := Wq.2 c_60
          refine xe_iconst 1 dX11_inn_63 (by decide) ?_
          refine xe_goto 68 dX11_inn_64 (by decide) ?_
          refine q_wk (ls := [some (q_O 11 0), some (q_I x1), some (q_I x2), some (q_I x3), none]) ⟨rfl, ⟨rfl, ⟨rfl, ⟨rfl, trivial⟩⟩⟩⟩ ?_
          exact el_X11_inn_68 hS _ _ _ _ _ Wq
    · replace Wq := Wq.2 c_20
      refine xe_iload_n dX11_inn_23 rfl ?_
      refine xe_if_ne 39 dX11_inn_24 (by decide) (fun c_24 => ?_) (fun c_24 => ?_)
      · replace Wq := Wq.1 c_24
        refine q_wk (ls := [some (q_O 11 0), some (q_I x1), some (q_I x2), some (q_I x3), none]) ⟨rfl, ⟨rfl, ⟨rfl, ⟨rfl, trivial⟩⟩⟩⟩ ?_
        exact el_X11_inn_39 hS _ _ _ _ Wq
      · replace Wq := Wq.2 c_24
        refine xe_iload_n dX11_inn_27 rfl ?_
        refine xe_if_ne 39 dX11_inn_28 (by decide) (fun c_28 => ?_) (fun c_28 => ?_)
        · replace Wq := Wq.1 c_28
          refine q_wk (ls := [some (q_O 11 0), some (q_I x1), some (q_I x2), some (q_I x3), none]) ⟨rfl, ⟨rfl, ⟨rfl, ⟨rfl, trivial⟩⟩⟩⟩ ?_
          exact el_X11_inn_39 hS _ _ _ _ Wq
        · replace Wq := Wq.2 c_28
          refine xe_iload_n dX11_inn_31 rfl ?_
          refine xe_if_ne 39 dX11_inn_32 (by decide) (fun c_32 => ?_) (fun c_32 => ?_)
          · replace Wq := Wq.1 c_32
            refine q_wk (ls := [some (q_O 11 0), some (q_I x1), some (q_I x2), some (q_I x3), none]) ⟨rfl, ⟨rfl, ⟨rfl, ⟨rfl, trivial⟩⟩⟩⟩ ?_
            exact el_X11_inn_39 hS _ _ _ _ Wq
          · replace Wq := Wq.2 c_32
            refine xe_iconst 1 dX11_inn_35 (by decide) ?_
            refine xe_goto 68 dX11_inn_36 (by decide) ?_
            refine q_wk (ls := [some (q_O 11 0), some (q_I x1), some (q_I x2), some (q_I x3), none]) ⟨rfl, ⟨rfl, ⟨rfl, ⟨rfl, trivial⟩⟩⟩⟩ ?_
            exact el_X11_inn_68 hS _ _ _ _ _ Wq
  · replace Wq := Wq.2 c_11
    refine xe_iconst (-1) dX11_inn_14 (by decide) ?_
    exact xe_iret .int dX11_inn_15 rfl rfl ⟨_, _, rfl, rfl, Wq⟩
def wp_X11_isEven (t p : Nat) (x1 : Int32) (a : qa) (post : Int32 → qa → Prop) : Prop := wp_X11_load t p x1 0 a (fun r3 a3 => wp_X11_load t p x1 1 a3 (fun r9 a9 => (((r3 - r9) < (-10) → post 0 a9) ∧ (¬ (r3 - r9) < (-10) → ((10 < (r3 - r9) → post 0 a9) ∧ (¬ 10 < (r3 - r9) → post 1 a9))))))
set_option maxHeartbeats 4000000 in
theorem ct_X11_isEven {g : q_G} {s : q_S} {t p : Nat} (hS : q_Sh t p s) {x1 : Int32} {a : qa} {post : Int32 → qa → Prop} (Wq : wp_X11_isEven t p x1 a post) : q_Ct g mX11_isEven (q_Rm 2 0 0) [q_O 11 0, q_I x1] (a, s) (q_kI s post) := by
  refine q_mk rfl rfl (Nat.le_of_ble_eq_true rfl) (q_cs rfl (q_cs rfl q_nil)) (fun hv => ?_)
  unfold wp_X11_isEven at Wq
  refine xe_aload_n dX11_isEven_0 rfl q_rvO ?_
  refine xe_iload_n dX11_isEven_1 rfl ?_
  refine xe_iconst 0 dX11_isEven_2 (by decide) ?_
  refine xe_cv (y' := mX11_load) dX11_isEven_3 (Or.inl lX11_178) tX11_load rfl rfl (ct_X11_load hS Wq) rfl rfl (Nat.le_of_ble_eq_true rfl) ⟨Nat.le_of_ble_eq_true rfl, Nat.le_of_ble_eq_true rfl⟩ ⟨Nat.le_of_ble_eq_true rfl, Nat.le_of_ble_eq_true rfl⟩ (fun v1 h1 hl1 hk1 hm1 => ?_)
  obtain ⟨r3, a3, rfl, rfl, Wq⟩ := hk1
  refine xe_aload_n dX11_isEven_6 rfl q_rvO ?_
  refine xe_iload_n dX11_isEven_7 rfl ?_
  refine xe_iconst 1 dX11_isEven_8 (by decide) ?_
  refine xe_cv (y' := mX11_load) dX11_isEven_9 (Or.inl lX11_178) tX11_load rfl rfl (ct_X11_load hS Wq) rfl rfl (Nat.le_of_ble_eq_true rfl) ⟨Nat.le_of_ble_eq_true rfl, Nat.le_of_ble_eq_true rfl⟩ ⟨Nat.le_of_ble_eq_true rfl, Nat.le_of_ble_eq_true rfl⟩ (fun v1 h1 hl1 hk1 hm1 => ?_)
  obtain ⟨r9, a9, rfl, rfl, Wq⟩ := hk1
  refine xe_isub dX11_isEven_12 ?_
  refine xe_istore_n dX11_isEven_13 (by decide) ?_
  refine xe_iload_n dX11_isEven_14 rfl ?_
  refine xe_bipush (-10) dX11_isEven_15 (by decide) ?_
  refine xe_ic_lt 30 dX11_isEven_17 (by decide) (fun c_17 => ?_) (fun c_17 => ?_)
  · replace Wq := Wq.1 c_17
    refine xe_iconst 0 dX11_isEven_30 (by decide) ?_
    exact xe_iret .boolean dX11_isEven_31 rfl (by decide) ⟨_, _, rfl, rfl, Wq⟩
  · replace Wq := Wq.2 c_17
    refine xe_iload_n dX11_isEven_20 rfl ?_
    refine xe_bipush 10 dX11_isEven_21 (by decide) ?_
    refine xe_ic_gt 30 dX11_isEven_23 (by decide) (fun c_23 => ?_) (fun c_23 => ?_)
    · replace Wq := Wq.1 c_23
      refine xe_iconst 0 dX11_isEven_30 (by decide) ?_
      exact xe_iret .boolean dX11_isEven_31 rfl (by decide) ⟨_, _, rfl, rfl, Wq⟩
    · replace Wq := Wq.2 c_23
      refine xe_iconst 1 dX11_isEven_26 (by decide) ?_
      refine xe_goto 31 dX11_isEven_27 (by decide) ?_
      exact xe_iret .boolean dX11_isEven_31 rfl (by decide) ⟨_, _, rfl, rfl, Wq⟩
def wl_X11_isShut_3 (t p : Nat) (post : Int32 → qa → Prop) : Nat → Int32 → Int32 → Int32 → Int32 → qa → Prop
  | 0 => fun _ _ _ _ _ => False
  | n + 1 => fun x1 x2 x3 x4 a => (((a 11 0 6) ≤ x4 → post 0 a) ∧ (¬ (a 11 0 6) ≤ x4 → vp_in x4 60 ∧ ((¬ (a 43 0 x4.toNatClampNeg) = x1 → (wl_X11_isShut_3 t p post n) x1 x2 x3 (x4 + 1) a) ∧ ((a 43 0 x4.toNatClampNeg) = x1 → vp_in x4 60 ∧ ((x3 < (a 46 0 x4.toNatClampNeg) → (wl_X11_isShut_3 t p post n) x1 x2 x3 (x4 + 1) a) ∧ (¬ x3 < (a 46 0 x4.toNatClampNeg) → vp_in x4 60 ∧ vp_in x4 60 ∧ wp_X11_within t p x2 (a 44 0 x4.toNatClampNeg) (a 45 0 x4.toNatClampNeg) a (fun r49 a49 => ((r49 = 0 → (wl_X11_isShut_3 t p post n) x1 x2 x3 (x4 + 1) a49) ∧ (¬ r49 = 0 → post 1 a49)))))))))
def wp_X11_isShut (t p : Nat) (x1 : Int32) (x2 : Int32) (x3 : Int32) (a : qa) (post : Int32 → qa → Prop) : Prop := ∃ n_3, wl_X11_isShut_3 t p post n_3 x1 x2 x3 0 a
set_option maxHeartbeats 4000000 in
theorem el_X11_isShut_3 {g : q_G} {s : q_S} {t p : Nat} (hS : q_Sh t p s) {post : Int32 → qa → Prop} : ∀ (n : Nat) (x1 : Int32) (x2 : Int32) (x3 : Int32) (x4 : Int32) (a : qa), wl_X11_isShut_3 t p post n x1 x2 x3 x4 a → q_E g mX11_isShut (q_Rm 2 0 0) (q_kI s post) (0, 0) 3 [some (q_O 11 0), some (q_I x1), some (q_I x2), some (q_I x3), some (q_I x4)] [] (a, s) := by
  intro n
  induction n with
  | zero =>
    intro x1 x2 x3 x4 a Wq
    exact absurd Wq id
  | succ n ih =>
    intro x1 x2 x3 x4 a Wq
    unfold wl_X11_isShut_3 at Wq
    refine xe_iload dX11_isShut_3 rfl ?_
    refine xe_aload_n dX11_isShut_5 rfl q_rvO ?_
    refine xe_geti dX11_isShut_6 fX11_147 (fun _ _ => rfl) ?_
    refine xe_ic_ge 63 dX11_isShut_9 (by decide) (fun c_9 => ?_) (fun c_9 => ?_)
    · replace Wq := Wq.1 c_9
      refine xe_iconst 0 dX11_isShut_63 (by decide) ?_
      exact xe_iret .boolean dX11_isShut_64 rfl (by decide) ⟨_, _, rfl, rfl, Wq⟩
    · replace Wq := Wq.2 c_9
      refine xe_aload_n dX11_isShut_12 rfl q_rvO ?_
      refine xe_getr dX11_isShut_13 fX11_24 (fun _ _ => rfl) (q_sg hS rfl) ?_
      refine xe_iload dX11_isShut_16 rfl ?_
      obtain ⟨hj_18, Wq⟩ := Wq
      refine xe_iald dX11_isShut_18 rfl hj_18 ?_
      refine xe_iload_n dX11_isShut_19 rfl ?_
      refine xe_ic_ne 57 dX11_isShut_20 (by decide) (fun c_20 => ?_) (fun c_20 => ?_)
      · replace Wq := Wq.1 c_20
        refine xe_iinc (_ + 1) dX11_isShut_57 (by decide) rfl rfl ?_
        refine xe_goto 3 dX11_isShut_60 (by decide) ?_
        refine q_wk (ls := [some (q_O 11 0), some (q_I x1), some (q_I x2), some (q_I x3), some (q_I (x4 + 1))]) ⟨rfl, ⟨rfl, ⟨rfl, ⟨rfl, ⟨rfl, trivial⟩⟩⟩⟩⟩ ?_
        exact ih _ _ _ _ _ Wq
      · replace Wq := Wq.2 c_20
        refine xe_aload_n dX11_isShut_23 rfl q_rvO ?_
        refine xe_getr dX11_isShut_24 fX11_33 (fun _ _ => rfl) (q_sg hS rfl) ?_
        refine xe_iload dX11_isShut_27 rfl ?_
        obtain ⟨hj_29, Wq⟩ := Wq
        refine xe_iald dX11_isShut_29 rfl hj_29 ?_
        refine xe_iload_n dX11_isShut_30 rfl ?_
        refine xe_ic_gt 57 dX11_isShut_31 (by decide) (fun c_31 => ?_) (fun c_31 => ?_)
        · replace Wq := Wq.1 c_31
          refine xe_iinc (_ + 1) dX11_isShut_57 (by decide) rfl rfl ?_
          refine xe_goto 3 dX11_isShut_60 (by decide) ?_
          refine q_wk (ls := [some (q_O 11 0), some (q_I x1), some (q_I x2), some (q_I x3), some (q_I (x4 + 1))]) ⟨rfl, ⟨rfl, ⟨rfl, ⟨rfl, ⟨rfl, trivial⟩⟩⟩⟩⟩ ?_
          exact ih _ _ _ _ _ Wq
        · replace Wq := Wq.2 c_31
          refine xe_iload_n dX11_isShut_34 rfl ?_
          refine xe_aload_n dX11_isShut_35 rfl q_rvO ?_
          refine xe_getr dX11_isShut_36 fX11_27 (fun _ _ => rfl) (q_sg hS rfl) ?_
          refine xe_iload dX11_isShut_39 rfl ?_
          obtain ⟨hj_41, Wq⟩ := Wq
          refine xe_iald dX11_isShut_41 rfl hj_41 ?_
          refine xe_aload_n dX11_isShut_42 rfl q_rvO ?_
          refine xe_getr dX11_isShut_43 fX11_30 (fun _ _ => rfl) (q_sg hS rfl) ?_
          refine xe_iload dX11_isShut_46 rfl ?_
          obtain ⟨hj_48, Wq⟩ := Wq
          refine xe_iald dX11_isShut_48 rfl hj_48 ?_
          refine xe_cs (y' := mX11_within) dX11_isShut_49 (Or.inl lX11_139) tX11_within (ct_X11_within hS Wq) rfl rfl (Nat.le_of_ble_eq_true rfl) ⟨Nat.le_of_ble_eq_true rfl, Nat.le_of_ble_eq_true rfl⟩ ⟨Nat.le_of_ble_eq_true rfl, Nat.le_of_ble_eq_true rfl⟩ (fun v1 h1 hl1 hk1 hm1 => ?_)
          obtain ⟨r49, a49, rfl, rfl, Wq⟩ := hk1
          refine xe_if_eq 57 dX11_isShut_52 (by decide) (fun c_52 => ?_) (fun c_52 => ?_)
          · replace Wq := Wq.1 c_52
            refine xe_iinc (_ + 1) dX11_isShut_57 (by decide) rfl rfl ?_
            refine xe_goto 3 dX11_isShut_60 (by decide) ?_
            refine q_wk (ls := [some (q_O 11 0), some (q_I x1), some (q_I x2), some (q_I x3), some (q_I (x4 + 1))]) ⟨rfl, ⟨rfl, ⟨rfl, ⟨rfl, ⟨rfl, trivial⟩⟩⟩⟩⟩ ?_
            exact ih _ _ _ _ _ Wq
          · replace Wq := Wq.2 c_52
            refine xe_iconst 1 dX11_isShut_55 (by decide) ?_
            exact xe_iret .boolean dX11_isShut_56 rfl (by decide) ⟨_, _, rfl, rfl, Wq⟩
set_option maxHeartbeats 4000000 in
theorem ct_X11_isShut {g : q_G} {s : q_S} {t p : Nat} (hS : q_Sh t p s) {x1 : Int32} {x2 : Int32} {x3 : Int32} {a : qa} {post : Int32 → qa → Prop} (Wq : wp_X11_isShut t p x1 x2 x3 a post) : q_Ct g mX11_isShut (q_Rm 2 0 0) [q_O 11 0, q_I x1, q_I x2, q_I x3] (a, s) (q_kI s post) := by
  refine q_mk rfl rfl (Nat.le_of_ble_eq_true rfl) (q_cs rfl (q_cs rfl (q_cs rfl (q_cs rfl q_nil)))) (fun hv => ?_)
  unfold wp_X11_isShut at Wq
  refine xe_iconst 0 dX11_isShut_0 (by decide) ?_
  refine xe_istore dX11_isShut_1 (by decide) ?_
  obtain ⟨n_3, Wq⟩ := Wq
  refine q_wk (ls := [some (q_O 11 0), some (q_I x1), some (q_I x2), some (q_I x3), some (q_I 0)]) ⟨rfl, ⟨rfl, ⟨rfl, ⟨rfl, ⟨rfl, trivial⟩⟩⟩⟩⟩ ?_
  exact el_X11_isShut_3 hS n_3 _ _ _ _ _ Wq
def wl_X11_lay_170 (t p : Nat) (post : Int32 → qa → Prop) : Int32 → Int32 → Int32 → Int32 → qa → Prop := fun x1 x3 x4 x5 a => vp_in x4 100 ∧ vp_in x4 100 ∧ vp_in x4 100 ∧ wp_X11_change t p x4 (10 + x1) (qs (qs (qs a 58 0 x4.toNatClampNeg 1) 60 0 x4.toNatClampNeg x5) 61 0 x4.toNatClampNeg x3) (fun a202 => wp_X11_load t p x5 3 a202 (fun r209 a209 => post r209 a209))
def wl_X11_lay_149 (t p : Nat) (post : Int32 → qa → Prop) : Int32 → Int32 → Int32 → Int32 → Int32 → Int32 → qa → Prop := fun x1 x3 x4 x5 y0 y1 a => ((¬ y0 = y1 → post (-5) a) ∧ (y0 = y1 → ((¬ x3 = 2 → wl_X11_lay_170 t p post x1 x3 x4 x5 a) ∧ (x3 = 2 → wp_X11_top t p x5 a (fun r160 a160 => ((r160 = (-1) → wl_X11_lay_170 t p post x1 x3 x4 x5 a160) ∧ (¬ r160 = (-1) → post (-5) a160)))))))
def wl_X11_lay_135 (t p : Nat) (post : Int32 → qa → Prop) : Int32 → Int32 → Int32 → Int32 → Int32 → qa → Prop := fun x1 x3 x4 x5 y0 a => ((¬ x3 = 2 → wl_X11_lay_149 t p post x1 x3 x4 x5 y0 0 a) ∧ (x3 = 2 → wl_X11_lay_149 t p post x1 x3 x4 x5 y0 1 a))
def wp_X11_lay (t p : Nat) (x1 : Int32) (x2 : Int32) (x3 : Int32) (x4 : Int32) (a : qa) (post : Int32 → qa → Prop) : Prop := wp_X11_isString t p x1 (qs a 11 0 0 0) (fun r7 a7 => ((r7 = 0 → post (-1) a7) ∧ (¬ r7 = 0 → wp_X11_within t p x2 0 2 a7 (fun r16 a16 => ((r16 = 0 → post (-1) a16) ∧ (¬ r16 = 0 → wp_X11_within t p x3 0 2 a16 (fun r25 a25 => ((r25 = 0 → post (-1) a25) ∧ (¬ r25 = 0 → wp_X11_isPack t p x4 a25 (fun r34 a34 => ((¬ r34 = 0 → vp_in x4 100 ∧ ((¬ (a34 58 0 x4.toNatClampNeg) = 0 → post (-2) a34) ∧ ((a34 58 0 x4.toNatClampNeg) = 0 → vp_in x1 4 ∧ vp_in x4 100 ∧ (((a34 47 0 x1.toNatClampNeg) = (a34 59 0 x4.toNatClampNeg) → vp_in ((3 * x1) + x2) 12 ∧ (((a34 53 0 (((3 * x1) + x2).toNatClampNeg)) = 0 → wp_X11_load t p ((3 * x1) + x2) 3 a34 (fun r95 a95 => vp_in x4 100 ∧ vp_in ((3 * x1) + x2) 12 ∧ (((r95 + (a95 56 0 x4.toNatClampNeg)) ≤ (a95 51 0 (((3 * x1) + x2).toNatClampNeg)) → vp_in x4 100 ∧ ((¬ (a95 55 0 x4.toNatClampNeg) = 3 → wl_X11_lay_135 t p post x1 x3 x4 ((3 * x1) + x2) 0 a95) ∧ ((a95 55 0 x4.toNatClampNeg) = 3 → wl_X11_lay_135 t p post x1 x3 x4 ((3 * x1) + x2) 1 a95))) ∧ (¬ (r95 + (a95 56 0 x4.toNatClampNeg)) ≤ (a95 51 0 (((3 * x1) + x2).toNatClampNeg)) → post (-4) a95)))) ∧ (¬ (a34 53 0 (((3 * x1) + x2).toNatClampNeg)) = 0 → post (-3) a34))) ∧ (¬ (a34 47 0 x1.toNatClampNeg) = (a34 59 0 x4.toNatClampNeg) → post (-2) a34))))) ∧ (r34 = 0 → post (-1) a34))))))))))))
set_option maxHeartbeats 4000000 in
theorem el_X11_lay_170 {g : q_G} {s : q_S} {t p : Nat} (hS : q_Sh t p s) {post : Int32 → qa → Prop} : ∀ (x1 : Int32) (x3 : Int32) (x4 : Int32) (x5 : Int32) (a : qa), wl_X11_lay_170 t p post x1 x3 x4 x5 a → q_E g mX11_lay (q_Rm 2 0 0) (q_kI s post) (0, 0) 170 [some (q_O 11 0), some (q_I x1), none, some (q_I x3), some (q_I x4), some (q_I x5), none] [] (a, s) := by
  intro x1 x3 x4 x5 a Wq
  unfold wl_X11_lay_170 at Wq
  refine xe_aload_n dX11_lay_170 rfl q_rvO ?_
  refine xe_getr dX11_lay_171 fX11_69 (fun _ _ => rfl) (q_sg hS rfl) ?_
  refine xe_iload dX11_lay_174 rfl ?_
  refine xe_iconst 1 dX11_lay_176 (by decide) ?_
  obtain ⟨hj_177, Wq⟩ := Wq
  refine xf_iast dX11_lay_177 rfl hj_177 ?_
  refine xe_aload_n dX11_lay_178 rfl q_rvO ?_
  refine xe_getr dX11_lay_179 fX11_75 (fun _ _ => rfl) (q_sg hS rfl) ?_
  refine xe_iload dX11_lay_182 rfl ?_
  refine xe_iload dX11_lay_184 rfl ?_
  obtain ⟨hj_186, Wq⟩ := Wq
  refine xf_iast dX11_lay_186 rfl hj_186 ?_
  refine xe_aload_n dX11_lay_187 rfl q_rvO ?_
  refine xe_getr dX11_lay_188 fX11_78 (fun _ _ => rfl) (q_sg hS rfl) ?_
  refine xe_iload dX11_lay_191 rfl ?_
  refine xe_iload_n dX11_lay_193 rfl ?_
  obtain ⟨hj_194, Wq⟩ := Wq
  refine xf_iast dX11_lay_194 rfl hj_194 ?_
  refine xe_aload_n dX11_lay_195 rfl q_rvO ?_
  refine xe_iload dX11_lay_196 rfl ?_
  refine xe_bipush 10 dX11_lay_198 (by decide) ?_
  refine xe_iload_n dX11_lay_200 rfl ?_
  refine xe_iadd dX11_lay_201 ?_
  refine xe_cv (y' := mX11_change) dX11_lay_202 (Or.inl lX11_168) tX11_change rfl rfl (ct_X11_change hS Wq) rfl rfl (Nat.le_of_ble_eq_true rfl) ⟨Nat.le_of_ble_eq_true rfl, Nat.le_of_ble_eq_true rfl⟩ ⟨Nat.le_of_ble_eq_true rfl, Nat.le_of_ble_eq_true rfl⟩ (fun v1 h1 hl1 hk1 hm1 => ?_)
  obtain ⟨a202, rfl, rfl, Wq⟩ := hk1
  refine xe_aload_n dX11_lay_205 rfl q_rvO ?_
  refine xe_iload dX11_lay_206 rfl ?_
  refine xe_iconst 3 dX11_lay_208 (by decide) ?_
  refine xe_cv (y' := mX11_load) dX11_lay_209 (Or.inl lX11_178) tX11_load rfl rfl (ct_X11_load hS Wq) rfl rfl (Nat.le_of_ble_eq_true rfl) ⟨Nat.le_of_ble_eq_true rfl, Nat.le_of_ble_eq_true rfl⟩ ⟨Nat.le_of_ble_eq_true rfl, Nat.le_of_ble_eq_true rfl⟩ (fun v1 h1 hl1 hk1 hm1 => ?_)
  obtain ⟨r209, a209, rfl, rfl, Wq⟩ := hk1
  exact xe_iret .int dX11_lay_212 rfl rfl ⟨_, _, rfl, rfl, Wq⟩
set_option maxHeartbeats 4000000 in
theorem el_X11_lay_149 {g : q_G} {s : q_S} {t p : Nat} (hS : q_Sh t p s) {post : Int32 → qa → Prop} : ∀ (x1 : Int32) (x3 : Int32) (x4 : Int32) (x5 : Int32) (y0 : Int32) (y1 : Int32) (a : qa), wl_X11_lay_149 t p post x1 x3 x4 x5 y0 y1 a → q_E g mX11_lay (q_Rm 2 0 0) (q_kI s post) (0, 0) 149 [some (q_O 11 0), some (q_I x1), none, some (q_I x3), some (q_I x4), some (q_I x5), none] [(q_I y1), (q_I y0)] (a, s) := by
  intro x1 x3 x4 x5 y0 y1 a Wq
  unfold wl_X11_lay_149 at Wq
  refine xe_ic_ne 167 dX11_lay_149 (by decide) (fun c_149 => ?_) (fun c_149 => ?_)
  · replace Wq := Wq.1 c_149
    refine xe_bipush (-5) dX11_lay_167 (by decide) ?_
    exact xe_iret .int dX11_lay_169 rfl rfl ⟨_, _, rfl, rfl, Wq⟩
  · replace Wq := Wq.2 c_149
    refine xe_iload_n dX11_lay_152 rfl ?_
    refine xe_iconst 2 dX11_lay_153 (by decide) ?_
    refine xe_ic_ne 170 dX11_lay_154 (by decide) (fun c_154 => ?_) (fun c_154 => ?_)
    · replace Wq := Wq.1 c_154
      refine q_wk (ls := [some (q_O 11 0), some (q_I x1), none, some (q_I x3), some (q_I x4), some (q_I x5), none]) ⟨rfl, ⟨rfl, ⟨rfl, ⟨rfl, ⟨rfl, trivial⟩⟩⟩⟩⟩ ?_
      exact el_X11_lay_170 hS _ _ _ _ _ Wq
    · replace Wq := Wq.2 c_154
      refine xe_aload_n dX11_lay_157 rfl q_rvO ?_
      refine xe_iload dX11_lay_158 rfl ?_
      refine xe_cv (y' := mX11_top) dX11_lay_160 (Or.inl lX11_182) tX11_top rfl rfl (ct_X11_top hS Wq) rfl rfl (Nat.le_of_ble_eq_true rfl) ⟨Nat.le_of_ble_eq_true rfl, Nat.le_of_ble_eq_true rfl⟩ ⟨Nat.le_of_ble_eq_true rfl, Nat.le_of_ble_eq_true rfl⟩ (fun v1 h1 hl1 hk1 hm1 => ?_)
      obtain ⟨r160, a160, rfl, rfl, Wq⟩ := hk1
      refine xe_iconst (-1) dX11_lay_163 (by decide) ?_
      refine xe_ic_eq 170 dX11_lay_164 (by decide) (fun c_164 => ?_) (fun c_164 => ?_)
      · replace Wq := Wq.1 c_164
        refine q_wk (ls := [some (q_O 11 0), some (q_I x1), none, some (q_I x3), some (q_I x4), some (q_I x5), none]) ⟨rfl, ⟨rfl, ⟨rfl, ⟨rfl, ⟨rfl, trivial⟩⟩⟩⟩⟩ ?_
        exact el_X11_lay_170 hS _ _ _ _ _ Wq
      · replace Wq := Wq.2 c_164
        refine xe_bipush (-5) dX11_lay_167 (by decide) ?_
        exact xe_iret .int dX11_lay_169 rfl rfl ⟨_, _, rfl, rfl, Wq⟩
set_option maxHeartbeats 4000000 in
theorem el_X11_lay_135 {g : q_G} {s : q_S} {t p : Nat} (hS : q_Sh t p s) {post : Int32 → qa → Prop} : ∀ (x1 : Int32) (x3 : Int32) (x4 : Int32) (x5 : Int32) (y0 : Int32) (a : qa), wl_X11_lay_135 t p post x1 x3 x4 x5 y0 a → q_E g mX11_lay (q_Rm 2 0 0) (q_kI s post) (0, 0) 135 [some (q_O 11 0), some (q_I x1), none, some (q_I x3), some (q_I x4), some (q_I x5), none] [(q_I y0)] (a, s) := by
  intro x1 x3 x4 x5 y0 a Wq
  unfold wl_X11_lay_135 at Wq
  refine xe_istore dX11_lay_135 (by decide) ?_
  refine xe_iload dX11_lay_137 rfl ?_
  refine xe_iload_n dX11_lay_139 rfl ?_
  refine xe_iconst 2 dX11_lay_140 (by decide) ?_
  refine xe_ic_ne 148 dX11_lay_141 (by decide) (fun c_141 => ?_) (fun c_141 => ?_)
  · replace Wq := Wq.1 c_141
    refine xe_iconst 0 dX11_lay_148 (by decide) ?_
    refine q_wk (ls := [some (q_O 11 0), some (q_I x1), none, some (q_I x3), some (q_I x4), some (q_I x5), none]) ⟨rfl, ⟨rfl, ⟨rfl, ⟨rfl, ⟨rfl, trivial⟩⟩⟩⟩⟩ ?_
    exact el_X11_lay_149 hS _ _ _ _ _ _ _ Wq
  · replace Wq := Wq.2 c_141
    refine xe_iconst 1 dX11_lay_144 (by decide) ?_
    refine xe_goto 149 dX11_lay_145 (by decide) ?_
    refine q_wk (ls := [some (q_O 11 0), some (q_I x1), none, some (q_I x3), some (q_I x4), some (q_I x5), none]) ⟨rfl, ⟨rfl, ⟨rfl, ⟨rfl, ⟨rfl, trivial⟩⟩⟩⟩⟩ ?_
    exact el_X11_lay_149 hS _ _ _ _ _ _ _ Wq
set_option maxHeartbeats 4000000 in
theorem ct_X11_lay {g : q_G} {s : q_S} {t p : Nat} (hS : q_Sh t p s) {x1 : Int32} {x2 : Int32} {x3 : Int32} {x4 : Int32} {a : qa} {post : Int32 → qa → Prop} (Wq : wp_X11_lay t p x1 x2 x3 x4 a post) : q_Ct g mX11_lay (q_Rm 2 0 0) [q_O 11 0, q_I x1, q_I x2, q_I x3, q_I x4] (a, s) (q_kI s post) := by
  refine q_mk rfl rfl (Nat.le_of_ble_eq_true rfl) (q_cs rfl (q_cs rfl (q_cs rfl (q_cs rfl (q_cs rfl q_nil))))) (fun hv => ?_)
  unfold wp_X11_lay at Wq
  refine xe_aload_n dX11_lay_0 rfl q_rvO ?_
  refine xe_iconst 0 dX11_lay_1 (by decide) ?_
  refine xf_puti dX11_lay_2 fX11_1 (fun q hq => Or.inl (by cases hq; rfl)) ⟨rfl, rfl⟩ (fun _ _ => rfl) ?_
  refine xe_aload_n dX11_lay_5 rfl q_rvO ?_
  refine xe_iload_n dX11_lay_6 rfl ?_
  refine xe_cv (y' := mX11_isString) dX11_lay_7 (Or.inl lX11_172) tX11_isString rfl rfl (ct_X11_isString hS Wq) rfl rfl (Nat.le_of_ble_eq_true rfl) ⟨Nat.le_of_ble_eq_true rfl, Nat.le_of_ble_eq_true rfl⟩ ⟨Nat.le_of_ble_eq_true rfl, Nat.le_of_ble_eq_true rfl⟩ (fun v1 h1 hl1 hk1 hm1 => ?_)
  obtain ⟨r7, a7, rfl, rfl, Wq⟩ := hk1
  refine xe_if_eq 40 dX11_lay_10 (by decide) (fun c_10 => ?_) (fun c_10 => ?_)
  · replace Wq := Wq.1 c_10
    refine xe_iconst (-1) dX11_lay_40 (by decide) ?_
    exact xe_iret .int dX11_lay_41 rfl rfl ⟨_, _, rfl, rfl, Wq⟩
  · replace Wq := Wq.2 c_10
    refine xe_iload_n dX11_lay_13 rfl ?_
    refine xe_iconst 0 dX11_lay_14 (by decide) ?_
    refine xe_iconst 2 dX11_lay_15 (by decide) ?_
    refine xe_cs (y' := mX11_within) dX11_lay_16 (Or.inl lX11_139) tX11_within (ct_X11_within hS Wq) rfl rfl (Nat.le_of_ble_eq_true rfl) ⟨Nat.le_of_ble_eq_true rfl, Nat.le_of_ble_eq_true rfl⟩ ⟨Nat.le_of_ble_eq_true rfl, Nat.le_of_ble_eq_true rfl⟩ (fun v1 h1 hl1 hk1 hm1 => ?_)
    obtain ⟨r16, a16, rfl, rfl, Wq⟩ := hk1
    refine xe_if_eq 40 dX11_lay_19 (by decide) (fun c_19 => ?_) (fun c_19 => ?_)
    · replace Wq := Wq.1 c_19
      refine xe_iconst (-1) dX11_lay_40 (by decide) ?_
      exact xe_iret .int dX11_lay_41 rfl rfl ⟨_, _, rfl, rfl, Wq⟩
    · replace Wq := Wq.2 c_19
      refine xe_iload_n dX11_lay_22 rfl ?_
      refine xe_iconst 0 dX11_lay_23 (by decide) ?_
      refine xe_iconst 2 dX11_lay_24 (by decide) ?_
      refine xe_cs (y' := mX11_within) dX11_lay_25 (Or.inl lX11_139) tX11_within (ct_X11_within hS Wq) rfl rfl (Nat.le_of_ble_eq_true rfl) ⟨Nat.le_of_ble_eq_true rfl, Nat.le_of_ble_eq_true rfl⟩ ⟨Nat.le_of_ble_eq_true rfl, Nat.le_of_ble_eq_true rfl⟩ (fun v1 h1 hl1 hk1 hm1 => ?_)
      obtain ⟨r25, a25, rfl, rfl, Wq⟩ := hk1
      refine xe_if_eq 40 dX11_lay_28 (by decide) (fun c_28 => ?_) (fun c_28 => ?_)
      · replace Wq := Wq.1 c_28
        refine xe_iconst (-1) dX11_lay_40 (by decide) ?_
        exact xe_iret .int dX11_lay_41 rfl rfl ⟨_, _, rfl, rfl, Wq⟩
      · replace Wq := Wq.2 c_28
        refine xe_aload_n dX11_lay_31 rfl q_rvO ?_
        refine xe_iload dX11_lay_32 rfl ?_
        refine xe_cv (y' := mX11_isPack) dX11_lay_34 (Or.inl lX11_175) tX11_isPack rfl rfl (ct_X11_isPack hS Wq) rfl rfl (Nat.le_of_ble_eq_true rfl) ⟨Nat.le_of_ble_eq_true rfl, Nat.le_of_ble_eq_true rfl⟩ ⟨Nat.le_of_ble_eq_true rfl, Nat.le_of_ble_eq_true rfl⟩ (fun v1 h1 hl1 hk1 hm1 => ?_)
        obtain ⟨r34, a34, rfl, rfl, Wq⟩ := hk1
        refine xe_if_ne 42 dX11_lay_37 (by decide) (fun c_37 => ?_) (fun c_37 => ?_)
        · replace Wq := Wq.1 c_37
          refine xe_aload_n dX11_lay_42 rfl q_rvO ?_
          refine xe_getr dX11_lay_43 fX11_69 (fun _ _ => rfl) (q_sg hS rfl) ?_
          refine xe_iload dX11_lay_46 rfl ?_
          obtain ⟨hj_48, Wq⟩ := Wq
          refine xe_iald dX11_lay_48 rfl hj_48 ?_
          refine xe_if_ne 68 dX11_lay_49 (by decide) (fun c_49 => ?_) (fun c_49 => ?_)
          · replace Wq := Wq.1 c_49
            refine xe_bipush (-2) dX11_lay_68 (by decide) ?_
            exact xe_iret .int dX11_lay_70 rfl rfl ⟨_, _, rfl, rfl, Wq⟩
          · replace Wq := Wq.2 c_49
            refine xe_aload_n dX11_lay_52 rfl q_rvO ?_
            refine xe_getr dX11_lay_53 fX11_36 (fun _ _ => rfl) (q_sg hS rfl) ?_
            refine xe_iload_n dX11_lay_56 rfl ?_
            obtain ⟨hj_57, Wq⟩ := Wq
            refine xe_iald dX11_lay_57 rfl hj_57 ?_
            refine xe_aload_n dX11_lay_58 rfl q_rvO ?_
            refine xe_getr dX11_lay_59 fX11_72 (fun _ _ => rfl) (q_sg hS rfl) ?_
            refine xe_iload dX11_lay_62 rfl ?_
            obtain ⟨hj_64, Wq⟩ := Wq
            refine xe_iald dX11_lay_64 rfl hj_64 ?_
            refine xe_ic_eq 71 dX11_lay_65 (by decide) (fun c_65 => ?_) (fun c_65 => ?_)
            · replace Wq := Wq.1 c_65
              refine xe_iconst 3 dX11_lay_71 (by decide) ?_
              refine xe_iload_n dX11_lay_72 rfl ?_
              refine xe_imul dX11_lay_73 ?_
              refine xe_iload_n dX11_lay_74 rfl ?_
              refine xe_iadd dX11_lay_75 ?_
              refine xe_istore dX11_lay_76 (by decide) ?_
              refine xe_aload_n dX11_lay_78 rfl q_rvO ?_
              refine xe_getr dX11_lay_79 fX11_54 (fun _ _ => rfl) (q_sg hS rfl) ?_
              refine xe_iload dX11_lay_82 rfl ?_
              obtain ⟨hj_84, Wq⟩ := Wq
              refine xe_zald dX11_lay_84 rfl hj_84 ?_
              refine xe_if_eq 91 dX11_lay_85 (by decide) (fun c_85 => ?_) (fun c_85 => ?_)
              · replace Wq := Wq.1 c_85
                refine xe_aload_n dX11_lay_91 rfl q_rvO ?_
                refine xe_iload dX11_lay_92 rfl ?_
                refine xe_iconst 3 dX11_lay_94 (by decide) ?_
                refine xe_cv (y' := mX11_load) dX11_lay_95 (Or.inl lX11_178) tX11_load rfl rfl (ct_X11_load hS Wq) rfl rfl (Nat.le_of_ble_eq_true rfl) ⟨Nat.le_of_ble_eq_true rfl, Nat.le_of_ble_eq_true rfl⟩ ⟨Nat.le_of_ble_eq_true rfl, Nat.le_of_ble_eq_true rfl⟩ (fun v1 h1 hl1 hk1 hm1 => ?_)
                obtain ⟨r95, a95, rfl, rfl, Wq⟩ := hk1
                refine xe_aload_n dX11_lay_98 rfl q_rvO ?_
                refine xe_getr dX11_lay_99 fX11_63 (fun _ _ => rfl) (q_sg hS rfl) ?_
                refine xe_iload dX11_lay_102 rfl ?_
                obtain ⟨hj_104, Wq⟩ := Wq
                refine xe_iald dX11_lay_104 rfl hj_104 ?_
                refine xe_iadd dX11_lay_105 ?_
                refine xe_aload_n dX11_lay_106 rfl q_rvO ?_
                refine xe_getr dX11_lay_107 fX11_48 (fun _ _ => rfl) (q_sg hS rfl) ?_
                refine xe_iload dX11_lay_110 rfl ?_
                obtain ⟨hj_112, Wq⟩ := Wq
                refine xe_iald dX11_lay_112 rfl hj_112 ?_
                refine xe_ic_le 119 dX11_lay_113 (by decide) (fun c_113 => ?_) (fun c_113 => ?_)
                · replace Wq := Wq.1 c_113
                  refine xe_aload_n dX11_lay_119 rfl q_rvO ?_
                  refine xe_getr dX11_lay_120 fX11_60 (fun _ _ => rfl) (q_sg hS rfl) ?_
                  refine xe_iload dX11_lay_123 rfl ?_
                  obtain ⟨hj_125, Wq⟩ := Wq
                  refine xe_iald dX11_lay_125 rfl hj_125 ?_
                  refine xe_iconst 3 dX11_lay_126 (by decide) ?_
                  refine xe_ic_ne 134 dX11_lay_127 (by decide) (fun c_127 => ?_) (fun c_127 => ?_)
                  · replace Wq := Wq.1 c_127
                    refine xe_iconst 0 dX11_lay_134 (by decide) ?_
                    refine q_wk (ls := [some (q_O 11 0), some (q_I x1), none, some (q_I x3), some (q_I x4), some (q_I ((3 * x1) + x2)), none]) ⟨rfl, ⟨rfl, ⟨rfl, ⟨rfl, ⟨rfl, trivial⟩⟩⟩⟩⟩ ?_
                    exact el_X11_lay_135 hS _ _ _ _ _ _ Wq
                  · replace Wq := Wq.2 c_127
                    refine xe_iconst 1 dX11_lay_130 (by decide) ?_
                    refine xe_goto 135 dX11_lay_131 (by decide) ?_
                    refine q_wk (ls := [some (q_O 11 0), some (q_I x1), none, some (q_I x3), some (q_I x4), some (q_I ((3 * x1) + x2)), none]) ⟨rfl, ⟨rfl, ⟨rfl, ⟨rfl, ⟨rfl, trivial⟩⟩⟩⟩⟩ ?_
                    exact el_X11_lay_135 hS _ _ _ _ _ _ Wq
                · replace Wq := Wq.2 c_113
                  refine xe_bipush (-4) dX11_lay_116 (by decide) ?_
                  exact xe_iret .int dX11_lay_118 rfl rfl ⟨_, _, rfl, rfl, Wq⟩
              · replace Wq := Wq.2 c_85
                refine xe_bipush (-3) dX11_lay_88 (by decide) ?_
                exact xe_iret .int dX11_lay_90 rfl rfl ⟨_, _, rfl, rfl, Wq⟩
            · replace Wq := Wq.2 c_65
              refine xe_bipush (-2) dX11_lay_68 (by decide) ?_
              exact xe_iret .int dX11_lay_70 rfl rfl ⟨_, _, rfl, rfl, Wq⟩
        · replace Wq := Wq.2 c_37
          refine xe_iconst (-1) dX11_lay_40 (by decide) ?_
          exact xe_iret .int dX11_lay_41 rfl rfl ⟨_, _, rfl, rfl, Wq⟩
def wp_X11_muleOf (t p : Nat) (x1 : Int32) (x2 : Int32) (x3 : Int32) (a : qa) (post : Int32 → qa → Prop) : Prop := wp_X11_isString t p x1 (qs a 11 0 0 0) (fun r7 a7 => ((r7 = 0 → post (-1) a7) ∧ (¬ r7 = 0 → wp_X11_within t p x2 0 2 a7 (fun r16 a16 => ((¬ r16 = 0 → ((x3 = 0 → vp_in ((3 * x1) + x2) 12 ∧ post (a16 51 0 (((3 * x1) + x2).toNatClampNeg)) a16) ∧ (x3 = 1 → vp_in ((3 * x1) + x2) 12 ∧ post (a16 52 0 (((3 * x1) + x2).toNatClampNeg)) a16) ∧ (x3 = 2 → vp_in ((3 * x1) + x2) 12 ∧ (((a16 53 0 (((3 * x1) + x2).toNatClampNeg)) = 0 → post 0 a16) ∧ (¬ (a16 53 0 (((3 * x1) + x2).toNatClampNeg)) = 0 → post 1 a16))) ∧ (x3 = 3 → wp_X11_load t p ((3 * x1) + x2) 3 a16 (fun r116 a116 => post r116 a116)) ∧ (x3 = 4 → wp_X11_load t p ((3 * x1) + x2) 0 a16 (fun r124 a124 => post r124 a124)) ∧ (x3 = 5 → wp_X11_load t p ((3 * x1) + x2) 1 a16 (fun r132 a132 => post r132 a132)) ∧ (x3 = 6 → wp_X11_top t p ((3 * x1) + x2) a16 (fun r139 a139 => post r139 a139)) ∧ (x3 = 7 → vp_in ((3 * x1) + x2) 12 ∧ post (a16 54 0 (((3 * x1) + x2).toNatClampNeg)) a16) ∧ (¬ x3 = 0 → ¬ x3 = 1 → ¬ x3 = 2 → ¬ x3 = 3 → ¬ x3 = 4 → ¬ x3 = 5 → ¬ x3 = 6 → ¬ x3 = 7 → post (-1) a16))) ∧ (r16 = 0 → post (-1) a16))))))
set_option maxHeartbeats 4000000 in
theorem ct_X11_muleOf {g : q_G} {s : q_S} {t p : Nat} (hS : q_Sh t p s) {x1 : Int32} {x2 : Int32} {x3 : Int32} {a : qa} {post : Int32 → qa → Prop} (Wq : wp_X11_muleOf t p x1 x2 x3 a post) : q_Ct g mX11_muleOf (q_Rm 2 0 0) [q_O 11 0, q_I x1, q_I x2, q_I x3] (a, s) (q_kI s post) := by
  refine q_mk rfl rfl (Nat.le_of_ble_eq_true rfl) (q_cs rfl (q_cs rfl (q_cs rfl (q_cs rfl q_nil)))) (fun hv => ?_)
  unfold wp_X11_muleOf at Wq
  refine xe_aload_n dX11_muleOf_0 rfl q_rvO ?_
  refine xe_iconst 0 dX11_muleOf_1 (by decide) ?_
  refine xf_puti dX11_muleOf_2 fX11_1 (fun q hq => Or.inl (by cases hq; rfl)) ⟨rfl, rfl⟩ (fun _ _ => rfl) ?_
  refine xe_aload_n dX11_muleOf_5 rfl q_rvO ?_
  refine xe_iload_n dX11_muleOf_6 rfl ?_
  refine xe_cv (y' := mX11_isString) dX11_muleOf_7 (Or.inl lX11_172) tX11_isString rfl rfl (ct_X11_isString hS Wq) rfl rfl (Nat.le_of_ble_eq_true rfl) ⟨Nat.le_of_ble_eq_true rfl, Nat.le_of_ble_eq_true rfl⟩ ⟨Nat.le_of_ble_eq_true rfl, Nat.le_of_ble_eq_true rfl⟩ (fun v1 h1 hl1 hk1 hm1 => ?_)
  obtain ⟨r7, a7, rfl, rfl, Wq⟩ := hk1
  refine xe_if_eq 22 dX11_muleOf_10 (by decide) (fun c_10 => ?_) (fun c_10 => ?_)
  · replace Wq := Wq.1 c_10
    refine xe_iconst (-1) dX11_muleOf_22 (by decide) ?_
    exact xe_iret .int dX11_muleOf_23 rfl rfl ⟨_, _, rfl, rfl, Wq⟩
  · replace Wq := Wq.2 c_10
    refine xe_iload_n dX11_muleOf_13 rfl ?_
    refine xe_iconst 0 dX11_muleOf_14 (by decide) ?_
    refine xe_iconst 2 dX11_muleOf_15 (by decide) ?_
    refine xe_cs (y' := mX11_within) dX11_muleOf_16 (Or.inl lX11_139) tX11_within (ct_X11_within hS Wq) rfl rfl (Nat.le_of_ble_eq_true rfl) ⟨Nat.le_of_ble_eq_true rfl, Nat.le_of_ble_eq_true rfl⟩ ⟨Nat.le_of_ble_eq_true rfl, Nat.le_of_ble_eq_true rfl⟩ (fun v1 h1 hl1 hk1 hm1 => ?_)
    obtain ⟨r16, a16, rfl, rfl, Wq⟩ := hk1
    refine xe_if_ne 24 dX11_muleOf_19 (by decide) (fun c_19 => ?_) (fun c_19 => ?_)
    · replace Wq := Wq.1 c_19
      refine xe_iconst 3 dX11_muleOf_24 (by decide) ?_
      refine xe_iload_n dX11_muleOf_25 rfl ?_
      refine xe_imul dX11_muleOf_26 ?_
      refine xe_iload_n dX11_muleOf_27 rfl ?_
      refine xe_iadd dX11_muleOf_28 ?_
      refine xe_istore dX11_muleOf_29 (by decide) ?_
      refine xe_iload_n dX11_muleOf_31 rfl ?_
      by_cases e_32_0 : x3 = 0
      · replace Wq := Wq.1 e_32_0
        have e9 := q_toI e_32_0 (show (0 : Int32).toInt = 0 by decide)
        refine xe_swIn 80 dX11_muleOf_32 (by omega) (by omega) (by rw [e9]; rfl) (by decide) ?_
        refine xe_aload_n dX11_muleOf_80 rfl q_rvO ?_
        refine xe_getr dX11_muleOf_81 fX11_48 (fun _ _ => rfl) (q_sg hS rfl) ?_
        refine xe_iload dX11_muleOf_84 rfl ?_
        obtain ⟨hj_86, Wq⟩ := Wq
        refine xe_iald dX11_muleOf_86 rfl hj_86 ?_
        exact xe_iret .int dX11_muleOf_87 rfl rfl ⟨_, _, rfl, rfl, Wq⟩
      by_cases e_32_1 : x3 = 1
      · replace Wq := Wq.2.1 e_32_1
        have e9 := q_toI e_32_1 (show (1 : Int32).toInt = 1 by decide)
        refine xe_swIn 88 dX11_muleOf_32 (by omega) (by omega) (by rw [e9]; rfl) (by decide) ?_
        refine xe_aload_n dX11_muleOf_88 rfl q_rvO ?_
        refine xe_getr dX11_muleOf_89 fX11_51 (fun _ _ => rfl) (q_sg hS rfl) ?_
        refine xe_iload dX11_muleOf_92 rfl ?_
        obtain ⟨hj_94, Wq⟩ := Wq
        refine xe_iald dX11_muleOf_94 rfl hj_94 ?_
        exact xe_iret .int dX11_muleOf_95 rfl rfl ⟨_, _, rfl, rfl, Wq⟩
      by_cases e_32_2 : x3 = 2
      · replace Wq := Wq.2.2.1 e_32_2
        have e9 := q_toI e_32_2 (show (2 : Int32).toInt = 2 by decide)
        refine xe_swIn 96 dX11_muleOf_32 (by omega) (by omega) (by rw [e9]; rfl) (by decide) ?_
        refine xe_aload_n dX11_muleOf_96 rfl q_rvO ?_
        refine xe_getr dX11_muleOf_97 fX11_54 (fun _ _ => rfl) (q_sg hS rfl) ?_
        refine xe_iload dX11_muleOf_100 rfl ?_
        obtain ⟨hj_102, Wq⟩ := Wq
        refine xe_zald dX11_muleOf_102 rfl hj_102 ?_
        refine xe_if_eq 110 dX11_muleOf_103 (by decide) (fun c_103 => ?_) (fun c_103 => ?_)
        · replace Wq := Wq.1 c_103
          refine xe_iconst 0 dX11_muleOf_110 (by decide) ?_
          exact xe_iret .int dX11_muleOf_111 rfl rfl ⟨_, _, rfl, rfl, Wq⟩
        · replace Wq := Wq.2 c_103
          refine xe_iconst 1 dX11_muleOf_106 (by decide) ?_
          refine xe_goto 111 dX11_muleOf_107 (by decide) ?_
          exact xe_iret .int dX11_muleOf_111 rfl rfl ⟨_, _, rfl, rfl, Wq⟩
      by_cases e_32_3 : x3 = 3
      · replace Wq := Wq.2.2.2.1 e_32_3
        have e9 := q_toI e_32_3 (show (3 : Int32).toInt = 3 by decide)
        refine xe_swIn 112 dX11_muleOf_32 (by omega) (by omega) (by rw [e9]; rfl) (by decide) ?_
        refine xe_aload_n dX11_muleOf_112 rfl q_rvO ?_
        refine xe_iload dX11_muleOf_113 rfl ?_
        refine xe_iconst 3 dX11_muleOf_115 (by decide) ?_
        refine xe_cv (y' := mX11_load) dX11_muleOf_116 (Or.inl lX11_178) tX11_load rfl rfl (ct_X11_load hS Wq) rfl rfl (Nat.le_of_ble_eq_true rfl) ⟨Nat.le_of_ble_eq_true rfl, Nat.le_of_ble_eq_true rfl⟩ ⟨Nat.le_of_ble_eq_true rfl, Nat.le_of_ble_eq_true rfl⟩ (fun v1 h1 hl1 hk1 hm1 => ?_)
        obtain ⟨r116, a116, rfl, rfl, Wq⟩ := hk1
        exact xe_iret .int dX11_muleOf_119 rfl rfl ⟨_, _, rfl, rfl, Wq⟩
      by_cases e_32_4 : x3 = 4
      · replace Wq := Wq.2.2.2.2.1 e_32_4
        have e9 := q_toI e_32_4 (show (4 : Int32).toInt = 4 by decide)
        refine xe_swIn 120 dX11_muleOf_32 (by omega) (by omega) (by rw [e9]; rfl) (by decide) ?_
        refine xe_aload_n dX11_muleOf_120 rfl q_rvO ?_
        refine xe_iload dX11_muleOf_121 rfl ?_
        refine xe_iconst 0 dX11_muleOf_123 (by decide) ?_
        refine xe_cv (y' := mX11_load) dX11_muleOf_124 (Or.inl lX11_178) tX11_load rfl rfl (ct_X11_load hS Wq) rfl rfl (Nat.le_of_ble_eq_true rfl) ⟨Nat.le_of_ble_eq_true rfl, Nat.le_of_ble_eq_true rfl⟩ ⟨Nat.le_of_ble_eq_true rfl, Nat.le_of_ble_eq_true rfl⟩ (fun v1 h1 hl1 hk1 hm1 => ?_)
        obtain ⟨r124, a124, rfl, rfl, Wq⟩ := hk1
        exact xe_iret .int dX11_muleOf_127 rfl rfl ⟨_, _, rfl, rfl, Wq⟩
      by_cases e_32_5 : x3 = 5
      · replace Wq := Wq.2.2.2.2.2.1 e_32_5
        have e9 := q_toI e_32_5 (show (5 : Int32).toInt = 5 by decide)
        refine xe_swIn 128 dX11_muleOf_32 (by omega) (by omega) (by rw [e9]; rfl) (by decide) ?_
        refine xe_aload_n dX11_muleOf_128 rfl q_rvO ?_
        refine xe_iload dX11_muleOf_129 rfl ?_
        refine xe_iconst 1 dX11_muleOf_131 (by decide) ?_
        refine xe_cv (y' := mX11_load) dX11_muleOf_132 (Or.inl lX11_178) tX11_load rfl rfl (ct_X11_load hS Wq) rfl rfl (Nat.le_of_ble_eq_true rfl) ⟨Nat.le_of_ble_eq_true rfl, Nat.le_of_ble_eq_true rfl⟩ ⟨Nat.le_of_ble_eq_true rfl, Nat.le_of_ble_eq_true rfl⟩ (fun v1 h1 hl1 hk1 hm1 => ?_)
        obtain ⟨r132, a132, rfl, rfl, Wq⟩ := hk1
        exact xe_iret .int dX11_muleOf_135 rfl rfl ⟨_, _, rfl, rfl, Wq⟩
      by_cases e_32_6 : x3 = 6
      · replace Wq := Wq.2.2.2.2.2.2.1 e_32_6
        have e9 := q_toI e_32_6 (show (6 : Int32).toInt = 6 by decide)
        refine xe_swIn 136 dX11_muleOf_32 (by omega) (by omega) (by rw [e9]; rfl) (by decide) ?_
        refine xe_aload_n dX11_muleOf_136 rfl q_rvO ?_
        refine xe_iload dX11_muleOf_137 rfl ?_
        refine xe_cv (y' := mX11_top) dX11_muleOf_139 (Or.inl lX11_182) tX11_top rfl rfl (ct_X11_top hS Wq) rfl rfl (Nat.le_of_ble_eq_true rfl) ⟨Nat.le_of_ble_eq_true rfl, Nat.le_of_ble_eq_true rfl⟩ ⟨Nat.le_of_ble_eq_true rfl, Nat.le_of_ble_eq_true rfl⟩ (fun v1 h1 hl1 hk1 hm1 => ?_)
        obtain ⟨r139, a139, rfl, rfl, Wq⟩ := hk1
        exact xe_iret .int dX11_muleOf_142 rfl rfl ⟨_, _, rfl, rfl, Wq⟩
      by_cases e_32_7 : x3 = 7
      · replace Wq := Wq.2.2.2.2.2.2.2.1 e_32_7
        have e9 := q_toI e_32_7 (show (7 : Int32).toInt = 7 by decide)
        refine xe_swIn 143 dX11_muleOf_32 (by omega) (by omega) (by rw [e9]; rfl) (by decide) ?_
        refine xe_aload_n dX11_muleOf_143 rfl q_rvO ?_
        refine xe_getr dX11_muleOf_144 fX11_57 (fun _ _ => rfl) (q_sg hS rfl) ?_
        refine xe_iload dX11_muleOf_147 rfl ?_
        obtain ⟨hj_149, Wq⟩ := Wq
        refine xe_iald dX11_muleOf_149 rfl hj_149 ?_
        exact xe_iret .int dX11_muleOf_150 rfl rfl ⟨_, _, rfl, rfl, Wq⟩
      replace Wq := Wq.2.2.2.2.2.2.2.2 e_32_0 e_32_1 e_32_2 e_32_3 e_32_4 e_32_5 e_32_6 e_32_7
      have z_0 := lv_neT e_32_0 (show (0 : Int32).toInt = 0 by decide)
      have z_1 := lv_neT e_32_1 (show (1 : Int32).toInt = 1 by decide)
      have z_2 := lv_neT e_32_2 (show (2 : Int32).toInt = 2 by decide)
      have z_3 := lv_neT e_32_3 (show (3 : Int32).toInt = 3 by decide)
      have z_4 := lv_neT e_32_4 (show (4 : Int32).toInt = 4 by decide)
      have z_5 := lv_neT e_32_5 (show (5 : Int32).toInt = 5 by decide)
      have z_6 := lv_neT e_32_6 (show (6 : Int32).toInt = 6 by decide)
      have z_7 := lv_neT e_32_7 (show (7 : Int32).toInt = 7 by decide)
      refine xe_swOut 151 dX11_muleOf_32 (by omega) (by decide) ?_
      refine xe_iconst (-1) dX11_muleOf_151 (by decide) ?_
      exact xe_iret .int dX11_muleOf_152 rfl rfl ⟨_, _, rfl, rfl, Wq⟩
    · replace Wq := Wq.2 c_19
      refine xe_iconst (-1) dX11_muleOf_22 (by decide) ?_
      exact xe_iret .int dX11_muleOf_23 rfl rfl ⟨_, _, rfl, rfl, Wq⟩
def wl_X11_next_204 (t p : Nat) (J154 : qa → Prop) (post : qa → Prop) : qa → Prop := fun a => J154  (qs a 11 0 43 ((a 11 0 43) + 1))
def wl_X11_next_154 (t p : Nat) (post : qa → Prop) : Nat → qa → Prop
  | 0 => fun _ => False
  | n + 1 => fun a => wp_X11_see t p (a 11 0 43) a (fun r159 a159 => wp_X11_isDigit t p r159 a159 (fun r162 a162 => ((r162 = 0 → ((((a162 11 0 43) - (a162 11 0 44)) ≤ 4 → post (qs a162 11 0 45 2)) ∧ (¬ ((a162 11 0 43) - (a162 11 0 44)) ≤ 4 → post (qs a162 11 0 45 1)))) ∧ (¬ r162 = 0 → ((4 ≤ ((a162 11 0 43) - (a162 11 0 44)) → wl_X11_next_204 t p (wl_X11_next_154 t p post n) post  a162) ∧ (¬ 4 ≤ ((a162 11 0 43) - (a162 11 0 44)) → wp_X11_see t p (a162 11 0 43) a162 (fun r194 a194 => wl_X11_next_204 t p (wl_X11_next_154 t p post n) post  (qs a194 11 0 46 (((10 * (a162 11 0 46)) + r194) - 48)))))))))
def wl_X11_next_104 (t p : Nat) (post : qa → Prop) : Nat → qa → Prop
  | 0 => fun _ => False
  | n + 1 => fun a => wp_X11_see t p (a 11 0 43) a (fun r109 a109 => wp_X11_isSmall t p r109 a109 (fun r112 a112 => ((r112 = 0 → post (qs a112 11 0 45 3)) ∧ (¬ r112 = 0 → (wl_X11_next_104 t p post n)  (qs a112 11 0 43 ((a112 11 0 43) + 1))))))
def wl_X11_next_52 (t p : Nat) (post : qa → Prop) : qa → Prop := fun a => (((a 11 0 43) < (a 11 0 42) → vp_in (a 11 0 43) 400 ∧ wp_X11_isSmall t p (a 71 0 ((a 11 0 43).toNatClampNeg)) (qs (qs a 11 0 44 (a 11 0 43)) 11 0 43 ((a 11 0 43) + 1)) (fun r98 a98 => ((r98 = 0 → wp_X11_isDigit t p (a 71 0 ((a 11 0 43).toNatClampNeg)) a98 (fun r140 a140 => ((r140 = 0 → (((a 71 0 ((a 11 0 43).toNatClampNeg)) = 60 → post (qs (qs a140 11 0 46 (a 71 0 ((a 11 0 43).toNatClampNeg))) 11 0 45 4)) ∧ (¬ (a 71 0 ((a 11 0 43).toNatClampNeg)) = 60 → (((a 71 0 ((a 11 0 43).toNatClampNeg)) = 61 → post (qs (qs a140 11 0 46 (a 71 0 ((a 11 0 43).toNatClampNeg))) 11 0 45 4)) ∧ (¬ (a 71 0 ((a 11 0 43).toNatClampNeg)) = 61 → (((a 71 0 ((a 11 0 43).toNatClampNeg)) = 62 → post (qs (qs a140 11 0 46 (a 71 0 ((a 11 0 43).toNatClampNeg))) 11 0 45 4)) ∧ (¬ (a 71 0 ((a 11 0 43).toNatClampNeg)) = 62 → (((a 71 0 ((a 11 0 43).toNatClampNeg)) = 58 → post (qs (qs a140 11 0 46 (a 71 0 ((a 11 0 43).toNatClampNeg))) 11 0 45 4)) ∧ (¬ (a 71 0 ((a 11 0 43).toNatClampNeg)) = 58 → (((a 71 0 ((a 11 0 43).toNatClampNeg)) = 59 → post (qs (qs a140 11 0 46 (a 71 0 ((a 11 0 43).toNatClampNeg))) 11 0 45 4)) ∧ (¬ (a 71 0 ((a 11 0 43).toNatClampNeg)) = 59 → ((¬ (a 71 0 ((a 11 0 43).toNatClampNeg)) = 45 → post (qs (qs a140 11 0 46 (a 71 0 ((a 11 0 43).toNatClampNeg))) 11 0 45 1)) ∧ ((a 71 0 ((a 11 0 43).toNatClampNeg)) = 45 → post (qs (qs a140 11 0 46 (a 71 0 ((a 11 0 43).toNatClampNeg))) 11 0 45 4)))))))))))))) ∧ (¬ r140 = 0 → ∃ n_154, wl_X11_next_154 t p post n_154 (qs a140 11 0 46 ((a 71 0 ((a 11 0 43).toNatClampNeg)) - 48)))))) ∧ (¬ r98 = 0 → ∃ n_104, wl_X11_next_104 t p post n_104 a98)))) ∧ (¬ (a 11 0 43) < (a 11 0 42) → post (qs (qs a 11 0 44 (a 11 0 43)) 11 0 45 0)))
def wl_X11_next_39 (t p : Nat) (J0 : qa → Prop) (post : qa → Prop) : qa → Prop := fun a => J0  (qs a 11 0 43 ((a 11 0 43) + 1))
def wl_X11_next_0 (t p : Nat) (post : qa → Prop) : Nat → qa → Prop
  | 0 => fun _ => False
  | n + 1 => fun a => (((a 11 0 42) ≤ (a 11 0 43) → wl_X11_next_52 t p post  a) ∧ (¬ (a 11 0 42) ≤ (a 11 0 43) → vp_in (a 11 0 43) 400 ∧ (((a 71 0 ((a 11 0 43).toNatClampNeg)) = 32 → wl_X11_next_39 t p (wl_X11_next_0 t p post n) post  a) ∧ (¬ (a 71 0 ((a 11 0 43).toNatClampNeg)) = 32 → vp_in (a 11 0 43) 400 ∧ ((¬ (a 71 0 ((a 11 0 43).toNatClampNeg)) = 10 → wl_X11_next_52 t p post  a) ∧ ((a 71 0 ((a 11 0 43).toNatClampNeg)) = 10 → wl_X11_next_39 t p (wl_X11_next_0 t p post n) post  a))))))
def wp_X11_next (t p : Nat) (a : qa) (post : qa → Prop) : Prop := ∃ n_0, wl_X11_next_0 t p post n_0 a
set_option maxHeartbeats 4000000 in
theorem el_X11_next_204 {g : q_G} {s : q_S} {t p : Nat} (hS : q_Sh t p s) {post : qa → Prop} {J154 : qa → Prop} (hJ154 : ∀ (a : qa), J154 a → q_E g mX11_next (q_Rm 2 0 0) (q_kV s post) (0, 0) 154 [some (q_O 11 0), none] [] (a, s)) : ∀ (a : qa), wl_X11_next_204 t p J154 post a → q_E g mX11_next (q_Rm 2 0 0) (q_kV s post) (0, 0) 204 [some (q_O 11 0), none] [] (a, s) := by
  intro a Wq
  unfold wl_X11_next_204 at Wq
  refine xe_aload_n dX11_next_204 rfl q_rvO ?_
  refine xe_dup dX11_next_205 rfl ?_
  refine xe_geti dX11_next_206 fX11_233 (fun _ _ => rfl) ?_
  refine xe_iconst 1 dX11_next_209 (by decide) ?_
  refine xe_iadd dX11_next_210 ?_
  refine xf_puti dX11_next_211 fX11_233 (fun q hq => Or.inl (by cases hq; rfl)) ⟨rfl, rfl⟩ (fun _ _ => rfl) ?_
  refine xe_goto 154 dX11_next_214 (by decide) ?_
  refine q_wk (ls := [some (q_O 11 0), none]) ⟨rfl, trivial⟩ ?_
  exact hJ154  _ Wq
set_option maxHeartbeats 4000000 in
theorem el_X11_next_154 {g : q_G} {s : q_S} {t p : Nat} (hS : q_Sh t p s) {post : qa → Prop} : ∀ (n : Nat) (a : qa), wl_X11_next_154 t p post n a → q_E g mX11_next (q_Rm 2 0 0) (q_kV s post) (0, 0) 154 [some (q_O 11 0), none] [] (a, s) := by
  intro n
  induction n with
  | zero =>
    intro a Wq
    exact absurd Wq id
  | succ n ih =>
    intro a Wq
    unfold wl_X11_next_154 at Wq
    refine xe_aload_n dX11_next_154 rfl q_rvO ?_
    refine xe_aload_n dX11_next_155 rfl q_rvO ?_
    refine xe_geti dX11_next_156 fX11_233 (fun _ _ => rfl) ?_
    refine xe_cv (y' := mX11_see) dX11_next_159 (Or.inl lX11_245) tX11_see rfl rfl (ct_X11_see hS Wq) rfl rfl (Nat.le_of_ble_eq_true rfl) ⟨Nat.le_of_ble_eq_true rfl, Nat.le_of_ble_eq_true rfl⟩ ⟨Nat.le_of_ble_eq_true rfl, Nat.le_of_ble_eq_true rfl⟩ (fun v1 h1 hl1 hk1 hm1 => ?_)
    obtain ⟨r159, a159, rfl, rfl, Wq⟩ := hk1
    refine xe_cs (y' := mX11_isDigit) dX11_next_162 (Or.inl lX11_248) tX11_isDigit (ct_X11_isDigit hS Wq) rfl rfl (Nat.le_of_ble_eq_true rfl) ⟨Nat.le_of_ble_eq_true rfl, Nat.le_of_ble_eq_true rfl⟩ ⟨Nat.le_of_ble_eq_true rfl, Nat.le_of_ble_eq_true rfl⟩ (fun v1 h1 hl1 hk1 hm1 => ?_)
    obtain ⟨r162, a162, rfl, rfl, Wq⟩ := hk1
    refine xe_if_eq 217 dX11_next_165 (by decide) (fun c_165 => ?_) (fun c_165 => ?_)
    · replace Wq := Wq.1 c_165
      refine xe_aload_n dX11_next_217 rfl q_rvO ?_
      refine xe_aload_n dX11_next_218 rfl q_rvO ?_
      refine xe_geti dX11_next_219 fX11_233 (fun _ _ => rfl) ?_
      refine xe_aload_n dX11_next_222 rfl q_rvO ?_
      refine xe_geti dX11_next_223 fX11_236 (fun _ _ => rfl) ?_
      refine xe_isub dX11_next_226 ?_
      refine xe_iconst 4 dX11_next_227 (by decide) ?_
      refine xe_ic_le 235 dX11_next_228 (by decide) (fun c_228 => ?_) (fun c_228 => ?_)
      · replace Wq := Wq.1 c_228
        refine xe_iconst 2 dX11_next_235 (by decide) ?_
        refine xf_puti dX11_next_236 fX11_239 (fun q hq => Or.inl (by cases hq; rfl)) ⟨rfl, rfl⟩ (fun _ _ => rfl) ?_
        refine xe_goto 292 dX11_next_239 (by decide) ?_
        exact xe_vret dX11_next_292 rfl ⟨_, rfl, rfl, Wq⟩
      · replace Wq := Wq.2 c_228
        refine xe_iconst 1 dX11_next_231 (by decide) ?_
        refine xe_goto 236 dX11_next_232 (by decide) ?_
        refine xf_puti dX11_next_236 fX11_239 (fun q hq => Or.inl (by cases hq; rfl)) ⟨rfl, rfl⟩ (fun _ _ => rfl) ?_
        refine xe_goto 292 dX11_next_239 (by decide) ?_
        exact xe_vret dX11_next_292 rfl ⟨_, rfl, rfl, Wq⟩
    · replace Wq := Wq.2 c_165
      refine xe_aload_n dX11_next_168 rfl q_rvO ?_
      refine xe_geti dX11_next_169 fX11_233 (fun _ _ => rfl) ?_
      refine xe_aload_n dX11_next_172 rfl q_rvO ?_
      refine xe_geti dX11_next_173 fX11_236 (fun _ _ => rfl) ?_
      refine xe_isub dX11_next_176 ?_
      refine xe_iconst 4 dX11_next_177 (by decide) ?_
      refine xe_ic_ge 204 dX11_next_178 (by decide) (fun c_178 => ?_) (fun c_178 => ?_)
      · replace Wq := Wq.1 c_178
        refine q_wk (ls := [some (q_O 11 0), none]) ⟨rfl, trivial⟩ ?_
        exact el_X11_next_204 hS ih  _ Wq
      · replace Wq := Wq.2 c_178
        refine xe_aload_n dX11_next_181 rfl q_rvO ?_
        refine xe_bipush 10 dX11_next_182 (by decide) ?_
        refine xe_aload_n dX11_next_184 rfl q_rvO ?_
        refine xe_geti dX11_next_185 fX11_251 (fun _ _ => rfl) ?_
        refine xe_imul dX11_next_188 ?_
        refine xe_aload_n dX11_next_189 rfl q_rvO ?_
        refine xe_aload_n dX11_next_190 rfl q_rvO ?_
        refine xe_geti dX11_next_191 fX11_233 (fun _ _ => rfl) ?_
        refine xe_cv (y' := mX11_see) dX11_next_194 (Or.inl lX11_245) tX11_see rfl rfl (ct_X11_see hS Wq) rfl rfl (Nat.le_of_ble_eq_true rfl) ⟨Nat.le_of_ble_eq_true rfl, Nat.le_of_ble_eq_true rfl⟩ ⟨Nat.le_of_ble_eq_true rfl, Nat.le_of_ble_eq_true rfl⟩ (fun v1 h1 hl1 hk1 hm1 => ?_)
        obtain ⟨r194, a194, rfl, rfl, Wq⟩ := hk1
        refine xe_iadd dX11_next_197 ?_
        refine xe_bipush 48 dX11_next_198 (by decide) ?_
        refine xe_isub dX11_next_200 ?_
        refine xf_puti dX11_next_201 fX11_251 (fun q hq => Or.inl (by cases hq; rfl)) ⟨rfl, rfl⟩ (fun _ _ => rfl) ?_
        refine q_wk (ls := [some (q_O 11 0), none]) ⟨rfl, trivial⟩ ?_
        exact el_X11_next_204 hS ih  _ Wq
set_option maxHeartbeats 4000000 in
theorem el_X11_next_104 {g : q_G} {s : q_S} {t p : Nat} (hS : q_Sh t p s) {post : qa → Prop} : ∀ (n : Nat) (a : qa), wl_X11_next_104 t p post n a → q_E g mX11_next (q_Rm 2 0 0) (q_kV s post) (0, 0) 104 [some (q_O 11 0), none] [] (a, s) := by
  intro n
  induction n with
  | zero =>
    intro a Wq
    exact absurd Wq id
  | succ n ih =>
    intro a Wq
    unfold wl_X11_next_104 at Wq
    refine xe_aload_n dX11_next_104 rfl q_rvO ?_
    refine xe_aload_n dX11_next_105 rfl q_rvO ?_
    refine xe_geti dX11_next_106 fX11_233 (fun _ _ => rfl) ?_
    refine xe_cv (y' := mX11_see) dX11_next_109 (Or.inl lX11_245) tX11_see rfl rfl (ct_X11_see hS Wq) rfl rfl (Nat.le_of_ble_eq_true rfl) ⟨Nat.le_of_ble_eq_true rfl, Nat.le_of_ble_eq_true rfl⟩ ⟨Nat.le_of_ble_eq_true rfl, Nat.le_of_ble_eq_true rfl⟩ (fun v1 h1 hl1 hk1 hm1 => ?_)
    obtain ⟨r109, a109, rfl, rfl, Wq⟩ := hk1
    refine xe_cs (y' := mX11_isSmall) dX11_next_112 (Or.inl lX11_242) tX11_isSmall (ct_X11_isSmall hS Wq) rfl rfl (Nat.le_of_ble_eq_true rfl) ⟨Nat.le_of_ble_eq_true rfl, Nat.le_of_ble_eq_true rfl⟩ ⟨Nat.le_of_ble_eq_true rfl, Nat.le_of_ble_eq_true rfl⟩ (fun v1 h1 hl1 hk1 hm1 => ?_)
    obtain ⟨r112, a112, rfl, rfl, Wq⟩ := hk1
    refine xe_if_eq 131 dX11_next_115 (by decide) (fun c_115 => ?_) (fun c_115 => ?_)
    · replace Wq := Wq.1 c_115
      refine xe_aload_n dX11_next_131 rfl q_rvO ?_
      refine xe_iconst 3 dX11_next_132 (by decide) ?_
      refine xf_puti dX11_next_133 fX11_239 (fun q hq => Or.inl (by cases hq; rfl)) ⟨rfl, rfl⟩ (fun _ _ => rfl) ?_
      refine xe_goto 292 dX11_next_136 (by decide) ?_
      exact xe_vret dX11_next_292 rfl ⟨_, rfl, rfl, Wq⟩
    · replace Wq := Wq.2 c_115
      refine xe_aload_n dX11_next_118 rfl q_rvO ?_
      refine xe_dup dX11_next_119 rfl ?_
      refine xe_geti dX11_next_120 fX11_233 (fun _ _ => rfl) ?_
      refine xe_iconst 1 dX11_next_123 (by decide) ?_
      refine xe_iadd dX11_next_124 ?_
      refine xf_puti dX11_next_125 fX11_233 (fun q hq => Or.inl (by cases hq; rfl)) ⟨rfl, rfl⟩ (fun _ _ => rfl) ?_
      refine xe_goto 104 dX11_next_128 (by decide) ?_
      refine q_wk (ls := [some (q_O 11 0), none]) ⟨rfl, trivial⟩ ?_
      exact ih  _ Wq
set_option maxHeartbeats 4000000 in
theorem el_X11_next_52 {g : q_G} {s : q_S} {t p : Nat} (hS : q_Sh t p s) {post : qa → Prop} : ∀ (a : qa), wl_X11_next_52 t p post a → q_E g mX11_next (q_Rm 2 0 0) (q_kV s post) (0, 0) 52 [some (q_O 11 0), none] [] (a, s) := by
  intro a Wq
  unfold wl_X11_next_52 at Wq
  refine xe_aload_n dX11_next_52 rfl q_rvO ?_
  refine xe_aload_n dX11_next_53 rfl q_rvO ?_
  refine xe_geti dX11_next_54 fX11_233 (fun _ _ => rfl) ?_
  refine xf_puti dX11_next_57 fX11_236 (fun q hq => Or.inl (by cases hq; rfl)) ⟨rfl, rfl⟩ (fun _ _ => rfl) ?_
  refine xe_aload_n dX11_next_60 rfl q_rvO ?_
  refine xe_geti dX11_next_61 fX11_233 (fun _ _ => rfl) ?_
  refine xe_aload_n dX11_next_64 rfl q_rvO ?_
  refine xe_geti dX11_next_65 fX11_230 (fun _ _ => rfl) ?_
  refine xe_ic_lt 77 dX11_next_68 (by decide) (fun c_68 => ?_) (fun c_68 => ?_)
  · replace Wq := Wq.1 c_68
    refine xe_aload_n dX11_next_77 rfl q_rvO ?_
    refine xe_getr dX11_next_78 fX11_108 (fun _ _ => rfl) (q_sg hS rfl) ?_
    refine xe_aload_n dX11_next_81 rfl q_rvO ?_
    refine xe_geti dX11_next_82 fX11_233 (fun _ _ => rfl) ?_
    obtain ⟨hj_85, Wq⟩ := Wq
    refine xe_bald dX11_next_85 rfl hj_85 ?_
    refine xe_istore_n dX11_next_86 (by decide) ?_
    refine xe_aload_n dX11_next_87 rfl q_rvO ?_
    refine xe_dup dX11_next_88 rfl ?_
    refine xe_geti dX11_next_89 fX11_233 (fun _ _ => rfl) ?_
    refine xe_iconst 1 dX11_next_92 (by decide) ?_
    refine xe_iadd dX11_next_93 ?_
    refine xf_puti dX11_next_94 fX11_233 (fun q hq => Or.inl (by cases hq; rfl)) ⟨rfl, rfl⟩ (fun _ _ => rfl) ?_
    refine xe_iload_n dX11_next_97 rfl ?_
    refine xe_cs (y' := mX11_isSmall) dX11_next_98 (Or.inl lX11_242) tX11_isSmall (ct_X11_isSmall hS Wq) rfl rfl (Nat.le_of_ble_eq_true rfl) ⟨Nat.le_of_ble_eq_true rfl, Nat.le_of_ble_eq_true rfl⟩ ⟨Nat.le_of_ble_eq_true rfl, Nat.le_of_ble_eq_true rfl⟩ (fun v1 h1 hl1 hk1 hm1 => ?_)
    obtain ⟨r98, a98, rfl, rfl, Wq⟩ := hk1
    refine xe_if_eq 139 dX11_next_101 (by decide) (fun c_101 => ?_) (fun c_101 => ?_)
    · replace Wq := Wq.1 c_101
      refine xe_iload_n dX11_next_139 rfl ?_
      refine xe_cs (y' := mX11_isDigit) dX11_next_140 (Or.inl lX11_248) tX11_isDigit (ct_X11_isDigit hS Wq) rfl rfl (Nat.le_of_ble_eq_true rfl) ⟨Nat.le_of_ble_eq_true rfl, Nat.le_of_ble_eq_true rfl⟩ ⟨Nat.le_of_ble_eq_true rfl, Nat.le_of_ble_eq_true rfl⟩ (fun v1 h1 hl1 hk1 hm1 => ?_)
      obtain ⟨r140, a140, rfl, rfl, Wq⟩ := hk1
      refine xe_if_eq 242 dX11_next_143 (by decide) (fun c_143 => ?_) (fun c_143 => ?_)
      · replace Wq := Wq.1 c_143
        refine xe_aload_n dX11_next_242 rfl q_rvO ?_
        refine xe_iload_n dX11_next_243 rfl ?_
        refine xf_puti dX11_next_244 fX11_251 (fun q hq => Or.inl (by cases hq; rfl)) ⟨rfl, rfl⟩ (fun _ _ => rfl) ?_
        refine xe_aload_n dX11_next_247 rfl q_rvO ?_
        refine xe_iload_n dX11_next_248 rfl ?_
        refine xe_bipush 60 dX11_next_249 (by decide) ?_
        refine xe_ic_eq 284 dX11_next_251 (by decide) (fun c_251 => ?_) (fun c_251 => ?_)
        · replace Wq := Wq.1 c_251
          refine xe_iconst 4 dX11_next_284 (by decide) ?_
          refine xe_goto 289 dX11_next_285 (by decide) ?_
          refine xf_puti dX11_next_289 fX11_239 (fun q hq => Or.inl (by cases hq; rfl)) ⟨rfl, rfl⟩ (fun _ _ => rfl) ?_
          exact xe_vret dX11_next_292 rfl ⟨_, rfl, rfl, Wq⟩
        · replace Wq := Wq.2 c_251
          refine xe_iload_n dX11_next_254 rfl ?_
          refine xe_bipush 61 dX11_next_255 (by decide) ?_
          refine xe_ic_eq 284 dX11_next_257 (by decide) (fun c_257 => ?_) (fun c_257 => ?_)
          · replace Wq := Wq.1 c_257
            refine xe_iconst 4 dX11_next_284 (by decide) ?_
            refine xe_goto 289 dX11_next_285 (by decide) ?_
            refine xf_puti dX11_next_289 fX11_239 (fun q hq => Or.inl (by cases hq; rfl)) ⟨rfl, rfl⟩ (fun _ _ => rfl) ?_
            exact xe_vret dX11_next_292 rfl ⟨_, rfl, rfl, Wq⟩
          · replace Wq := Wq.2 c_257
            refine xe_iload_n dX11_next_260 rfl ?_
            refine xe_bipush 62 dX11_next_261 (by decide) ?_
            refine xe_ic_eq 284 dX11_next_263 (by decide) (fun c_263 => ?_) (fun c_263 => ?_)
            · replace Wq := Wq.1 c_263
              refine xe_iconst 4 dX11_next_284 (by decide) ?_
              refine xe_goto 289 dX11_next_285 (by decide) ?_
              refine xf_puti dX11_next_289 fX11_239 (fun q hq => Or.inl (by cases hq; rfl)) ⟨rfl, rfl⟩ (fun _ _ => rfl) ?_
              exact xe_vret dX11_next_292 rfl ⟨_, rfl, rfl, Wq⟩
            · replace Wq := Wq.2 c_263
              refine xe_iload_n dX11_next_266 rfl ?_
              refine xe_bipush 58 dX11_next_267 (by decide) ?_
              refine xe_ic_eq 284 dX11_next_269 (by decide) (fun c_269 => ?_) (fun c_269 => ?_)
              · replace Wq := Wq.1 c_269
                refine xe_iconst 4 dX11_next_284 (by decide) ?_
                refine xe_goto 289 dX11_next_285 (by decide) ?_
                refine xf_puti dX11_next_289 fX11_239 (fun q hq => Or.inl (by cases hq; rfl)) ⟨rfl, rfl⟩ (fun _ _ => rfl) ?_
                exact xe_vret dX11_next_292 rfl ⟨_, rfl, rfl, Wq⟩
              · replace Wq := Wq.2 c_269
                refine xe_iload_n dX11_next_272 rfl ?_
                refine xe_bipush 59 dX11_next_273 (by decide) ?_
                refine xe_ic_eq 284 dX11_next_275 (by decide) (fun c_275 => ?_) (fun c_275 => ?_)
                · replace Wq := Wq.1 c_275
                  refine xe_iconst 4 dX11_next_284 (by decide) ?_
                  refine xe_goto 289 dX11_next_285 (by decide) ?_
                  refine xf_puti dX11_next_289 fX11_239 (fun q hq => Or.inl (by cases hq; rfl)) ⟨rfl, rfl⟩ (fun _ _ => rfl) ?_
                  exact xe_vret dX11_next_292 rfl ⟨_, rfl, rfl, Wq⟩
                · replace Wq := Wq.2 c_275
                  refine xe_iload_n dX11_next_278 rfl ?_
                  refine xe_bipush 45 dX11_next_279 (by decide) ?_
                  refine xe_ic_ne 288 dX11_next_281 (by decide) (fun c_281 => ?_) (fun c_281 => ?_)
                  · replace Wq := Wq.1 c_281
                    refine xe_iconst 1 dX11_next_288 (by decide) ?_
                    refine xf_puti dX11_next_289 fX11_239 (fun q hq => Or.inl (by cases hq; rfl)) ⟨rfl, rfl⟩ (fun _ _ => rfl) ?_
                    exact xe_vret dX11_next_292 rfl ⟨_, rfl, rfl, Wq⟩
                  · replace Wq := Wq.2 c_281
                    refine xe_iconst 4 dX11_next_284 (by decide) ?_
                    refine xe_goto 289 dX11_next_285 (by decide) ?_
                    refine xf_puti dX11_next_289 fX11_239 (fun q hq => Or.inl (by cases hq; rfl)) ⟨rfl, rfl⟩ (fun _ _ => rfl) ?_
                    exact xe_vret dX11_next_292 rfl ⟨_, rfl, rfl, Wq⟩
      · replace Wq := Wq.2 c_143
        refine xe_aload_n dX11_next_146 rfl q_rvO ?_
        refine xe_iload_n dX11_next_147 rfl ?_
        refine xe_bipush 48 dX11_next_148 (by decide) ?_
        refine xe_isub dX11_next_150 ?_
        refine xf_puti dX11_next_151 fX11_251 (fun q hq => Or.inl (by cases hq; rfl)) ⟨rfl, rfl⟩ (fun _ _ => rfl) ?_
        obtain ⟨n_154, Wq⟩ := Wq
        refine q_wk (ls := [some (q_O 11 0), none]) ⟨rfl, trivial⟩ ?_
        exact el_X11_next_154 hS n_154  _ Wq
    · replace Wq := Wq.2 c_101
      obtain ⟨n_104, Wq⟩ := Wq
      refine q_wk (ls := [some (q_O 11 0), none]) ⟨rfl, trivial⟩ ?_
      exact el_X11_next_104 hS n_104  _ Wq
  · replace Wq := Wq.2 c_68
    refine xe_aload_n dX11_next_71 rfl q_rvO ?_
    refine xe_iconst 0 dX11_next_72 (by decide) ?_
    refine xf_puti dX11_next_73 fX11_239 (fun q hq => Or.inl (by cases hq; rfl)) ⟨rfl, rfl⟩ (fun _ _ => rfl) ?_
    exact xe_vret dX11_next_76 rfl ⟨_, rfl, rfl, Wq⟩
set_option maxHeartbeats 4000000 in
theorem el_X11_next_39 {g : q_G} {s : q_S} {t p : Nat} (hS : q_Sh t p s) {post : qa → Prop} {J0 : qa → Prop} (hJ0 : ∀ (a : qa), J0 a → q_E g mX11_next (q_Rm 2 0 0) (q_kV s post) (0, 0) 0 [some (q_O 11 0), none] [] (a, s)) : ∀ (a : qa), wl_X11_next_39 t p J0 post a → q_E g mX11_next (q_Rm 2 0 0) (q_kV s post) (0, 0) 39 [some (q_O 11 0), none] [] (a, s) := by
  intro a Wq
  unfold wl_X11_next_39 at Wq
  refine xe_aload_n dX11_next_39 rfl q_rvO ?_
  refine xe_dup dX11_next_40 rfl ?_
  refine xe_geti dX11_next_41 fX11_233 (fun _ _ => rfl) ?_
  refine xe_iconst 1 dX11_next_44 (by decide) ?_
  refine xe_iadd dX11_next_45 ?_
  refine xf_puti dX11_next_46 fX11_233 (fun q hq => Or.inl (by cases hq; rfl)) ⟨rfl, rfl⟩ (fun _ _ => rfl) ?_
  refine xe_goto 0 dX11_next_49 (by decide) ?_
  refine q_wk (ls := [some (q_O 11 0), none]) ⟨rfl, trivial⟩ ?_
  exact hJ0  _ Wq
set_option maxHeartbeats 4000000 in
theorem el_X11_next_0 {g : q_G} {s : q_S} {t p : Nat} (hS : q_Sh t p s) {post : qa → Prop} : ∀ (n : Nat) (a : qa), wl_X11_next_0 t p post n a → q_E g mX11_next (q_Rm 2 0 0) (q_kV s post) (0, 0) 0 [some (q_O 11 0), none] [] (a, s) := by
  intro n
  induction n with
  | zero =>
    intro a Wq
    exact absurd Wq id
  | succ n ih =>
    intro a Wq
    unfold wl_X11_next_0 at Wq
    refine xe_aload_n dX11_next_0 rfl q_rvO ?_
    refine xe_geti dX11_next_1 fX11_233 (fun _ _ => rfl) ?_
    refine xe_aload_n dX11_next_4 rfl q_rvO ?_
    refine xe_geti dX11_next_5 fX11_230 (fun _ _ => rfl) ?_
    refine xe_ic_ge 52 dX11_next_8 (by decide) (fun c_8 => ?_) (fun c_8 => ?_)
    · replace Wq := Wq.1 c_8
      refine q_wk (ls := [some (q_O 11 0), none]) ⟨rfl, trivial⟩ ?_
      exact el_X11_next_52 hS  _ Wq
    · replace Wq := Wq.2 c_8
      refine xe_aload_n dX11_next_11 rfl q_rvO ?_
      refine xe_getr dX11_next_12 fX11_108 (fun _ _ => rfl) (q_sg hS rfl) ?_
      refine xe_aload_n dX11_next_15 rfl q_rvO ?_
      refine xe_geti dX11_next_16 fX11_233 (fun _ _ => rfl) ?_
      obtain ⟨hj_19, Wq⟩ := Wq
      refine xe_bald dX11_next_19 rfl hj_19 ?_
      refine xe_bipush 32 dX11_next_20 (by decide) ?_
      refine xe_ic_eq 39 dX11_next_22 (by decide) (fun c_22 => ?_) (fun c_22 => ?_)
      · replace Wq := Wq.1 c_22
        refine q_wk (ls := [some (q_O 11 0), none]) ⟨rfl, trivial⟩ ?_
        exact el_X11_next_39 hS ih  _ Wq
      · replace Wq := Wq.2 c_22
        refine xe_aload_n dX11_next_25 rfl q_rvO ?_
        refine xe_getr dX11_next_26 fX11_108 (fun _ _ => rfl) (q_sg hS rfl) ?_
        refine xe_aload_n dX11_next_29 rfl q_rvO ?_
        refine xe_geti dX11_next_30 fX11_233 (fun _ _ => rfl) ?_
        obtain ⟨hj_33, Wq⟩ := Wq
        refine xe_bald dX11_next_33 rfl hj_33 ?_
        refine xe_bipush 10 dX11_next_34 (by decide) ?_
        refine xe_ic_ne 52 dX11_next_36 (by decide) (fun c_36 => ?_) (fun c_36 => ?_)
        · replace Wq := Wq.1 c_36
          refine q_wk (ls := [some (q_O 11 0), none]) ⟨rfl, trivial⟩ ?_
          exact el_X11_next_52 hS  _ Wq
        · replace Wq := Wq.2 c_36
          refine q_wk (ls := [some (q_O 11 0), none]) ⟨rfl, trivial⟩ ?_
          exact el_X11_next_39 hS ih  _ Wq
set_option maxHeartbeats 4000000 in
theorem ct_X11_next {g : q_G} {s : q_S} {t p : Nat} (hS : q_Sh t p s) {a : qa} {post : qa → Prop} (Wq : wp_X11_next t p  a post) : q_Ct g mX11_next (q_Rm 2 0 0) [q_O 11 0] (a, s) (q_kV s post) := by
  refine q_mk rfl rfl (Nat.le_of_ble_eq_true rfl) (q_cs rfl q_nil) (fun hv => ?_)
  unfold wp_X11_next at Wq
  obtain ⟨n_0, Wq⟩ := Wq
  refine q_wk (ls := [some (q_O 11 0), none]) ⟨rfl, trivial⟩ ?_
  exact el_X11_next_0 hS n_0  _ Wq
def wp_X11_of (t p : Nat) (x1 : Int32) (x2 : Int32) (a : qa) (post : Int32 → qa → Prop) : Prop := wp_X11_isPack t p x1 (qs a 11 0 0 0) (fun r7 a7 => ((¬ r7 = 0 → ((x2 = 0 → vp_in x1 100 ∧ post (a7 55 0 x1.toNatClampNeg) a7) ∧ (x2 = 1 → vp_in x1 100 ∧ post (a7 56 0 x1.toNatClampNeg) a7) ∧ (x2 = 2 → vp_in x1 100 ∧ post (a7 57 0 x1.toNatClampNeg) a7) ∧ (x2 = 3 → vp_in x1 100 ∧ post (a7 58 0 x1.toNatClampNeg) a7) ∧ (x2 = 4 → vp_in x1 100 ∧ ((¬ (a7 58 0 x1.toNatClampNeg) = 1 → vp_in x1 100 ∧ post (a7 59 0 x1.toNatClampNeg) a7) ∧ ((a7 58 0 x1.toNatClampNeg) = 1 → vp_in x1 100 ∧ post ((a7 60 0 x1.toNatClampNeg) / 3) a7))) ∧ (x2 = 5 → vp_in x1 100 ∧ post (a7 62 0 x1.toNatClampNeg) a7) ∧ (x2 = 6 → vp_in x1 100 ∧ post (a7 64 0 x1.toNatClampNeg) a7) ∧ (x2 = 7 → wp_X11_bargainOf t p x1 a7 (fun r136 a136 => post r136 a136)) ∧ (¬ x2 = 0 → ¬ x2 = 1 → ¬ x2 = 2 → ¬ x2 = 3 → ¬ x2 = 4 → ¬ x2 = 5 → ¬ x2 = 6 → ¬ x2 = 7 → post (-1) a7))) ∧ (r7 = 0 → post (-1) a7)))
set_option maxHeartbeats 4000000 in
theorem ct_X11_of {g : q_G} {s : q_S} {t p : Nat} (hS : q_Sh t p s) {x1 : Int32} {x2 : Int32} {a : qa} {post : Int32 → qa → Prop} (Wq : wp_X11_of t p x1 x2 a post) : q_Ct g mX11_of (q_Rm 2 0 0) [q_O 11 0, q_I x1, q_I x2] (a, s) (q_kI s post) := by
  refine q_mk rfl rfl (Nat.le_of_ble_eq_true rfl) (q_cs rfl (q_cs rfl (q_cs rfl q_nil))) (fun hv => ?_)
  unfold wp_X11_of at Wq
  refine xe_aload_n dX11_of_0 rfl q_rvO ?_
  refine xe_iconst 0 dX11_of_1 (by decide) ?_
  refine xf_puti dX11_of_2 fX11_1 (fun q hq => Or.inl (by cases hq; rfl)) ⟨rfl, rfl⟩ (fun _ _ => rfl) ?_
  refine xe_aload_n dX11_of_5 rfl q_rvO ?_
  refine xe_iload_n dX11_of_6 rfl ?_
  refine xe_cv (y' := mX11_isPack) dX11_of_7 (Or.inl lX11_175) tX11_isPack rfl rfl (ct_X11_isPack hS Wq) rfl rfl (Nat.le_of_ble_eq_true rfl) ⟨Nat.le_of_ble_eq_true rfl, Nat.le_of_ble_eq_true rfl⟩ ⟨Nat.le_of_ble_eq_true rfl, Nat.le_of_ble_eq_true rfl⟩ (fun v1 h1 hl1 hk1 hm1 => ?_)
  obtain ⟨r7, a7, rfl, rfl, Wq⟩ := hk1
  refine xe_if_ne 15 dX11_of_10 (by decide) (fun c_10 => ?_) (fun c_10 => ?_)
  · replace Wq := Wq.1 c_10
    refine xe_iload_n dX11_of_15 rfl ?_
    by_cases e_16_0 : x2 = 0
    · replace Wq := Wq.1 e_16_0
      have e9 := q_toI e_16_0 (show (0 : Int32).toInt = 0 by decide)
      refine xe_swIn 64 dX11_of_16 (by omega) (by omega) (by rw [e9]; rfl) (by decide) ?_
      refine xe_aload_n dX11_of_64 rfl q_rvO ?_
      refine xe_getr dX11_of_65 fX11_60 (fun _ _ => rfl) (q_sg hS rfl) ?_
      refine xe_iload_n dX11_of_68 rfl ?_
      obtain ⟨hj_69, Wq⟩ := Wq
      refine xe_iald dX11_of_69 rfl hj_69 ?_
      exact xe_iret .int dX11_of_70 rfl rfl ⟨_, _, rfl, rfl, Wq⟩
    by_cases e_16_1 : x2 = 1
    · replace Wq := Wq.2.1 e_16_1
      have e9 := q_toI e_16_1 (show (1 : Int32).toInt = 1 by decide)
      refine xe_swIn 71 dX11_of_16 (by omega) (by omega) (by rw [e9]; rfl) (by decide) ?_
      refine xe_aload_n dX11_of_71 rfl q_rvO ?_
      refine xe_getr dX11_of_72 fX11_63 (fun _ _ => rfl) (q_sg hS rfl) ?_
      refine xe_iload_n dX11_of_75 rfl ?_
      obtain ⟨hj_76, Wq⟩ := Wq
      refine xe_iald dX11_of_76 rfl hj_76 ?_
      exact xe_iret .int dX11_of_77 rfl rfl ⟨_, _, rfl, rfl, Wq⟩
    by_cases e_16_2 : x2 = 2
    · replace Wq := Wq.2.2.1 e_16_2
      have e9 := q_toI e_16_2 (show (2 : Int32).toInt = 2 by decide)
      refine xe_swIn 78 dX11_of_16 (by omega) (by omega) (by rw [e9]; rfl) (by decide) ?_
      refine xe_aload_n dX11_of_78 rfl q_rvO ?_
      refine xe_getr dX11_of_79 fX11_66 (fun _ _ => rfl) (q_sg hS rfl) ?_
      refine xe_iload_n dX11_of_82 rfl ?_
      obtain ⟨hj_83, Wq⟩ := Wq
      refine xe_iald dX11_of_83 rfl hj_83 ?_
      exact xe_iret .int dX11_of_84 rfl rfl ⟨_, _, rfl, rfl, Wq⟩
    by_cases e_16_3 : x2 = 3
    · replace Wq := Wq.2.2.2.1 e_16_3
      have e9 := q_toI e_16_3 (show (3 : Int32).toInt = 3 by decide)
      refine xe_swIn 85 dX11_of_16 (by omega) (by omega) (by rw [e9]; rfl) (by decide) ?_
      refine xe_aload_n dX11_of_85 rfl q_rvO ?_
      refine xe_getr dX11_of_86 fX11_69 (fun _ _ => rfl) (q_sg hS rfl) ?_
      refine xe_iload_n dX11_of_89 rfl ?_
      obtain ⟨hj_90, Wq⟩ := Wq
      refine xe_iald dX11_of_90 rfl hj_90 ?_
      exact xe_iret .int dX11_of_91 rfl rfl ⟨_, _, rfl, rfl, Wq⟩
    by_cases e_16_4 : x2 = 4
    · replace Wq := Wq.2.2.2.2.1 e_16_4
      have e9 := q_toI e_16_4 (show (4 : Int32).toInt = 4 by decide)
      refine xe_swIn 92 dX11_of_16 (by omega) (by omega) (by rw [e9]; rfl) (by decide) ?_
      refine xe_aload_n dX11_of_92 rfl q_rvO ?_
      refine xe_getr dX11_of_93 fX11_69 (fun _ _ => rfl) (q_sg hS rfl) ?_
      refine xe_iload_n dX11_of_96 rfl ?_
      obtain ⟨hj_97, Wq⟩ := Wq
      refine xe_iald dX11_of_97 rfl hj_97 ?_
      refine xe_iconst 1 dX11_of_98 (by decide) ?_
      refine xe_ic_ne 113 dX11_of_99 (by decide) (fun c_99 => ?_) (fun c_99 => ?_)
      · replace Wq := Wq.1 c_99
        refine xe_aload_n dX11_of_113 rfl q_rvO ?_
        refine xe_getr dX11_of_114 fX11_72 (fun _ _ => rfl) (q_sg hS rfl) ?_
        refine xe_iload_n dX11_of_117 rfl ?_
        obtain ⟨hj_118, Wq⟩ := Wq
        refine xe_iald dX11_of_118 rfl hj_118 ?_
        exact xe_iret .int dX11_of_119 rfl rfl ⟨_, _, rfl, rfl, Wq⟩
      · replace Wq := Wq.2 c_99
        refine xe_aload_n dX11_of_102 rfl q_rvO ?_
        refine xe_getr dX11_of_103 fX11_75 (fun _ _ => rfl) (q_sg hS rfl) ?_
        refine xe_iload_n dX11_of_106 rfl ?_
        obtain ⟨hj_107, Wq⟩ := Wq
        refine xe_iald dX11_of_107 rfl hj_107 ?_
        refine xe_iconst 3 dX11_of_108 (by decide) ?_
        refine xe_idiv dX11_of_109 (by decide) ?_
        refine xe_goto 119 dX11_of_110 (by decide) ?_
        exact xe_iret .int dX11_of_119 rfl rfl ⟨_, _, rfl, rfl, Wq⟩
    by_cases e_16_5 : x2 = 5
    · replace Wq := Wq.2.2.2.2.2.1 e_16_5
      have e9 := q_toI e_16_5 (show (5 : Int32).toInt = 5 by decide)
      refine xe_swIn 120 dX11_of_16 (by omega) (by omega) (by rw [e9]; rfl) (by decide) ?_
      refine xe_aload_n dX11_of_120 rfl q_rvO ?_
      refine xe_getr dX11_of_121 fX11_81 (fun _ _ => rfl) (q_sg hS rfl) ?_
      refine xe_iload_n dX11_of_124 rfl ?_
      obtain ⟨hj_125, Wq⟩ := Wq
      refine xe_iald dX11_of_125 rfl hj_125 ?_
      exact xe_iret .int dX11_of_126 rfl rfl ⟨_, _, rfl, rfl, Wq⟩
    by_cases e_16_6 : x2 = 6
    · replace Wq := Wq.2.2.2.2.2.2.1 e_16_6
      have e9 := q_toI e_16_6 (show (6 : Int32).toInt = 6 by decide)
      refine xe_swIn 127 dX11_of_16 (by omega) (by omega) (by rw [e9]; rfl) (by decide) ?_
      refine xe_aload_n dX11_of_127 rfl q_rvO ?_
      refine xe_getr dX11_of_128 fX11_87 (fun _ _ => rfl) (q_sg hS rfl) ?_
      refine xe_iload_n dX11_of_131 rfl ?_
      obtain ⟨hj_132, Wq⟩ := Wq
      refine xe_iald dX11_of_132 rfl hj_132 ?_
      exact xe_iret .int dX11_of_133 rfl rfl ⟨_, _, rfl, rfl, Wq⟩
    by_cases e_16_7 : x2 = 7
    · replace Wq := Wq.2.2.2.2.2.2.2.1 e_16_7
      have e9 := q_toI e_16_7 (show (7 : Int32).toInt = 7 by decide)
      refine xe_swIn 134 dX11_of_16 (by omega) (by omega) (by rw [e9]; rfl) (by decide) ?_
      refine xe_aload_n dX11_of_134 rfl q_rvO ?_
      refine xe_iload_n dX11_of_135 rfl ?_
      refine xe_cv (y' := mX11_bargainOf) dX11_of_136 (Or.inl lX11_319) tX11_bargainOf rfl rfl (ct_X11_bargainOf hS Wq) rfl rfl (Nat.le_of_ble_eq_true rfl) ⟨Nat.le_of_ble_eq_true rfl, Nat.le_of_ble_eq_true rfl⟩ ⟨Nat.le_of_ble_eq_true rfl, Nat.le_of_ble_eq_true rfl⟩ (fun v1 h1 hl1 hk1 hm1 => ?_)
      obtain ⟨r136, a136, rfl, rfl, Wq⟩ := hk1
      exact xe_iret .int dX11_of_139 rfl rfl ⟨_, _, rfl, rfl, Wq⟩
    replace Wq := Wq.2.2.2.2.2.2.2.2 e_16_0 e_16_1 e_16_2 e_16_3 e_16_4 e_16_5 e_16_6 e_16_7
    have z_0 := lv_neT e_16_0 (show (0 : Int32).toInt = 0 by decide)
    have z_1 := lv_neT e_16_1 (show (1 : Int32).toInt = 1 by decide)
    have z_2 := lv_neT e_16_2 (show (2 : Int32).toInt = 2 by decide)
    have z_3 := lv_neT e_16_3 (show (3 : Int32).toInt = 3 by decide)
    have z_4 := lv_neT e_16_4 (show (4 : Int32).toInt = 4 by decide)
    have z_5 := lv_neT e_16_5 (show (5 : Int32).toInt = 5 by decide)
    have z_6 := lv_neT e_16_6 (show (6 : Int32).toInt = 6 by decide)
    have z_7 := lv_neT e_16_7 (show (7 : Int32).toInt = 7 by decide)
    refine xe_swOut 140 dX11_of_16 (by omega) (by decide) ?_
    refine xe_iconst (-1) dX11_of_140 (by decide) ?_
    exact xe_iret .int dX11_of_141 rfl rfl ⟨_, _, rfl, rfl, Wq⟩
  · replace Wq := Wq.2 c_10
    refine xe_iconst (-1) dX11_of_13 (by decide) ?_
    exact xe_iret .int dX11_of_14 rfl rfl ⟨_, _, rfl, rfl, Wq⟩
def wp_X11_pack (t p : Nat) (x1 : Int32) (x2 : Int32) (x3 : Int32) (x4 : Int32) (a : qa) (post : Int32 → qa → Prop) : Prop := wp_X11_isInn t p x1 (qs a 11 0 0 0) (fun r7 a7 => ((r7 = 0 → post (-1) a7) ∧ (¬ r7 = 0 → wp_X11_isInn t p x2 a7 (fun r15 a15 => ((r15 = 0 → post (-1) a15) ∧ (¬ r15 = 0 → ((x1 = x2 → post (-1) a15) ∧ (¬ x1 = x2 → wp_X11_within t p x3 0 3 a15 (fun r29 a29 => ((r29 = 0 → post (-1) a29) ∧ (¬ r29 = 0 → wp_X11_within t p x4 1 60 a29 (fun r40 a40 => ((r40 = 0 → post (-1) a40) ∧ (¬ r40 = 0 → ((¬ (a40 11 0 20) = 100 → vp_in (a40 11 0 20) 100 ∧ vp_in (a40 11 0 20) 100 ∧ vp_in (a40 11 0 20) 100 ∧ vp_in (a40 11 0 20) 100 ∧ vp_in (a40 11 0 20) 100 ∧ vp_in (a40 11 0 20) 100 ∧ vp_in (a40 11 0 20) 100 ∧ wp_X11_change t p (a40 11 0 20) x1 (qs (qs (qs (qs (qs (qs (qs a40 55 0 ((a40 11 0 20).toNatClampNeg) x3) 56 0 ((a40 11 0 20).toNatClampNeg) x4) 57 0 ((a40 11 0 20).toNatClampNeg) x2) 58 0 ((a40 11 0 20).toNatClampNeg) 0) 59 0 ((a40 11 0 20).toNatClampNeg) x1) 62 0 ((a40 11 0 20).toNatClampNeg) (a40 11 0 1)) 64 0 ((a40 11 0 20).toNatClampNeg) 0) (fun a137 => post (((a137 11 0 20) + 1) - 1) (qs a137 11 0 20 ((a137 11 0 20) + 1)))) ∧ ((a40 11 0 20) = 100 → post (-1) a40))))))))))))))))
set_option maxHeartbeats 4000000 in
theorem ct_X11_pack {g : q_G} {s : q_S} {t p : Nat} (hS : q_Sh t p s) {x1 : Int32} {x2 : Int32} {x3 : Int32} {x4 : Int32} {a : qa} {post : Int32 → qa → Prop} (Wq : wp_X11_pack t p x1 x2 x3 x4 a post) : q_Ct g mX11_pack (q_Rm 2 0 0) [q_O 11 0, q_I x1, q_I x2, q_I x3, q_I x4] (a, s) (q_kI s post) := by
  refine q_mk rfl rfl (Nat.le_of_ble_eq_true rfl) (q_cs rfl (q_cs rfl (q_cs rfl (q_cs rfl (q_cs rfl q_nil))))) (fun hv => ?_)
  unfold wp_X11_pack at Wq
  refine xe_aload_n dX11_pack_0 rfl q_rvO ?_
  refine xe_iconst 0 dX11_pack_1 (by decide) ?_
  refine xf_puti dX11_pack_2 fX11_1 (fun q hq => Or.inl (by cases hq; rfl)) ⟨rfl, rfl⟩ (fun _ _ => rfl) ?_
  refine xe_aload_n dX11_pack_5 rfl q_rvO ?_
  refine xe_iload_n dX11_pack_6 rfl ?_
  refine xe_cv (y' := mX11_isInn) dX11_pack_7 (Or.inl lX11_156) tX11_isInn rfl rfl (ct_X11_isInn hS Wq) rfl rfl (Nat.le_of_ble_eq_true rfl) ⟨Nat.le_of_ble_eq_true rfl, Nat.le_of_ble_eq_true rfl⟩ ⟨Nat.le_of_ble_eq_true rfl, Nat.le_of_ble_eq_true rfl⟩ (fun v1 h1 hl1 hk1 hm1 => ?_)
  obtain ⟨r7, a7, rfl, rfl, Wq⟩ := hk1
  refine xe_if_eq 55 dX11_pack_10 (by decide) (fun c_10 => ?_) (fun c_10 => ?_)
  · replace Wq := Wq.1 c_10
    refine xe_iconst (-1) dX11_pack_55 (by decide) ?_
    exact xe_iret .int dX11_pack_56 rfl rfl ⟨_, _, rfl, rfl, Wq⟩
  · replace Wq := Wq.2 c_10
    refine xe_aload_n dX11_pack_13 rfl q_rvO ?_
    refine xe_iload_n dX11_pack_14 rfl ?_
    refine xe_cv (y' := mX11_isInn) dX11_pack_15 (Or.inl lX11_156) tX11_isInn rfl rfl (ct_X11_isInn hS Wq) rfl rfl (Nat.le_of_ble_eq_true rfl) ⟨Nat.le_of_ble_eq_true rfl, Nat.le_of_ble_eq_true rfl⟩ ⟨Nat.le_of_ble_eq_true rfl, Nat.le_of_ble_eq_true rfl⟩ (fun v1 h1 hl1 hk1 hm1 => ?_)
    obtain ⟨r15, a15, rfl, rfl, Wq⟩ := hk1
    refine xe_if_eq 55 dX11_pack_18 (by decide) (fun c_18 => ?_) (fun c_18 => ?_)
    · replace Wq := Wq.1 c_18
      refine xe_iconst (-1) dX11_pack_55 (by decide) ?_
      exact xe_iret .int dX11_pack_56 rfl rfl ⟨_, _, rfl, rfl, Wq⟩
    · replace Wq := Wq.2 c_18
      refine xe_iload_n dX11_pack_21 rfl ?_
      refine xe_iload_n dX11_pack_22 rfl ?_
      refine xe_ic_eq 55 dX11_pack_23 (by decide) (fun c_23 => ?_) (fun c_23 => ?_)
      · replace Wq := Wq.1 c_23
        refine xe_iconst (-1) dX11_pack_55 (by decide) ?_
        exact xe_iret .int dX11_pack_56 rfl rfl ⟨_, _, rfl, rfl, Wq⟩
      · replace Wq := Wq.2 c_23
        refine xe_iload_n dX11_pack_26 rfl ?_
        refine xe_iconst 0 dX11_pack_27 (by decide) ?_
        refine xe_iconst 3 dX11_pack_28 (by decide) ?_
        refine xe_cs (y' := mX11_within) dX11_pack_29 (Or.inl lX11_139) tX11_within (ct_X11_within hS Wq) rfl rfl (Nat.le_of_ble_eq_true rfl) ⟨Nat.le_of_ble_eq_true rfl, Nat.le_of_ble_eq_true rfl⟩ ⟨Nat.le_of_ble_eq_true rfl, Nat.le_of_ble_eq_true rfl⟩ (fun v1 h1 hl1 hk1 hm1 => ?_)
        obtain ⟨r29, a29, rfl, rfl, Wq⟩ := hk1
        refine xe_if_eq 55 dX11_pack_32 (by decide) (fun c_32 => ?_) (fun c_32 => ?_)
        · replace Wq := Wq.1 c_32
          refine xe_iconst (-1) dX11_pack_55 (by decide) ?_
          exact xe_iret .int dX11_pack_56 rfl rfl ⟨_, _, rfl, rfl, Wq⟩
        · replace Wq := Wq.2 c_32
          refine xe_iload dX11_pack_35 rfl ?_
          refine xe_iconst 1 dX11_pack_37 (by decide) ?_
          refine xe_bipush 60 dX11_pack_38 (by decide) ?_
          refine xe_cs (y' := mX11_within) dX11_pack_40 (Or.inl lX11_139) tX11_within (ct_X11_within hS Wq) rfl rfl (Nat.le_of_ble_eq_true rfl) ⟨Nat.le_of_ble_eq_true rfl, Nat.le_of_ble_eq_true rfl⟩ ⟨Nat.le_of_ble_eq_true rfl, Nat.le_of_ble_eq_true rfl⟩ (fun v1 h1 hl1 hk1 hm1 => ?_)
          obtain ⟨r40, a40, rfl, rfl, Wq⟩ := hk1
          refine xe_if_eq 55 dX11_pack_43 (by decide) (fun c_43 => ?_) (fun c_43 => ?_)
          · replace Wq := Wq.1 c_43
            refine xe_iconst (-1) dX11_pack_55 (by decide) ?_
            exact xe_iret .int dX11_pack_56 rfl rfl ⟨_, _, rfl, rfl, Wq⟩
          · replace Wq := Wq.2 c_43
            refine xe_aload_n dX11_pack_46 rfl q_rvO ?_
            refine xe_geti dX11_pack_47 fX11_165 (fun _ _ => rfl) ?_
            refine xe_bipush 100 dX11_pack_50 (by decide) ?_
            refine xe_ic_ne 57 dX11_pack_52 (by decide) (fun c_52 => ?_) (fun c_52 => ?_)
            · replace Wq := Wq.1 c_52
              refine xe_aload_n dX11_pack_57 rfl q_rvO ?_
              refine xe_getr dX11_pack_58 fX11_60 (fun _ _ => rfl) (q_sg hS rfl) ?_
              refine xe_aload_n dX11_pack_61 rfl q_rvO ?_
              refine xe_geti dX11_pack_62 fX11_165 (fun _ _ => rfl) ?_
              refine xe_iload_n dX11_pack_65 rfl ?_
              obtain ⟨hj_66, Wq⟩ := Wq
              refine xf_iast dX11_pack_66 rfl hj_66 ?_
              refine xe_aload_n dX11_pack_67 rfl q_rvO ?_
              refine xe_getr dX11_pack_68 fX11_63 (fun _ _ => rfl) (q_sg hS rfl) ?_
              refine xe_aload_n dX11_pack_71 rfl q_rvO ?_
              refine xe_geti dX11_pack_72 fX11_165 (fun _ _ => rfl) ?_
              refine xe_iload dX11_pack_75 rfl ?_
              obtain ⟨hj_77, Wq⟩ := Wq
              refine xf_iast dX11_pack_77 rfl hj_77 ?_
              refine xe_aload_n dX11_pack_78 rfl q_rvO ?_
              refine xe_getr dX11_pack_79 fX11_66 (fun _ _ => rfl) (q_sg hS rfl) ?_
              refine xe_aload_n dX11_pack_82 rfl q_rvO ?_
              refine xe_geti dX11_pack_83 fX11_165 (fun _ _ => rfl) ?_
              refine xe_iload_n dX11_pack_86 rfl ?_
              obtain ⟨hj_87, Wq⟩ := Wq
              refine xf_iast dX11_pack_87 rfl hj_87 ?_
              refine xe_aload_n dX11_pack_88 rfl q_rvO ?_
              refine xe_getr dX11_pack_89 fX11_69 (fun _ _ => rfl) (q_sg hS rfl) ?_
              refine xe_aload_n dX11_pack_92 rfl q_rvO ?_
              refine xe_geti dX11_pack_93 fX11_165 (fun _ _ => rfl) ?_
              refine xe_iconst 0 dX11_pack_96 (by decide) ?_
              obtain ⟨hj_97, Wq⟩ := Wq
              refine xf_iast dX11_pack_97 rfl hj_97 ?_
              refine xe_aload_n dX11_pack_98 rfl q_rvO ?_
              refine xe_getr dX11_pack_99 fX11_72 (fun _ _ => rfl) (q_sg hS rfl) ?_
              refine xe_aload_n dX11_pack_102 rfl q_rvO ?_
              refine xe_geti dX11_pack_103 fX11_165 (fun _ _ => rfl) ?_
              refine xe_iload_n dX11_pack_106 rfl ?_
              obtain ⟨hj_107, Wq⟩ := Wq
              refine xf_iast dX11_pack_107 rfl hj_107 ?_
              refine xe_aload_n dX11_pack_108 rfl q_rvO ?_
              refine xe_getr dX11_pack_109 fX11_81 (fun _ _ => rfl) (q_sg hS rfl) ?_
              refine xe_aload_n dX11_pack_112 rfl q_rvO ?_
              refine xe_geti dX11_pack_113 fX11_165 (fun _ _ => rfl) ?_
              refine xe_aload_n dX11_pack_116 rfl q_rvO ?_
              refine xe_geti dX11_pack_117 fX11_150 (fun _ _ => rfl) ?_
              obtain ⟨hj_120, Wq⟩ := Wq
              refine xf_iast dX11_pack_120 rfl hj_120 ?_
              refine xe_aload_n dX11_pack_121 rfl q_rvO ?_
              refine xe_getr dX11_pack_122 fX11_87 (fun _ _ => rfl) (q_sg hS rfl) ?_
              refine xe_aload_n dX11_pack_125 rfl q_rvO ?_
              refine xe_geti dX11_pack_126 fX11_165 (fun _ _ => rfl) ?_
              refine xe_iconst 0 dX11_pack_129 (by decide) ?_
              obtain ⟨hj_130, Wq⟩ := Wq
              refine xf_iast dX11_pack_130 rfl hj_130 ?_
              refine xe_aload_n dX11_pack_131 rfl q_rvO ?_
              refine xe_aload_n dX11_pack_132 rfl q_rvO ?_
              refine xe_geti dX11_pack_133 fX11_165 (fun _ _ => rfl) ?_
              refine xe_iload_n dX11_pack_136 rfl ?_
              refine xe_cv (y' := mX11_change) dX11_pack_137 (Or.inl lX11_168) tX11_change rfl rfl (ct_X11_change hS Wq) rfl rfl (Nat.le_of_ble_eq_true rfl) ⟨Nat.le_of_ble_eq_true rfl, Nat.le_of_ble_eq_true rfl⟩ ⟨Nat.le_of_ble_eq_true rfl, Nat.le_of_ble_eq_true rfl⟩ (fun v1 h1 hl1 hk1 hm1 => ?_)
              obtain ⟨a137, rfl, rfl, Wq⟩ := hk1
              refine xe_aload_n dX11_pack_140 rfl q_rvO ?_
              refine xe_dup dX11_pack_141 rfl ?_
              refine xe_geti dX11_pack_142 fX11_165 (fun _ _ => rfl) ?_
              refine xe_iconst 1 dX11_pack_145 (by decide) ?_
              refine xe_iadd dX11_pack_146 ?_
              refine xf_puti dX11_pack_147 fX11_165 (fun q hq => Or.inl (by cases hq; rfl)) ⟨rfl, rfl⟩ (fun _ _ => rfl) ?_
              refine xe_aload_n dX11_pack_150 rfl q_rvO ?_
              refine xe_geti dX11_pack_151 fX11_165 (fun _ _ => rfl) ?_
              refine xe_iconst 1 dX11_pack_154 (by decide) ?_
              refine xe_isub dX11_pack_155 ?_
              exact xe_iret .int dX11_pack_156 rfl rfl ⟨_, _, rfl, rfl, Wq⟩
            · replace Wq := Wq.2 c_52
              refine xe_iconst (-1) dX11_pack_55 (by decide) ?_
              exact xe_iret .int dX11_pack_56 rfl rfl ⟨_, _, rfl, rfl, Wq⟩
def wp_X11_snow (t p : Nat) (x1 : Int32) (x2 : Int32) (x3 : Int32) (a : qa) (post : Int32 → qa → Prop) : Prop := wp_X11_isLeg t p x1 (qs a 11 0 0 0) (fun r7 a7 => ((r7 = 0 → post (-1) a7) ∧ (¬ r7 = 0 → wp_X11_within t p x2 0 9999 a7 (fun r18 a18 => ((r18 = 0 → post (-1) a18) ∧ (¬ r18 = 0 → wp_X11_within t p x3 x2 9999 a18 (fun r29 a29 => ((r29 = 0 → post (-1) a29) ∧ (¬ r29 = 0 → ((¬ (a29 11 0 6) = 60 → vp_in (a29 11 0 6) 60 ∧ vp_in (a29 11 0 6) 60 ∧ vp_in (a29 11 0 6) 60 ∧ vp_in (a29 11 0 6) 60 ∧ post (((a29 11 0 6) + 1) - 1) (qs (qs (qs (qs (qs a29 43 0 ((a29 11 0 6).toNatClampNeg) x1) 44 0 ((a29 11 0 6).toNatClampNeg) x2) 45 0 ((a29 11 0 6).toNatClampNeg) x3) 46 0 ((a29 11 0 6).toNatClampNeg) (a29 11 0 1)) 11 0 6 ((a29 11 0 6) + 1))) ∧ ((a29 11 0 6) = 60 → post (-1) a29)))))))))))
set_option maxHeartbeats 4000000 in
theorem ct_X11_snow {g : q_G} {s : q_S} {t p : Nat} (hS : q_Sh t p s) {x1 : Int32} {x2 : Int32} {x3 : Int32} {a : qa} {post : Int32 → qa → Prop} (Wq : wp_X11_snow t p x1 x2 x3 a post) : q_Ct g mX11_snow (q_Rm 2 0 0) [q_O 11 0, q_I x1, q_I x2, q_I x3] (a, s) (q_kI s post) := by
  refine q_mk rfl rfl (Nat.le_of_ble_eq_true rfl) (q_cs rfl (q_cs rfl (q_cs rfl (q_cs rfl q_nil)))) (fun hv => ?_)
  unfold wp_X11_snow at Wq
  refine xe_aload_n dX11_snow_0 rfl q_rvO ?_
  refine xe_iconst 0 dX11_snow_1 (by decide) ?_
  refine xf_puti dX11_snow_2 fX11_1 (fun q hq => Or.inl (by cases hq; rfl)) ⟨rfl, rfl⟩ (fun _ _ => rfl) ?_
  refine xe_aload_n dX11_snow_5 rfl q_rvO ?_
  refine xe_iload_n dX11_snow_6 rfl ?_
  refine xe_cv (y' := mX11_isLeg) dX11_snow_7 (Or.inl lX11_143) tX11_isLeg rfl rfl (ct_X11_isLeg hS Wq) rfl rfl (Nat.le_of_ble_eq_true rfl) ⟨Nat.le_of_ble_eq_true rfl, Nat.le_of_ble_eq_true rfl⟩ ⟨Nat.le_of_ble_eq_true rfl, Nat.le_of_ble_eq_true rfl⟩ (fun v1 h1 hl1 hk1 hm1 => ?_)
  obtain ⟨r7, a7, rfl, rfl, Wq⟩ := hk1
  refine xe_if_eq 44 dX11_snow_10 (by decide) (fun c_10 => ?_) (fun c_10 => ?_)
  · replace Wq := Wq.1 c_10
    refine xe_iconst (-1) dX11_snow_44 (by decide) ?_
    exact xe_iret .int dX11_snow_45 rfl rfl ⟨_, _, rfl, rfl, Wq⟩
  · replace Wq := Wq.2 c_10
    refine xe_iload_n dX11_snow_13 rfl ?_
    refine xe_iconst 0 dX11_snow_14 (by decide) ?_
    refine xe_sipush 9999 dX11_snow_15 (by decide) ?_
    refine xe_cs (y' := mX11_within) dX11_snow_18 (Or.inl lX11_139) tX11_within (ct_X11_within hS Wq) rfl rfl (Nat.le_of_ble_eq_true rfl) ⟨Nat.le_of_ble_eq_true rfl, Nat.le_of_ble_eq_true rfl⟩ ⟨Nat.le_of_ble_eq_true rfl, Nat.le_of_ble_eq_true rfl⟩ (fun v1 h1 hl1 hk1 hm1 => ?_)
    obtain ⟨r18, a18, rfl, rfl, Wq⟩ := hk1
    refine xe_if_eq 44 dX11_snow_21 (by decide) (fun c_21 => ?_) (fun c_21 => ?_)
    · replace Wq := Wq.1 c_21
      refine xe_iconst (-1) dX11_snow_44 (by decide) ?_
      exact xe_iret .int dX11_snow_45 rfl rfl ⟨_, _, rfl, rfl, Wq⟩
    · replace Wq := Wq.2 c_21
      refine xe_iload_n dX11_snow_24 rfl ?_
      refine xe_iload_n dX11_snow_25 rfl ?_
      refine xe_sipush 9999 dX11_snow_26 (by decide) ?_
      refine xe_cs (y' := mX11_within) dX11_snow_29 (Or.inl lX11_139) tX11_within (ct_X11_within hS Wq) rfl rfl (Nat.le_of_ble_eq_true rfl) ⟨Nat.le_of_ble_eq_true rfl, Nat.le_of_ble_eq_true rfl⟩ ⟨Nat.le_of_ble_eq_true rfl, Nat.le_of_ble_eq_true rfl⟩ (fun v1 h1 hl1 hk1 hm1 => ?_)
      obtain ⟨r29, a29, rfl, rfl, Wq⟩ := hk1
      refine xe_if_eq 44 dX11_snow_32 (by decide) (fun c_32 => ?_) (fun c_32 => ?_)
      · replace Wq := Wq.1 c_32
        refine xe_iconst (-1) dX11_snow_44 (by decide) ?_
        exact xe_iret .int dX11_snow_45 rfl rfl ⟨_, _, rfl, rfl, Wq⟩
      · replace Wq := Wq.2 c_32
        refine xe_aload_n dX11_snow_35 rfl q_rvO ?_
        refine xe_geti dX11_snow_36 fX11_147 (fun _ _ => rfl) ?_
        refine xe_bipush 60 dX11_snow_39 (by decide) ?_
        refine xe_ic_ne 46 dX11_snow_41 (by decide) (fun c_41 => ?_) (fun c_41 => ?_)
        · replace Wq := Wq.1 c_41
          refine xe_aload_n dX11_snow_46 rfl q_rvO ?_
          refine xe_getr dX11_snow_47 fX11_24 (fun _ _ => rfl) (q_sg hS rfl) ?_
          refine xe_aload_n dX11_snow_50 rfl q_rvO ?_
          refine xe_geti dX11_snow_51 fX11_147 (fun _ _ => rfl) ?_
          refine xe_iload_n dX11_snow_54 rfl ?_
          obtain ⟨hj_55, Wq⟩ := Wq
          refine xf_iast dX11_snow_55 rfl hj_55 ?_
          refine xe_aload_n dX11_snow_56 rfl q_rvO ?_
          refine xe_getr dX11_snow_57 fX11_27 (fun _ _ => rfl) (q_sg hS rfl) ?_
          refine xe_aload_n dX11_snow_60 rfl q_rvO ?_
          refine xe_geti dX11_snow_61 fX11_147 (fun _ _ => rfl) ?_
          refine xe_iload_n dX11_snow_64 rfl ?_
          obtain ⟨hj_65, Wq⟩ := Wq
          refine xf_iast dX11_snow_65 rfl hj_65 ?_
          refine xe_aload_n dX11_snow_66 rfl q_rvO ?_
          refine xe_getr dX11_snow_67 fX11_30 (fun _ _ => rfl) (q_sg hS rfl) ?_
          refine xe_aload_n dX11_snow_70 rfl q_rvO ?_
          refine xe_geti dX11_snow_71 fX11_147 (fun _ _ => rfl) ?_
          refine xe_iload_n dX11_snow_74 rfl ?_
          obtain ⟨hj_75, Wq⟩ := Wq
          refine xf_iast dX11_snow_75 rfl hj_75 ?_
          refine xe_aload_n dX11_snow_76 rfl q_rvO ?_
          refine xe_getr dX11_snow_77 fX11_33 (fun _ _ => rfl) (q_sg hS rfl) ?_
          refine xe_aload_n dX11_snow_80 rfl q_rvO ?_
          refine xe_geti dX11_snow_81 fX11_147 (fun _ _ => rfl) ?_
          refine xe_aload_n dX11_snow_84 rfl q_rvO ?_
          refine xe_geti dX11_snow_85 fX11_150 (fun _ _ => rfl) ?_
          obtain ⟨hj_88, Wq⟩ := Wq
          refine xf_iast dX11_snow_88 rfl hj_88 ?_
          refine xe_aload_n dX11_snow_89 rfl q_rvO ?_
          refine xe_dup dX11_snow_90 rfl ?_
          refine xe_geti dX11_snow_91 fX11_147 (fun _ _ => rfl) ?_
          refine xe_iconst 1 dX11_snow_94 (by decide) ?_
          refine xe_iadd dX11_snow_95 ?_
          refine xf_puti dX11_snow_96 fX11_147 (fun q hq => Or.inl (by cases hq; rfl)) ⟨rfl, rfl⟩ (fun _ _ => rfl) ?_
          refine xe_aload_n dX11_snow_99 rfl q_rvO ?_
          refine xe_geti dX11_snow_100 fX11_147 (fun _ _ => rfl) ?_
          refine xe_iconst 1 dX11_snow_103 (by decide) ?_
          refine xe_isub dX11_snow_104 ?_
          exact xe_iret .int dX11_snow_105 rfl rfl ⟨_, _, rfl, rfl, Wq⟩
        · replace Wq := Wq.2 c_41
          refine xe_iconst (-1) dX11_snow_44 (by decide) ?_
          exact xe_iret .int dX11_snow_45 rfl rfl ⟨_, _, rfl, rfl, Wq⟩
def wl_X11_string_124 (t p : Nat) (J80 : Int32 → Int32 → Int32 → Int32 → qa → Prop) (post : Int32 → qa → Prop) : Int32 → Int32 → Int32 → Int32 → Int32 → Int32 → Int32 → qa → Prop := fun x2 x3 x4 x5 x6 y1 y2 a => vp_in y1 12 ∧ vp_in x6 12 ∧ vp_in x6 12 ∧ vp_in x6 12 ∧ (J80 x2 x3 x4 (x5 + 1) (qs (qs (qs (qs a 51 0 y1.toNatClampNeg y2) 52 0 x6.toNatClampNeg 0) 53 0 x6.toNatClampNeg (vp_nar .boolean 0)) 54 0 x6.toNatClampNeg (-1)))
def wl_X11_string_80 (t p : Nat) (post : Int32 → qa → Prop) : Nat → Int32 → Int32 → Int32 → Int32 → qa → Prop
  | 0 => fun _ _ _ _ _ => False
  | n + 1 => fun x2 x3 x4 x5 a => ((3 ≤ x5 → post (((a 11 0 11) + 1) - 1) (qs a 11 0 11 ((a 11 0 11) + 1))) ∧ (¬ 3 ≤ x5 → ((¬ x5 = 0 → ((¬ x5 = 1 → wl_X11_string_124 t p (wl_X11_string_80 t p post n) post x2 x3 x4 x5 ((3 * (a 11 0 11)) + x5) ((3 * (a 11 0 11)) + x5) x4 a) ∧ (x5 = 1 → wl_X11_string_124 t p (wl_X11_string_80 t p post n) post x2 x3 x4 x5 ((3 * (a 11 0 11)) + x5) ((3 * (a 11 0 11)) + x5) x3 a))) ∧ (x5 = 0 → wl_X11_string_124 t p (wl_X11_string_80 t p post n) post x2 x3 x4 x5 ((3 * (a 11 0 11)) + x5) ((3 * (a 11 0 11)) + x5) x2 a))))
def wp_X11_string (t p : Nat) (x1 : Int32) (x2 : Int32) (x3 : Int32) (x4 : Int32) (a : qa) (post : Int32 → qa → Prop) : Prop := wp_X11_isInn t p x1 (qs a 11 0 0 0) (fun r7 a7 => ((r7 = 0 → post (-1) a7) ∧ (¬ r7 = 0 → wp_X11_within t p x2 20 120 a7 (fun r18 a18 => ((r18 = 0 → post (-1) a18) ∧ (¬ r18 = 0 → wp_X11_within t p x3 20 120 a18 (fun r29 a29 => ((r29 = 0 → post (-1) a29) ∧ (¬ r29 = 0 → wp_X11_within t p x4 20 120 a29 (fun r41 a41 => ((r41 = 0 → post (-1) a41) ∧ (¬ r41 = 0 → ((¬ (a41 11 0 11) = 4 → vp_in (a41 11 0 11) 4 ∧ vp_in (a41 11 0 11) 4 ∧ (∃ n_80, wl_X11_string_80 t p post n_80 x2 x3 x4 0 (qs (qs a41 47 0 ((a41 11 0 11).toNatClampNeg) x1) 48 0 ((a41 11 0 11).toNatClampNeg) (-1)))) ∧ ((a41 11 0 11) = 4 → post (-1) a41))))))))))))))
set_option maxHeartbeats 4000000 in
theorem el_X11_string_124 {g : q_G} {s : q_S} {t p : Nat} (hS : q_Sh t p s) {post : Int32 → qa → Prop} {J80 : Int32 → Int32 → Int32 → Int32 → qa → Prop} (hJ80 : ∀ (x2 : Int32) (x3 : Int32) (x4 : Int32) (x5 : Int32) (a : qa), J80 x2 x3 x4 x5 a → q_E g mX11_string (q_Rm 2 0 0) (q_kI s post) (0, 0) 80 [some (q_O 11 0), none, some (q_I x2), some (q_I x3), some (q_I x4), some (q_I x5), none] [] (a, s)) : ∀ (x2 : Int32) (x3 : Int32) (x4 : Int32) (x5 : Int32) (x6 : Int32) (y1 : Int32) (y2 : Int32) (a : qa), wl_X11_string_124 t p J80 post x2 x3 x4 x5 x6 y1 y2 a → q_E g mX11_string (q_Rm 2 0 0) (q_kI s post) (0, 0) 124 [some (q_O 11 0), none, some (q_I x2), some (q_I x3), some (q_I x4), some (q_I x5), some (q_I x6)] [(q_I y2), (q_I y1), (q_O 51 0)] (a, s) := by
  intro x2 x3 x4 x5 x6 y1 y2 a Wq
  unfold wl_X11_string_124 at Wq
  obtain ⟨hj_124, Wq⟩ := Wq
  refine xf_iast dX11_string_124 rfl hj_124 ?_
  refine xe_aload_n dX11_string_125 rfl q_rvO ?_
  refine xe_getr dX11_string_126 fX11_51 (fun _ _ => rfl) (q_sg hS rfl) ?_
  refine xe_iload dX11_string_129 rfl ?_
  refine xe_iconst 0 dX11_string_131 (by decide) ?_
  obtain ⟨hj_132, Wq⟩ := Wq
  refine xf_iast dX11_string_132 rfl hj_132 ?_
  refine xe_aload_n dX11_string_133 rfl q_rvO ?_
  refine xe_getr dX11_string_134 fX11_54 (fun _ _ => rfl) (q_sg hS rfl) ?_
  refine xe_iload dX11_string_137 rfl ?_
  refine xe_iconst 0 dX11_string_139 (by decide) ?_
  obtain ⟨hj_140, Wq⟩ := Wq
  refine xf_zast dX11_string_140 rfl hj_140 ?_
  refine xe_aload_n dX11_string_141 rfl q_rvO ?_
  refine xe_getr dX11_string_142 fX11_57 (fun _ _ => rfl) (q_sg hS rfl) ?_
  refine xe_iload dX11_string_145 rfl ?_
  refine xe_iconst (-1) dX11_string_147 (by decide) ?_
  obtain ⟨hj_148, Wq⟩ := Wq
  refine xf_iast dX11_string_148 rfl hj_148 ?_
  refine xe_iinc (_ + 1) dX11_string_149 (by decide) rfl rfl ?_
  refine xe_goto 80 dX11_string_152 (by decide) ?_
  refine q_wk (ls := [some (q_O 11 0), none, some (q_I x2), some (q_I x3), some (q_I x4), some (q_I (x5 + 1)), none]) ⟨rfl, ⟨rfl, ⟨rfl, ⟨rfl, ⟨rfl, trivial⟩⟩⟩⟩⟩ ?_
  exact hJ80 _ _ _ _ _ Wq
set_option maxHeartbeats 4000000 in
theorem el_X11_string_80 {g : q_G} {s : q_S} {t p : Nat} (hS : q_Sh t p s) {post : Int32 → qa → Prop} : ∀ (n : Nat) (x2 : Int32) (x3 : Int32) (x4 : Int32) (x5 : Int32) (a : qa), wl_X11_string_80 t p post n x2 x3 x4 x5 a → q_E g mX11_string (q_Rm 2 0 0) (q_kI s post) (0, 0) 80 [some (q_O 11 0), none, some (q_I x2), some (q_I x3), some (q_I x4), some (q_I x5), none] [] (a, s) := by
  intro n
  induction n with
  | zero =>
    intro x2 x3 x4 x5 a Wq
    exact absurd Wq id
  | succ n ih =>
    intro x2 x3 x4 x5 a Wq
    unfold wl_X11_string_80 at Wq
    refine xe_iload dX11_string_80 rfl ?_
    refine xe_iconst 3 dX11_string_82 (by decide) ?_
    refine xe_ic_ge 155 dX11_string_83 (by decide) (fun c_83 => ?_) (fun c_83 => ?_)
    · replace Wq := Wq.1 c_83
      refine xe_aload_n dX11_string_155 rfl q_rvO ?_
      refine xe_dup dX11_string_156 rfl ?_
      refine xe_geti dX11_string_157 fX11_159 (fun _ _ => rfl) ?_
      refine xe_iconst 1 dX11_string_160 (by decide) ?_
      refine xe_iadd dX11_string_161 ?_
      refine xf_puti dX11_string_162 fX11_159 (fun q hq => Or.inl (by cases hq; rfl)) ⟨rfl, rfl⟩ (fun _ _ => rfl) ?_
      refine xe_aload_n dX11_string_165 rfl q_rvO ?_
      refine xe_geti dX11_string_166 fX11_159 (fun _ _ => rfl) ?_
      refine xe_iconst 1 dX11_string_169 (by decide) ?_
      refine xe_isub dX11_string_170 ?_
      exact xe_iret .int dX11_string_171 rfl rfl ⟨_, _, rfl, rfl, Wq⟩
    · replace Wq := Wq.2 c_83
      refine xe_iconst 3 dX11_string_86 (by decide) ?_
      refine xe_aload_n dX11_string_87 rfl q_rvO ?_
      refine xe_geti dX11_string_88 fX11_159 (fun _ _ => rfl) ?_
      refine xe_imul dX11_string_91 ?_
      refine xe_iload dX11_string_92 rfl ?_
      refine xe_iadd dX11_string_94 ?_
      refine xe_istore dX11_string_95 (by decide) ?_
      refine xe_aload_n dX11_string_97 rfl q_rvO ?_
      refine xe_getr dX11_string_98 fX11_48 (fun _ _ => rfl) (q_sg hS rfl) ?_
      refine xe_iload dX11_string_101 rfl ?_
      refine xe_iload dX11_string_103 rfl ?_
      refine xe_if_ne 112 dX11_string_105 (by decide) (fun c_105 => ?_) (fun c_105 => ?_)
      · replace Wq := Wq.1 c_105
        refine xe_iload dX11_string_112 rfl ?_
        refine xe_iconst 1 dX11_string_114 (by decide) ?_
        refine xe_ic_ne 122 dX11_string_115 (by decide) (fun c_115 => ?_) (fun c_115 => ?_)
        · replace Wq := Wq.1 c_115
          refine xe_iload dX11_string_122 rfl ?_
          refine q_wk (ls := [some (q_O 11 0), none, some (q_I x2), some (q_I x3), some (q_I x4), some (q_I x5), some (q_I ((3 * (a 11 0 11)) + x5))]) ⟨rfl, ⟨rfl, ⟨rfl, ⟨rfl, ⟨rfl, ⟨rfl, trivial⟩⟩⟩⟩⟩⟩ ?_
          exact el_X11_string_124 hS ih _ _ _ _ _ _ _ _ Wq
        · replace Wq := Wq.2 c_115
          refine xe_iload_n dX11_string_118 rfl ?_
          refine xe_goto 124 dX11_string_119 (by decide) ?_
          refine q_wk (ls := [some (q_O 11 0), none, some (q_I x2), some (q_I x3), some (q_I x4), some (q_I x5), some (q_I ((3 * (a 11 0 11)) + x5))]) ⟨rfl, ⟨rfl, ⟨rfl, ⟨rfl, ⟨rfl, ⟨rfl, trivial⟩⟩⟩⟩⟩⟩ ?_
          exact el_X11_string_124 hS ih _ _ _ _ _ _ _ _ Wq
      · replace Wq := Wq.2 c_105
        refine xe_iload_n dX11_string_108 rfl ?_
        refine xe_goto 124 dX11_string_109 (by decide) ?_
        refine q_wk (ls := [some (q_O 11 0), none, some (q_I x2), some (q_I x3), some (q_I x4), some (q_I x5), some (q_I ((3 * (a 11 0 11)) + x5))]) ⟨rfl, ⟨rfl, ⟨rfl, ⟨rfl, ⟨rfl, ⟨rfl, trivial⟩⟩⟩⟩⟩⟩ ?_
        exact el_X11_string_124 hS ih _ _ _ _ _ _ _ _ Wq
set_option maxHeartbeats 4000000 in
theorem ct_X11_string {g : q_G} {s : q_S} {t p : Nat} (hS : q_Sh t p s) {x1 : Int32} {x2 : Int32} {x3 : Int32} {x4 : Int32} {a : qa} {post : Int32 → qa → Prop} (Wq : wp_X11_string t p x1 x2 x3 x4 a post) : q_Ct g mX11_string (q_Rm 2 0 0) [q_O 11 0, q_I x1, q_I x2, q_I x3, q_I x4] (a, s) (q_kI s post) := by
  refine q_mk rfl rfl (Nat.le_of_ble_eq_true rfl) (q_cs rfl (q_cs rfl (q_cs rfl (q_cs rfl (q_cs rfl q_nil))))) (fun hv => ?_)
  unfold wp_X11_string at Wq
  refine xe_aload_n dX11_string_0 rfl q_rvO ?_
  refine xe_iconst 0 dX11_string_1 (by decide) ?_
  refine xf_puti dX11_string_2 fX11_1 (fun q hq => Or.inl (by cases hq; rfl)) ⟨rfl, rfl⟩ (fun _ _ => rfl) ?_
  refine xe_aload_n dX11_string_5 rfl q_rvO ?_
  refine xe_iload_n dX11_string_6 rfl ?_
  refine xe_cv (y' := mX11_isInn) dX11_string_7 (Or.inl lX11_156) tX11_isInn rfl rfl (ct_X11_isInn hS Wq) rfl rfl (Nat.le_of_ble_eq_true rfl) ⟨Nat.le_of_ble_eq_true rfl, Nat.le_of_ble_eq_true rfl⟩ ⟨Nat.le_of_ble_eq_true rfl, Nat.le_of_ble_eq_true rfl⟩ (fun v1 h1 hl1 hk1 hm1 => ?_)
  obtain ⟨r7, a7, rfl, rfl, Wq⟩ := hk1
  refine xe_if_eq 55 dX11_string_10 (by decide) (fun c_10 => ?_) (fun c_10 => ?_)
  · replace Wq := Wq.1 c_10
    refine xe_iconst (-1) dX11_string_55 (by decide) ?_
    exact xe_iret .int dX11_string_56 rfl rfl ⟨_, _, rfl, rfl, Wq⟩
  · replace Wq := Wq.2 c_10
    refine xe_iload_n dX11_string_13 rfl ?_
    refine xe_bipush 20 dX11_string_14 (by decide) ?_
    refine xe_bipush 120 dX11_string_16 (by decide) ?_
    refine xe_cs (y' := mX11_within) dX11_string_18 (Or.inl lX11_139) tX11_within (ct_X11_within hS Wq) rfl rfl (Nat.le_of_ble_eq_true rfl) ⟨Nat.le_of_ble_eq_true rfl, Nat.le_of_ble_eq_true rfl⟩ ⟨Nat.le_of_ble_eq_true rfl, Nat.le_of_ble_eq_true rfl⟩ (fun v1 h1 hl1 hk1 hm1 => ?_)
    obtain ⟨r18, a18, rfl, rfl, Wq⟩ := hk1
    refine xe_if_eq 55 dX11_string_21 (by decide) (fun c_21 => ?_) (fun c_21 => ?_)
    · replace Wq := Wq.1 c_21
      refine xe_iconst (-1) dX11_string_55 (by decide) ?_
      exact xe_iret .int dX11_string_56 rfl rfl ⟨_, _, rfl, rfl, Wq⟩
    · replace Wq := Wq.2 c_21
      refine xe_iload_n dX11_string_24 rfl ?_
      refine xe_bipush 20 dX11_string_25 (by decide) ?_
      refine xe_bipush 120 dX11_string_27 (by decide) ?_
      refine xe_cs (y' := mX11_within) dX11_string_29 (Or.inl lX11_139) tX11_within (ct_X11_within hS Wq) rfl rfl (Nat.le_of_ble_eq_true rfl) ⟨Nat.le_of_ble_eq_true rfl, Nat.le_of_ble_eq_true rfl⟩ ⟨Nat.le_of_ble_eq_true rfl, Nat.le_of_ble_eq_true rfl⟩ (fun v1 h1 hl1 hk1 hm1 => ?_)
      obtain ⟨r29, a29, rfl, rfl, Wq⟩ := hk1
      refine xe_if_eq 55 dX11_string_32 (by decide) (fun c_32 => ?_) (fun c_32 => ?_)
      · replace Wq := Wq.1 c_32
        refine xe_iconst (-1) dX11_string_55 (by decide) ?_
        exact xe_iret .int dX11_string_56 rfl rfl ⟨_, _, rfl, rfl, Wq⟩
      · replace Wq := Wq.2 c_32
        refine xe_iload dX11_string_35 rfl ?_
        refine xe_bipush 20 dX11_string_37 (by decide) ?_
        refine xe_bipush 120 dX11_string_39 (by decide) ?_
        refine xe_cs (y' := mX11_within) dX11_string_41 (Or.inl lX11_139) tX11_within (ct_X11_within hS Wq) rfl rfl (Nat.le_of_ble_eq_true rfl) ⟨Nat.le_of_ble_eq_true rfl, Nat.le_of_ble_eq_true rfl⟩ ⟨Nat.le_of_ble_eq_true rfl, Nat.le_of_ble_eq_true rfl⟩ (fun v1 h1 hl1 hk1 hm1 => ?_)
        obtain ⟨r41, a41, rfl, rfl, Wq⟩ := hk1
        refine xe_if_eq 55 dX11_string_44 (by decide) (fun c_44 => ?_) (fun c_44 => ?_)
        · replace Wq := Wq.1 c_44
          refine xe_iconst (-1) dX11_string_55 (by decide) ?_
          exact xe_iret .int dX11_string_56 rfl rfl ⟨_, _, rfl, rfl, Wq⟩
        · replace Wq := Wq.2 c_44
          refine xe_aload_n dX11_string_47 rfl q_rvO ?_
          refine xe_geti dX11_string_48 fX11_159 (fun _ _ => rfl) ?_
          refine xe_iconst 4 dX11_string_51 (by decide) ?_
          refine xe_ic_ne 57 dX11_string_52 (by decide) (fun c_52 => ?_) (fun c_52 => ?_)
          · replace Wq := Wq.1 c_52
            refine xe_aload_n dX11_string_57 rfl q_rvO ?_
            refine xe_getr dX11_string_58 fX11_36 (fun _ _ => rfl) (q_sg hS rfl) ?_
            refine xe_aload_n dX11_string_61 rfl q_rvO ?_
            refine xe_geti dX11_string_62 fX11_159 (fun _ _ => rfl) ?_
            refine xe_iload_n dX11_string_65 rfl ?_
            obtain ⟨hj_66, Wq⟩ := Wq
            refine xf_iast dX11_string_66 rfl hj_66 ?_
            refine xe_aload_n dX11_string_67 rfl q_rvO ?_
            refine xe_getr dX11_string_68 fX11_39 (fun _ _ => rfl) (q_sg hS rfl) ?_
            refine xe_aload_n dX11_string_71 rfl q_rvO ?_
            refine xe_geti dX11_string_72 fX11_159 (fun _ _ => rfl) ?_
            refine xe_iconst (-1) dX11_string_75 (by decide) ?_
            obtain ⟨hj_76, Wq⟩ := Wq
            refine xf_iast dX11_string_76 rfl hj_76 ?_
            refine xe_iconst 0 dX11_string_77 (by decide) ?_
            refine xe_istore dX11_string_78 (by decide) ?_
            obtain ⟨n_80, Wq⟩ := Wq
            refine q_wk (ls := [some (q_O 11 0), none, some (q_I x2), some (q_I x3), some (q_I x4), some (q_I 0), none]) ⟨rfl, ⟨rfl, ⟨rfl, ⟨rfl, ⟨rfl, trivial⟩⟩⟩⟩⟩ ?_
            exact el_X11_string_80 hS n_80 _ _ _ _ _ Wq
          · replace Wq := Wq.2 c_52
            refine xe_iconst (-1) dX11_string_55 (by decide) ?_
            exact xe_iret .int dX11_string_56 rfl rfl ⟨_, _, rfl, rfl, Wq⟩
def wl_X11_stringOf_30 (t p : Nat) (post : Int32 → qa → Prop) : Int32 → Int32 → Int32 → qa → Prop := fun x1 x2 y0 a => ((x2 = 0 → vp_in x1 4 ∧ post (a 47 0 x1.toNatClampNeg) a) ∧ (x2 = 1 → vp_in x1 4 ∧ post (a 48 0 x1.toNatClampNeg) a) ∧ (x2 = 2 → ((¬ y0 = 0 → vp_in x1 4 ∧ (((a 49 0 x1.toNatClampNeg) = 0 → post 0 a) ∧ (¬ (a 49 0 x1.toNatClampNeg) = 0 → post 1 a))) ∧ (y0 = 0 → post (-1) a))) ∧ (x2 = 3 → ((y0 = 0 → post (-1) a) ∧ (¬ y0 = 0 → vp_in x1 4 ∧ post (a 50 0 x1.toNatClampNeg) a))) ∧ (x2 = 4 → wp_X11_packsOn t p x1 a (fun r122 a122 => post r122 a122)) ∧ (¬ x2 = 0 → ¬ x2 = 1 → ¬ x2 = 2 → ¬ x2 = 3 → ¬ x2 = 4 → post (-1) a))
def wp_X11_stringOf (t p : Nat) (x1 : Int32) (x2 : Int32) (a : qa) (post : Int32 → qa → Prop) : Prop := wp_X11_isString t p x1 (qs a 11 0 0 0) (fun r7 a7 => ((¬ r7 = 0 → vp_in x1 4 ∧ ((¬ (a7 47 0 x1.toNatClampNeg) = (-1) → wl_X11_stringOf_30 t p post x1 x2 0 a7) ∧ ((a7 47 0 x1.toNatClampNeg) = (-1) → wl_X11_stringOf_30 t p post x1 x2 1 a7))) ∧ (r7 = 0 → post (-1) a7)))
set_option maxHeartbeats 4000000 in
theorem el_X11_stringOf_30 {g : q_G} {s : q_S} {t p : Nat} (hS : q_Sh t p s) {post : Int32 → qa → Prop} : ∀ (x1 : Int32) (x2 : Int32) (y0 : Int32) (a : qa), wl_X11_stringOf_30 t p post x1 x2 y0 a → q_E g mX11_stringOf (q_Rm 2 0 0) (q_kI s post) (0, 0) 30 [some (q_O 11 0), some (q_I x1), some (q_I x2), none] [(q_I y0)] (a, s) := by
  intro x1 x2 y0 a Wq
  unfold wl_X11_stringOf_30 at Wq
  refine xe_istore_n dX11_stringOf_30 (by decide) ?_
  refine xe_iload_n dX11_stringOf_31 rfl ?_
  by_cases e_32_0 : x2 = 0
  · replace Wq := Wq.1 e_32_0
    have e9 := q_toI e_32_0 (show (0 : Int32).toInt = 0 by decide)
    refine xe_swIn 68 dX11_stringOf_32 (by omega) (by omega) (by rw [e9]; rfl) (by decide) ?_
    refine xe_aload_n dX11_stringOf_68 rfl q_rvO ?_
    refine xe_getr dX11_stringOf_69 fX11_36 (fun _ _ => rfl) (q_sg hS rfl) ?_
    refine xe_iload_n dX11_stringOf_72 rfl ?_
    obtain ⟨hj_73, Wq⟩ := Wq
    refine xe_iald dX11_stringOf_73 rfl hj_73 ?_
    exact xe_iret .int dX11_stringOf_74 rfl rfl ⟨_, _, rfl, rfl, Wq⟩
  by_cases e_32_1 : x2 = 1
  · replace Wq := Wq.2.1 e_32_1
    have e9 := q_toI e_32_1 (show (1 : Int32).toInt = 1 by decide)
    refine xe_swIn 75 dX11_stringOf_32 (by omega) (by omega) (by rw [e9]; rfl) (by decide) ?_
    refine xe_aload_n dX11_stringOf_75 rfl q_rvO ?_
    refine xe_getr dX11_stringOf_76 fX11_39 (fun _ _ => rfl) (q_sg hS rfl) ?_
    refine xe_iload_n dX11_stringOf_79 rfl ?_
    obtain ⟨hj_80, Wq⟩ := Wq
    refine xe_iald dX11_stringOf_80 rfl hj_80 ?_
    exact xe_iret .int dX11_stringOf_81 rfl rfl ⟨_, _, rfl, rfl, Wq⟩
  by_cases e_32_2 : x2 = 2
  · replace Wq := Wq.2.2.1 e_32_2
    have e9 := q_toI e_32_2 (show (2 : Int32).toInt = 2 by decide)
    refine xe_swIn 82 dX11_stringOf_32 (by omega) (by omega) (by rw [e9]; rfl) (by decide) ?_
    refine xe_iload_n dX11_stringOf_82 rfl ?_
    refine xe_if_ne 90 dX11_stringOf_83 (by decide) (fun c_83 => ?_) (fun c_83 => ?_)
    · replace Wq := Wq.1 c_83
      refine xe_aload_n dX11_stringOf_90 rfl q_rvO ?_
      refine xe_getr dX11_stringOf_91 fX11_42 (fun _ _ => rfl) (q_sg hS rfl) ?_
      refine xe_iload_n dX11_stringOf_94 rfl ?_
      obtain ⟨hj_95, Wq⟩ := Wq
      refine xe_zald dX11_stringOf_95 rfl hj_95 ?_
      refine xe_if_eq 103 dX11_stringOf_96 (by decide) (fun c_96 => ?_) (fun c_96 => ?_)
      · replace Wq := Wq.1 c_96
        refine xe_iconst 0 dX11_stringOf_103 (by decide) ?_
        exact xe_iret .int dX11_stringOf_104 rfl rfl ⟨_, _, rfl, rfl, Wq⟩
      · replace Wq := Wq.2 c_96
        refine xe_iconst 1 dX11_stringOf_99 (by decide) ?_
        refine xe_goto 104 dX11_stringOf_100 (by decide) ?_
        exact xe_iret .int dX11_stringOf_104 rfl rfl ⟨_, _, rfl, rfl, Wq⟩
    · replace Wq := Wq.2 c_83
      refine xe_iconst (-1) dX11_stringOf_86 (by decide) ?_
      refine xe_goto 104 dX11_stringOf_87 (by decide) ?_
      exact xe_iret .int dX11_stringOf_104 rfl rfl ⟨_, _, rfl, rfl, Wq⟩
  by_cases e_32_3 : x2 = 3
  · replace Wq := Wq.2.2.2.1 e_32_3
    have e9 := q_toI e_32_3 (show (3 : Int32).toInt = 3 by decide)
    refine xe_swIn 105 dX11_stringOf_32 (by omega) (by omega) (by rw [e9]; rfl) (by decide) ?_
    refine xe_iload_n dX11_stringOf_105 rfl ?_
    refine xe_if_eq 118 dX11_stringOf_106 (by decide) (fun c_106 => ?_) (fun c_106 => ?_)
    · replace Wq := Wq.1 c_106
      refine xe_iconst (-1) dX11_stringOf_118 (by decide) ?_
      exact xe_iret .int dX11_stringOf_119 rfl rfl ⟨_, _, rfl, rfl, Wq⟩
    · replace Wq := Wq.2 c_106
      refine xe_aload_n dX11_stringOf_109 rfl q_rvO ?_
      refine xe_getr dX11_stringOf_110 fX11_45 (fun _ _ => rfl) (q_sg hS rfl) ?_
      refine xe_iload_n dX11_stringOf_113 rfl ?_
      obtain ⟨hj_114, Wq⟩ := Wq
      refine xe_iald dX11_stringOf_114 rfl hj_114 ?_
      refine xe_goto 119 dX11_stringOf_115 (by decide) ?_
      exact xe_iret .int dX11_stringOf_119 rfl rfl ⟨_, _, rfl, rfl, Wq⟩
  by_cases e_32_4 : x2 = 4
  · replace Wq := Wq.2.2.2.2.1 e_32_4
    have e9 := q_toI e_32_4 (show (4 : Int32).toInt = 4 by decide)
    refine xe_swIn 120 dX11_stringOf_32 (by omega) (by omega) (by rw [e9]; rfl) (by decide) ?_
    refine xe_aload_n dX11_stringOf_120 rfl q_rvO ?_
    refine xe_iload_n dX11_stringOf_121 rfl ?_
    refine xe_cv (y' := mX11_packsOn) dX11_stringOf_122 (Or.inl lX11_327) tX11_packsOn rfl rfl (ct_X11_packsOn hS Wq) rfl rfl (Nat.le_of_ble_eq_true rfl) ⟨Nat.le_of_ble_eq_true rfl, Nat.le_of_ble_eq_true rfl⟩ ⟨Nat.le_of_ble_eq_true rfl, Nat.le_of_ble_eq_true rfl⟩ (fun v1 h1 hl1 hk1 hm1 => ?_)
    obtain ⟨r122, a122, rfl, rfl, Wq⟩ := hk1
    exact xe_iret .int dX11_stringOf_125 rfl rfl ⟨_, _, rfl, rfl, Wq⟩
  replace Wq := Wq.2.2.2.2.2 e_32_0 e_32_1 e_32_2 e_32_3 e_32_4
  have z_0 := lv_neT e_32_0 (show (0 : Int32).toInt = 0 by decide)
  have z_1 := lv_neT e_32_1 (show (1 : Int32).toInt = 1 by decide)
  have z_2 := lv_neT e_32_2 (show (2 : Int32).toInt = 2 by decide)
  have z_3 := lv_neT e_32_3 (show (3 : Int32).toInt = 3 by decide)
  have z_4 := lv_neT e_32_4 (show (4 : Int32).toInt = 4 by decide)
  refine xe_swOut 126 dX11_stringOf_32 (by omega) (by decide) ?_
  refine xe_iconst (-1) dX11_stringOf_126 (by decide) ?_
  exact xe_iret .int dX11_stringOf_127 rfl rfl ⟨_, _, rfl, rfl, Wq⟩
set_option maxHeartbeats 4000000 in
theorem ct_X11_stringOf {g : q_G} {s : q_S} {t p : Nat} (hS : q_Sh t p s) {x1 : Int32} {x2 : Int32} {a : qa} {post : Int32 → qa → Prop} (Wq : wp_X11_stringOf t p x1 x2 a post) : q_Ct g mX11_stringOf (q_Rm 2 0 0) [q_O 11 0, q_I x1, q_I x2] (a, s) (q_kI s post) := by
  refine q_mk rfl rfl (Nat.le_of_ble_eq_true rfl) (q_cs rfl (q_cs rfl (q_cs rfl q_nil))) (fun hv => ?_)
  unfold wp_X11_stringOf at Wq
  refine xe_aload_n dX11_stringOf_0 rfl q_rvO ?_
  refine xe_iconst 0 dX11_stringOf_1 (by decide) ?_
  refine xf_puti dX11_stringOf_2 fX11_1 (fun q hq => Or.inl (by cases hq; rfl)) ⟨rfl, rfl⟩ (fun _ _ => rfl) ?_
  refine xe_aload_n dX11_stringOf_5 rfl q_rvO ?_
  refine xe_iload_n dX11_stringOf_6 rfl ?_
  refine xe_cv (y' := mX11_isString) dX11_stringOf_7 (Or.inl lX11_172) tX11_isString rfl rfl (ct_X11_isString hS Wq) rfl rfl (Nat.le_of_ble_eq_true rfl) ⟨Nat.le_of_ble_eq_true rfl, Nat.le_of_ble_eq_true rfl⟩ ⟨Nat.le_of_ble_eq_true rfl, Nat.le_of_ble_eq_true rfl⟩ (fun v1 h1 hl1 hk1 hm1 => ?_)
  obtain ⟨r7, a7, rfl, rfl, Wq⟩ := hk1
  refine xe_if_ne 15 dX11_stringOf_10 (by decide) (fun c_10 => ?_) (fun c_10 => ?_)
  · replace Wq := Wq.1 c_10
    refine xe_aload_n dX11_stringOf_15 rfl q_rvO ?_
    refine xe_getr dX11_stringOf_16 fX11_36 (fun _ _ => rfl) (q_sg hS rfl) ?_
    refine xe_iload_n dX11_stringOf_19 rfl ?_
    obtain ⟨hj_20, Wq⟩ := Wq
    refine xe_iald dX11_stringOf_20 rfl hj_20 ?_
    refine xe_iconst (-1) dX11_stringOf_21 (by decide) ?_
    refine xe_ic_ne 29 dX11_stringOf_22 (by decide) (fun c_22 => ?_) (fun c_22 => ?_)
    · replace Wq := Wq.1 c_22
      refine xe_iconst 0 dX11_stringOf_29 (by decide) ?_
      refine q_wk (ls := [some (q_O 11 0), some (q_I x1), some (q_I x2), none]) ⟨rfl, ⟨rfl, ⟨rfl, trivial⟩⟩⟩ ?_
      exact el_X11_stringOf_30 hS _ _ _ _ Wq
    · replace Wq := Wq.2 c_22
      refine xe_iconst 1 dX11_stringOf_25 (by decide) ?_
      refine xe_goto 30 dX11_stringOf_26 (by decide) ?_
      refine q_wk (ls := [some (q_O 11 0), some (q_I x1), some (q_I x2), none]) ⟨rfl, ⟨rfl, ⟨rfl, trivial⟩⟩⟩ ?_
      exact el_X11_stringOf_30 hS _ _ _ _ Wq
  · replace Wq := Wq.2 c_10
    refine xe_iconst (-1) dX11_stringOf_13 (by decide) ?_
    exact xe_iret .int dX11_stringOf_14 rfl rfl ⟨_, _, rfl, rfl, Wq⟩
def wl_X11_tires_4 (t p : Nat) (post : qa → Prop) : Nat → Int32 → Int32 → qa → Prop
  | 0 => fun _ _ _ => False
  | n + 1 => fun x1 x2 a => ((((3 * x1) + 3) ≤ x2 → post a) ∧ (¬ ((3 * x1) + 3) ≤ x2 → vp_in x2 12 ∧ (((a 53 0 x2.toNatClampNeg) = 0 → vp_in x2 12 ∧ wp_X11_load t p x2 3 a (fun r43 a43 => vp_in x1 4 ∧ vp_in (a43 48 0 x1.toNatClampNeg) 6 ∧ vp_in x2 12 ∧ vp_in x2 12 ∧ ((100 ≤ ((qs a43 52 0 x2.toNatClampNeg (if (((a 52 0 x2.toNatClampNeg) + 2) + ((r43 * (a43 41 0 ((a43 48 0 x1.toNatClampNeg).toNatClampNeg))) / 100)) < 100 then (((a 52 0 x2.toNatClampNeg) + 2) + ((r43 * (a43 41 0 ((a43 48 0 x1.toNatClampNeg).toNatClampNeg))) / 100)) else 100)) 52 0 x2.toNatClampNeg) → vp_in x2 12 ∧ vp_in x2 12 ∧ ((wl_X11_tires_4 t p post n) x1 (x2 + 1) (qs (qs (qs a43 52 0 x2.toNatClampNeg (if (((a 52 0 x2.toNatClampNeg) + 2) + ((r43 * (a43 41 0 ((a43 48 0 x1.toNatClampNeg).toNatClampNeg))) / 100)) < 100 then (((a 52 0 x2.toNatClampNeg) + 2) + ((r43 * (a43 41 0 ((a43 48 0 x1.toNatClampNeg).toNatClampNeg))) / 100)) else 100)) 53 0 x2.toNatClampNeg (vp_nar .boolean 1)) 54 0 x2.toNatClampNeg (a43 11 0 1)))) ∧ (¬ 100 ≤ ((qs a43 52 0 x2.toNatClampNeg (if (((a 52 0 x2.toNatClampNeg) + 2) + ((r43 * (a43 41 0 ((a43 48 0 x1.toNatClampNeg).toNatClampNeg))) / 100)) < 100 then (((a 52 0 x2.toNatClampNeg) + 2) + ((r43 * (a43 41 0 ((a43 48 0 x1.toNatClampNeg).toNatClampNeg))) / 100)) else 100)) 52 0 x2.toNatClampNeg) → (wl_X11_tires_4 t p post n) x1 (x2 + 1) (qs a43 52 0 x2.toNatClampNeg (if (((a 52 0 x2.toNatClampNeg) + 2) + ((r43 * (a43 41 0 ((a43 48 0 x1.toNatClampNeg).toNatClampNeg))) / 100)) < 100 then (((a 52 0 x2.toNatClampNeg) + 2) + ((r43 * (a43 41 0 ((a43 48 0 x1.toNatClampNeg).toNatClampNeg))) / 100)) else 100)))))) ∧ (¬ (a 53 0 x2.toNatClampNeg) = 0 → (wl_X11_tires_4 t p post n) x1 (x2 + 1) a))))
def wp_X11_tires (t p : Nat) (x1 : Int32) (a : qa) (post : qa → Prop) : Prop := ∃ n_4, wl_X11_tires_4 t p post n_4 x1 (3 * x1) a
set_option maxHeartbeats 4000000 in
theorem el_X11_tires_4 {g : q_G} {s : q_S} {t p : Nat} (hS : q_Sh t p s) {post : qa → Prop} : ∀ (n : Nat) (x1 : Int32) (x2 : Int32) (a : qa), wl_X11_tires_4 t p post n x1 x2 a → q_E g mX11_tires (q_Rm 2 0 0) (q_kV s post) (0, 0) 4 [some (q_O 11 0), some (q_I x1), some (q_I x2)] [] (a, s) := by
  intro n
  induction n with
  | zero =>
    intro x1 x2 a Wq
    exact absurd Wq id
  | succ n ih =>
    intro x1 x2 a Wq
    unfold wl_X11_tires_4 at Wq
    refine xe_iload_n dX11_tires_4 rfl ?_
    refine xe_iconst 3 dX11_tires_5 (by decide) ?_
    refine xe_iload_n dX11_tires_6 rfl ?_
    refine xe_imul dX11_tires_7 ?_
    refine xe_iconst 3 dX11_tires_8 (by decide) ?_
    refine xe_iadd dX11_tires_9 ?_
    refine xe_ic_ge 103 dX11_tires_10 (by decide) (fun c_10 => ?_) (fun c_10 => ?_)
    · replace Wq := Wq.1 c_10
      exact xe_vret dX11_tires_103 rfl ⟨_, rfl, rfl, Wq⟩
    · replace Wq := Wq.2 c_10
      refine xe_aload_n dX11_tires_13 rfl q_rvO ?_
      refine xe_getr dX11_tires_14 fX11_54 (fun _ _ => rfl) (q_sg hS rfl) ?_
      refine xe_iload_n dX11_tires_17 rfl ?_
      obtain ⟨hj_18, Wq⟩ := Wq
      refine xe_zald dX11_tires_18 rfl hj_18 ?_
      refine xe_if_eq 25 dX11_tires_19 (by decide) (fun c_19 => ?_) (fun c_19 => ?_)
      · replace Wq := Wq.1 c_19
        refine xe_aload_n dX11_tires_25 rfl q_rvO ?_
        refine xe_getr dX11_tires_26 fX11_51 (fun _ _ => rfl) (q_sg hS rfl) ?_
        refine xe_iload_n dX11_tires_29 rfl ?_
        refine xe_bipush 100 dX11_tires_30 (by decide) ?_
        refine xe_aload_n dX11_tires_32 rfl q_rvO ?_
        refine xe_getr dX11_tires_33 fX11_51 (fun _ _ => rfl) (q_sg hS rfl) ?_
        refine xe_iload_n dX11_tires_36 rfl ?_
        obtain ⟨hj_37, Wq⟩ := Wq
        refine xe_iald dX11_tires_37 rfl hj_37 ?_
        refine xe_iconst 2 dX11_tires_38 (by decide) ?_
        refine xe_iadd dX11_tires_39 ?_
        refine xe_aload_n dX11_tires_40 rfl q_rvO ?_
        refine xe_iload_n dX11_tires_41 rfl ?_
        refine xe_iconst 3 dX11_tires_42 (by decide) ?_
        refine xe_cv (y' := mX11_load) dX11_tires_43 (Or.inl lX11_178) tX11_load rfl rfl (ct_X11_load hS Wq) rfl rfl (Nat.le_of_ble_eq_true rfl) ⟨Nat.le_of_ble_eq_true rfl, Nat.le_of_ble_eq_true rfl⟩ ⟨Nat.le_of_ble_eq_true rfl, Nat.le_of_ble_eq_true rfl⟩ (fun v1 h1 hl1 hk1 hm1 => ?_)
        obtain ⟨r43, a43, rfl, rfl, Wq⟩ := hk1
        refine xe_aload_n dX11_tires_46 rfl q_rvO ?_
        refine xe_getr dX11_tires_47 fX11_17 (fun _ _ => rfl) (q_sg hS rfl) ?_
        refine xe_aload_n dX11_tires_50 rfl q_rvO ?_
        refine xe_getr dX11_tires_51 fX11_39 (fun _ _ => rfl) (q_sg hS rfl) ?_
        refine xe_iload_n dX11_tires_54 rfl ?_
        obtain ⟨hj_55, Wq⟩ := Wq
        refine xe_iald dX11_tires_55 rfl hj_55 ?_
        obtain ⟨hj_56, Wq⟩ := Wq
        refine xe_iald dX11_tires_56 rfl hj_56 ?_
        refine xe_imul dX11_tires_57 ?_
        refine xe_bipush 100 dX11_tires_58 (by decide) ?_
        refine xe_idiv dX11_tires_60 (by decide) ?_
        refine xe_iadd dX11_tires_61 ?_
        refine xe_mmin dX11_tires_62 ⟨lX11_189, q_wmin⟩ (Nat.le_of_ble_eq_true rfl) ⟨Nat.le_of_ble_eq_true rfl, Nat.le_of_ble_eq_true rfl⟩ ?_
        obtain ⟨hj_65, Wq⟩ := Wq
        refine xf_iast dX11_tires_65 rfl hj_65 ?_
        refine xe_aload_n dX11_tires_66 rfl q_rvO ?_
        refine xe_getr dX11_tires_67 fX11_51 (fun _ _ => rfl) (q_sg hS rfl) ?_
        refine xe_iload_n dX11_tires_70 rfl ?_
        obtain ⟨hj_71, Wq⟩ := Wq
        refine xe_iald dX11_tires_71 rfl hj_71 ?_
        refine xe_bipush 100 dX11_tires_72 (by decide) ?_
        refine xe_ic_ge 80 dX11_tires_74 (by decide) (fun c_74 => ?_) (fun c_74 => ?_)
        · replace Wq := Wq.1 c_74
          refine xe_aload_n dX11_tires_80 rfl q_rvO ?_
          refine xe_getr dX11_tires_81 fX11_54 (fun _ _ => rfl) (q_sg hS rfl) ?_
          refine xe_iload_n dX11_tires_84 rfl ?_
          refine xe_iconst 1 dX11_tires_85 (by decide) ?_
          obtain ⟨hj_86, Wq⟩ := Wq
          refine xf_zast dX11_tires_86 rfl hj_86 ?_
          refine xe_aload_n dX11_tires_87 rfl q_rvO ?_
          refine xe_getr dX11_tires_88 fX11_57 (fun _ _ => rfl) (q_sg hS rfl) ?_
          refine xe_iload_n dX11_tires_91 rfl ?_
          refine xe_aload_n dX11_tires_92 rfl q_rvO ?_
          refine xe_geti dX11_tires_93 fX11_150 (fun _ _ => rfl) ?_
          obtain ⟨hj_96, Wq⟩ := Wq
          refine xf_iast dX11_tires_96 rfl hj_96 ?_
          refine xe_iinc (_ + 1) dX11_tires_97 (by decide) rfl rfl ?_
          refine xe_goto 4 dX11_tires_100 (by decide) ?_
          refine q_wk (ls := [some (q_O 11 0), some (q_I x1), some (q_I (x2 + 1))]) ⟨rfl, ⟨rfl, ⟨rfl, trivial⟩⟩⟩ ?_
          exact ih _ _ _ Wq
        · replace Wq := Wq.2 c_74
          refine xe_goto 97 dX11_tires_77 (by decide) ?_
          refine xe_iinc (_ + 1) dX11_tires_97 (by decide) rfl rfl ?_
          refine xe_goto 4 dX11_tires_100 (by decide) ?_
          refine q_wk (ls := [some (q_O 11 0), some (q_I x1), some (q_I (x2 + 1))]) ⟨rfl, ⟨rfl, ⟨rfl, trivial⟩⟩⟩ ?_
          exact ih _ _ _ Wq
      · replace Wq := Wq.2 c_19
        refine xe_goto 97 dX11_tires_22 (by decide) ?_
        refine xe_iinc (_ + 1) dX11_tires_97 (by decide) rfl rfl ?_
        refine xe_goto 4 dX11_tires_100 (by decide) ?_
        refine q_wk (ls := [some (q_O 11 0), some (q_I x1), some (q_I (x2 + 1))]) ⟨rfl, ⟨rfl, ⟨rfl, trivial⟩⟩⟩ ?_
        exact ih _ _ _ Wq
set_option maxHeartbeats 4000000 in
theorem ct_X11_tires {g : q_G} {s : q_S} {t p : Nat} (hS : q_Sh t p s) {x1 : Int32} {a : qa} {post : qa → Prop} (Wq : wp_X11_tires t p x1 a post) : q_Ct g mX11_tires (q_Rm 2 0 0) [q_O 11 0, q_I x1] (a, s) (q_kV s post) := by
  refine q_mk rfl rfl (Nat.le_of_ble_eq_true rfl) (q_cs rfl (q_cs rfl q_nil)) (fun hv => ?_)
  unfold wp_X11_tires at Wq
  refine xe_iconst 3 dX11_tires_0 (by decide) ?_
  refine xe_iload_n dX11_tires_1 rfl ?_
  refine xe_imul dX11_tires_2 ?_
  refine xe_istore_n dX11_tires_3 (by decide) ?_
  obtain ⟨n_4, Wq⟩ := Wq
  refine q_wk (ls := [some (q_O 11 0), some (q_I x1), some (q_I (3 * x1))]) ⟨rfl, ⟨rfl, ⟨rfl, trivial⟩⟩⟩ ?_
  exact el_X11_tires_4 hS n_4 _ _ _ Wq
def wl_X11_was_37 (t p : Nat) (post : Int32 → qa → Prop) : Nat → Int32 → Int32 → Int32 → Int32 → qa → Prop
  | 0 => fun _ _ _ _ _ => False
  | n + 1 => fun x1 x2 x3 x4 a => (((a 11 0 31) ≤ x4 → post x3 a) ∧ (¬ (a 11 0 31) ≤ x4 → vp_in x4 700 ∧ ((¬ (a 65 0 x4.toNatClampNeg) = x1 → (wl_X11_was_37 t p post n) x1 x2 x3 (x4 + 1) a) ∧ ((a 65 0 x4.toNatClampNeg) = x1 → vp_in x4 700 ∧ ((x2 < (a 66 0 x4.toNatClampNeg) → (wl_X11_was_37 t p post n) x1 x2 x3 (x4 + 1) a) ∧ (¬ x2 < (a 66 0 x4.toNatClampNeg) → vp_in x4 700 ∧ ((wl_X11_was_37 t p post n) x1 x2 (a 67 0 x4.toNatClampNeg) (x4 + 1) a)))))))
def wp_X11_was (t p : Nat) (x1 : Int32) (x2 : Int32) (a : qa) (post : Int32 → qa → Prop) : Prop := wp_X11_isPack t p x1 (qs a 11 0 0 0) (fun r7 a7 => ((r7 = 0 → post (-1) a7) ∧ (¬ r7 = 0 → vp_in x1 100 ∧ wp_X11_within t p x2 (a7 62 0 x1.toNatClampNeg) (a7 11 0 1) a7 (fun r24 a24 => ((¬ r24 = 0 → ∃ n_37, wl_X11_was_37 t p post n_37 x1 x2 (-1) 0 a24) ∧ (r24 = 0 → post (-1) a24))))))
set_option maxHeartbeats 4000000 in
theorem el_X11_was_37 {g : q_G} {s : q_S} {t p : Nat} (hS : q_Sh t p s) {post : Int32 → qa → Prop} : ∀ (n : Nat) (x1 : Int32) (x2 : Int32) (x3 : Int32) (x4 : Int32) (a : qa), wl_X11_was_37 t p post n x1 x2 x3 x4 a → q_E g mX11_was (q_Rm 2 0 0) (q_kI s post) (0, 0) 37 [some (q_O 11 0), some (q_I x1), some (q_I x2), some (q_I x3), some (q_I x4)] [] (a, s) := by
  intro n
  induction n with
  | zero =>
    intro x1 x2 x3 x4 a Wq
    exact absurd Wq id
  | succ n ih =>
    intro x1 x2 x3 x4 a Wq
    unfold wl_X11_was_37 at Wq
    refine xe_iload dX11_was_37 rfl ?_
    refine xe_aload_n dX11_was_39 rfl q_rvO ?_
    refine xe_geti dX11_was_40 fX11_162 (fun _ _ => rfl) ?_
    refine xe_ic_ge 82 dX11_was_43 (by decide) (fun c_43 => ?_) (fun c_43 => ?_)
    · replace Wq := Wq.1 c_43
      refine xe_iload_n dX11_was_82 rfl ?_
      exact xe_iret .int dX11_was_83 rfl rfl ⟨_, _, rfl, rfl, Wq⟩
    · replace Wq := Wq.2 c_43
      refine xe_aload_n dX11_was_46 rfl q_rvO ?_
      refine xe_getr dX11_was_47 fX11_90 (fun _ _ => rfl) (q_sg hS rfl) ?_
      refine xe_iload dX11_was_50 rfl ?_
      obtain ⟨hj_52, Wq⟩ := Wq
      refine xe_iald dX11_was_52 rfl hj_52 ?_
      refine xe_iload_n dX11_was_53 rfl ?_
      refine xe_ic_ne 76 dX11_was_54 (by decide) (fun c_54 => ?_) (fun c_54 => ?_)
      · replace Wq := Wq.1 c_54
        refine xe_iinc (_ + 1) dX11_was_76 (by decide) rfl rfl ?_
        refine xe_goto 37 dX11_was_79 (by decide) ?_
        refine q_wk (ls := [some (q_O 11 0), some (q_I x1), some (q_I x2), some (q_I x3), some (q_I (x4 + 1))]) ⟨rfl, ⟨rfl, ⟨rfl, ⟨rfl, ⟨rfl, trivial⟩⟩⟩⟩⟩ ?_
        exact ih _ _ _ _ _ Wq
      · replace Wq := Wq.2 c_54
        refine xe_aload_n dX11_was_57 rfl q_rvO ?_
        refine xe_getr dX11_was_58 fX11_93 (fun _ _ => rfl) (q_sg hS rfl) ?_
        refine xe_iload dX11_was_61 rfl ?_
        obtain ⟨hj_63, Wq⟩ := Wq
        refine xe_iald dX11_was_63 rfl hj_63 ?_
        refine xe_iload_n dX11_was_64 rfl ?_
        refine xe_ic_gt 76 dX11_was_65 (by decide) (fun c_65 => ?_) (fun c_65 => ?_)
        · replace Wq := Wq.1 c_65
          refine xe_iinc (_ + 1) dX11_was_76 (by decide) rfl rfl ?_
          refine xe_goto 37 dX11_was_79 (by decide) ?_
          refine q_wk (ls := [some (q_O 11 0), some (q_I x1), some (q_I x2), some (q_I x3), some (q_I (x4 + 1))]) ⟨rfl, ⟨rfl, ⟨rfl, ⟨rfl, ⟨rfl, trivial⟩⟩⟩⟩⟩ ?_
          exact ih _ _ _ _ _ Wq
        · replace Wq := Wq.2 c_65
          refine xe_aload_n dX11_was_68 rfl q_rvO ?_
          refine xe_getr dX11_was_69 fX11_96 (fun _ _ => rfl) (q_sg hS rfl) ?_
          refine xe_iload dX11_was_72 rfl ?_
          obtain ⟨hj_74, Wq⟩ := Wq
          refine xe_iald dX11_was_74 rfl hj_74 ?_
          refine xe_istore_n dX11_was_75 (by decide) ?_
          refine xe_iinc (_ + 1) dX11_was_76 (by decide) rfl rfl ?_
          refine xe_goto 37 dX11_was_79 (by decide) ?_
          refine q_wk (ls := [some (q_O 11 0), some (q_I x1), some (q_I x2), some (q_I (a 67 0 x4.toNatClampNeg)), some (q_I (x4 + 1))]) ⟨rfl, ⟨rfl, ⟨rfl, ⟨rfl, ⟨rfl, trivial⟩⟩⟩⟩⟩ ?_
          exact ih _ _ _ _ _ Wq
set_option maxHeartbeats 4000000 in
theorem ct_X11_was {g : q_G} {s : q_S} {t p : Nat} (hS : q_Sh t p s) {x1 : Int32} {x2 : Int32} {a : qa} {post : Int32 → qa → Prop} (Wq : wp_X11_was t p x1 x2 a post) : q_Ct g mX11_was (q_Rm 2 0 0) [q_O 11 0, q_I x1, q_I x2] (a, s) (q_kI s post) := by
  refine q_mk rfl rfl (Nat.le_of_ble_eq_true rfl) (q_cs rfl (q_cs rfl (q_cs rfl q_nil))) (fun hv => ?_)
  unfold wp_X11_was at Wq
  refine xe_aload_n dX11_was_0 rfl q_rvO ?_
  refine xe_iconst 0 dX11_was_1 (by decide) ?_
  refine xf_puti dX11_was_2 fX11_1 (fun q hq => Or.inl (by cases hq; rfl)) ⟨rfl, rfl⟩ (fun _ _ => rfl) ?_
  refine xe_aload_n dX11_was_5 rfl q_rvO ?_
  refine xe_iload_n dX11_was_6 rfl ?_
  refine xe_cv (y' := mX11_isPack) dX11_was_7 (Or.inl lX11_175) tX11_isPack rfl rfl (ct_X11_isPack hS Wq) rfl rfl (Nat.le_of_ble_eq_true rfl) ⟨Nat.le_of_ble_eq_true rfl, Nat.le_of_ble_eq_true rfl⟩ ⟨Nat.le_of_ble_eq_true rfl, Nat.le_of_ble_eq_true rfl⟩ (fun v1 h1 hl1 hk1 hm1 => ?_)
  obtain ⟨r7, a7, rfl, rfl, Wq⟩ := hk1
  refine xe_if_eq 30 dX11_was_10 (by decide) (fun c_10 => ?_) (fun c_10 => ?_)
  · replace Wq := Wq.1 c_10
    refine xe_iconst (-1) dX11_was_30 (by decide) ?_
    exact xe_iret .int dX11_was_31 rfl rfl ⟨_, _, rfl, rfl, Wq⟩
  · replace Wq := Wq.2 c_10
    refine xe_iload_n dX11_was_13 rfl ?_
    refine xe_aload_n dX11_was_14 rfl q_rvO ?_
    refine xe_getr dX11_was_15 fX11_81 (fun _ _ => rfl) (q_sg hS rfl) ?_
    refine xe_iload_n dX11_was_18 rfl ?_
    obtain ⟨hj_19, Wq⟩ := Wq
    refine xe_iald dX11_was_19 rfl hj_19 ?_
    refine xe_aload_n dX11_was_20 rfl q_rvO ?_
    refine xe_geti dX11_was_21 fX11_150 (fun _ _ => rfl) ?_
    refine xe_cs (y' := mX11_within) dX11_was_24 (Or.inl lX11_139) tX11_within (ct_X11_within hS Wq) rfl rfl (Nat.le_of_ble_eq_true rfl) ⟨Nat.le_of_ble_eq_true rfl, Nat.le_of_ble_eq_true rfl⟩ ⟨Nat.le_of_ble_eq_true rfl, Nat.le_of_ble_eq_true rfl⟩ (fun v1 h1 hl1 hk1 hm1 => ?_)
    obtain ⟨r24, a24, rfl, rfl, Wq⟩ := hk1
    refine xe_if_ne 32 dX11_was_27 (by decide) (fun c_27 => ?_) (fun c_27 => ?_)
    · replace Wq := Wq.1 c_27
      refine xe_iconst (-1) dX11_was_32 (by decide) ?_
      refine xe_istore_n dX11_was_33 (by decide) ?_
      refine xe_iconst 0 dX11_was_34 (by decide) ?_
      refine xe_istore dX11_was_35 (by decide) ?_
      obtain ⟨n_37, Wq⟩ := Wq
      refine q_wk (ls := [some (q_O 11 0), some (q_I x1), some (q_I x2), some (q_I (-1)), some (q_I 0)]) ⟨rfl, ⟨rfl, ⟨rfl, ⟨rfl, ⟨rfl, trivial⟩⟩⟩⟩⟩ ?_
      exact el_X11_was_37 hS n_37 _ _ _ _ _ Wq
    · replace Wq := Wq.2 c_27
      refine xe_iconst (-1) dX11_was_30 (by decide) ?_
      exact xe_iret .int dX11_was_31 rfl rfl ⟨_, _, rfl, rfl, Wq⟩
def wl_X11_worth_42 (t p : Nat) (J11 : Int32 → Int32 → Int32 → Int32 → qa → Prop) (post : Int32 → qa → Prop) : Nat → Int32 → Int32 → Int32 → Int32 → Int32 → Int32 → Int32 → qa → Prop
  | 0 => fun _ _ _ _ _ _ _ _ => False
  | n + 1 => fun x1 x2 x3 x4 x5 x6 x7 a => vp_in x5 220 ∧ (((a 74 0 x5.toNatClampNeg) ≤ x7 → ((x6 = 0 → J11 x1 x2 x3 (x4 + 1) a) ∧ (¬ x6 = 0 → vp_in x5 220 ∧ (J11 x1 x2 (x3 + (a 75 0 x5.toNatClampNeg)) (x4 + 1) a)))) ∧ (¬ (a 74 0 x5.toNatClampNeg) ≤ x7 → ((x6 = 0 → (wl_X11_worth_42 t p J11 post n) x1 x2 x3 x4 x5 0 (x7 + 1) a) ∧ (¬ x6 = 0 → wp_X11_holds_ t p ((4 * x5) + x7) x1 a (fun r68 a68 => ((r68 = 0 → (wl_X11_worth_42 t p J11 post n) x1 x2 x3 x4 x5 0 (x7 + 1) a68) ∧ (¬ r68 = 0 → (wl_X11_worth_42 t p J11 post n) x1 x2 x3 x4 x5 1 (x7 + 1) a68)))))))
def wl_X11_worth_11 (t p : Nat) (post : Int32 → qa → Prop) : Nat → Int32 → Int32 → Int32 → Int32 → qa → Prop
  | 0 => fun _ _ _ _ _ => False
  | n + 1 => fun x1 x2 x3 x4 a => ((x2 = (-1) → post x3 a) ∧ (¬ x2 = (-1) → vp_in x2 11 ∧ (((a 73 0 x2.toNatClampNeg) ≤ x4 → post x3 a) ∧ (¬ (a 73 0 x2.toNatClampNeg) ≤ x4 → ∃ n_42, wl_X11_worth_42 t p (wl_X11_worth_11 t p post n) post n_42 x1 x2 x3 x4 ((20 * x2) + x4) 1 0 a))))
def wp_X11_worth (t p : Nat) (x1 : Int32) (a : qa) (post : Int32 → qa → Prop) : Prop := wp_X11_bargainOf t p x1 a (fun r2 a2 => ∃ n_11, wl_X11_worth_11 t p post n_11 x1 r2 0 0 a2)
set_option maxHeartbeats 4000000 in
theorem el_X11_worth_42 {g : q_G} {s : q_S} {t p : Nat} (hS : q_Sh t p s) {post : Int32 → qa → Prop} {J11 : Int32 → Int32 → Int32 → Int32 → qa → Prop} (hJ11 : ∀ (x1 : Int32) (x2 : Int32) (x3 : Int32) (x4 : Int32) (a : qa), J11 x1 x2 x3 x4 a → q_E g mX11_worth (q_Rm 2 0 0) (q_kI s post) (0, 0) 11 [some (q_O 11 0), some (q_I x1), some (q_I x2), some (q_I x3), some (q_I x4), none, none, none] [] (a, s)) : ∀ (n : Nat) (x1 : Int32) (x2 : Int32) (x3 : Int32) (x4 : Int32) (x5 : Int32) (x6 : Int32) (x7 : Int32) (a : qa), wl_X11_worth_42 t p J11 post n x1 x2 x3 x4 x5 x6 x7 a → q_E g mX11_worth (q_Rm 2 0 0) (q_kI s post) (0, 0) 42 [some (q_O 11 0), some (q_I x1), some (q_I x2), some (q_I x3), some (q_I x4), some (q_I x5), some (q_I x6), some (q_I x7)] [] (a, s) := by
  intro n
  induction n with
  | zero =>
    intro x1 x2 x3 x4 x5 x6 x7 a Wq
    exact absurd Wq id
  | succ n ih =>
    intro x1 x2 x3 x4 x5 x6 x7 a Wq
    unfold wl_X11_worth_42 at Wq
    refine xe_iload dX11_worth_42 rfl ?_
    refine xe_aload_n dX11_worth_44 rfl q_rvO ?_
    refine xe_getr dX11_worth_45 fX11_121 (fun _ _ => rfl) (q_sg hS rfl) ?_
    refine xe_iload dX11_worth_48 rfl ?_
    obtain ⟨hj_50, Wq⟩ := Wq
    refine xe_iald dX11_worth_50 rfl hj_50 ?_
    refine xe_ic_ge 87 dX11_worth_51 (by decide) (fun c_51 => ?_) (fun c_51 => ?_)
    · replace Wq := Wq.1 c_51
      refine xe_iload dX11_worth_87 rfl ?_
      refine xe_if_eq 102 dX11_worth_89 (by decide) (fun c_89 => ?_) (fun c_89 => ?_)
      · replace Wq := Wq.1 c_89
        refine xe_iinc (_ + 1) dX11_worth_102 (by decide) rfl rfl ?_
        refine xe_goto 11 dX11_worth_105 (by decide) ?_
        refine q_wk (ls := [some (q_O 11 0), some (q_I x1), some (q_I x2), some (q_I x3), some (q_I (x4 + 1)), none, none, none]) ⟨rfl, ⟨rfl, ⟨rfl, ⟨rfl, ⟨rfl, trivial⟩⟩⟩⟩⟩ ?_
        exact hJ11 _ _ _ _ _ Wq
      · replace Wq := Wq.2 c_89
        refine xe_iload_n dX11_worth_92 rfl ?_
        refine xe_aload_n dX11_worth_93 rfl q_rvO ?_
        refine xe_getr dX11_worth_94 fX11_124 (fun _ _ => rfl) (q_sg hS rfl) ?_
        refine xe_iload dX11_worth_97 rfl ?_
        obtain ⟨hj_99, Wq⟩ := Wq
        refine xe_iald dX11_worth_99 rfl hj_99 ?_
        refine xe_iadd dX11_worth_100 ?_
        refine xe_istore_n dX11_worth_101 (by decide) ?_
        refine xe_iinc (_ + 1) dX11_worth_102 (by decide) rfl rfl ?_
        refine xe_goto 11 dX11_worth_105 (by decide) ?_
        refine q_wk (ls := [some (q_O 11 0), some (q_I x1), some (q_I x2), some (q_I (x3 + (a 75 0 x5.toNatClampNeg))), some (q_I (x4 + 1)), none, none, none]) ⟨rfl, ⟨rfl, ⟨rfl, ⟨rfl, ⟨rfl, trivial⟩⟩⟩⟩⟩ ?_
        exact hJ11 _ _ _ _ _ Wq
    · replace Wq := Wq.2 c_51
      refine xe_iload dX11_worth_54 rfl ?_
      refine xe_if_eq 78 dX11_worth_56 (by decide) (fun c_56 => ?_) (fun c_56 => ?_)
      · replace Wq := Wq.1 c_56
        refine xe_iconst 0 dX11_worth_78 (by decide) ?_
        refine xe_istore dX11_worth_79 (by decide) ?_
        refine xe_iinc (_ + 1) dX11_worth_81 (by decide) rfl rfl ?_
        refine xe_goto 42 dX11_worth_84 (by decide) ?_
        refine q_wk (ls := [some (q_O 11 0), some (q_I x1), some (q_I x2), some (q_I x3), some (q_I x4), some (q_I x5), some (q_I 0), some (q_I (x7 + 1))]) ⟨rfl, ⟨rfl, ⟨rfl, ⟨rfl, ⟨rfl, ⟨rfl, ⟨rfl, ⟨rfl, trivial⟩⟩⟩⟩⟩⟩⟩⟩ ?_
        exact ih _ _ _ _ _ _ _ _ Wq
      · replace Wq := Wq.2 c_56
        refine xe_aload_n dX11_worth_59 rfl q_rvO ?_
        refine xe_iconst 4 dX11_worth_60 (by decide) ?_
        refine xe_iload dX11_worth_61 rfl ?_
        refine xe_imul dX11_worth_63 ?_
        refine xe_iload dX11_worth_64 rfl ?_
        refine xe_iadd dX11_worth_66 ?_
        refine xe_iload_n dX11_worth_67 rfl ?_
        refine xe_cv (y' := mX11_holds_) dX11_worth_68 (Or.inl lX11_322) tX11_holds_ rfl rfl (ct_X11_holds_ hS Wq) rfl rfl (Nat.le_of_ble_eq_true rfl) ⟨Nat.le_of_ble_eq_true rfl, Nat.le_of_ble_eq_true rfl⟩ ⟨Nat.le_of_ble_eq_true rfl, Nat.le_of_ble_eq_true rfl⟩ (fun v1 h1 hl1 hk1 hm1 => ?_)
        obtain ⟨r68, a68, rfl, rfl, Wq⟩ := hk1
        refine xe_if_eq 78 dX11_worth_71 (by decide) (fun c_71 => ?_) (fun c_71 => ?_)
        · replace Wq := Wq.1 c_71
          refine xe_iconst 0 dX11_worth_78 (by decide) ?_
          refine xe_istore dX11_worth_79 (by decide) ?_
          refine xe_iinc (_ + 1) dX11_worth_81 (by decide) rfl rfl ?_
          refine xe_goto 42 dX11_worth_84 (by decide) ?_
          refine q_wk (ls := [some (q_O 11 0), some (q_I x1), some (q_I x2), some (q_I x3), some (q_I x4), some (q_I x5), some (q_I 0), some (q_I (x7 + 1))]) ⟨rfl, ⟨rfl, ⟨rfl, ⟨rfl, ⟨rfl, ⟨rfl, ⟨rfl, ⟨rfl, trivial⟩⟩⟩⟩⟩⟩⟩⟩ ?_
          exact ih _ _ _ _ _ _ _ _ Wq
        · replace Wq := Wq.2 c_71
          refine xe_iconst 1 dX11_worth_74 (by decide) ?_
          refine xe_goto 79 dX11_worth_75 (by decide) ?_
          refine xe_istore dX11_worth_79 (by decide) ?_
          refine xe_iinc (_ + 1) dX11_worth_81 (by decide) rfl rfl ?_
          refine xe_goto 42 dX11_worth_84 (by decide) ?_
          refine q_wk (ls := [some (q_O 11 0), some (q_I x1), some (q_I x2), some (q_I x3), some (q_I x4), some (q_I x5), some (q_I 1), some (q_I (x7 + 1))]) ⟨rfl, ⟨rfl, ⟨rfl, ⟨rfl, ⟨rfl, ⟨rfl, ⟨rfl, ⟨rfl, trivial⟩⟩⟩⟩⟩⟩⟩⟩ ?_
          exact ih _ _ _ _ _ _ _ _ Wq
set_option maxHeartbeats 4000000 in
theorem el_X11_worth_11 {g : q_G} {s : q_S} {t p : Nat} (hS : q_Sh t p s) {post : Int32 → qa → Prop} : ∀ (n : Nat) (x1 : Int32) (x2 : Int32) (x3 : Int32) (x4 : Int32) (a : qa), wl_X11_worth_11 t p post n x1 x2 x3 x4 a → q_E g mX11_worth (q_Rm 2 0 0) (q_kI s post) (0, 0) 11 [some (q_O 11 0), some (q_I x1), some (q_I x2), some (q_I x3), some (q_I x4), none, none, none] [] (a, s) := by
  intro n
  induction n with
  | zero =>
    intro x1 x2 x3 x4 a Wq
    exact absurd Wq id
  | succ n ih =>
    intro x1 x2 x3 x4 a Wq
    unfold wl_X11_worth_11 at Wq
    refine xe_iload_n dX11_worth_11 rfl ?_
    refine xe_iconst (-1) dX11_worth_12 (by decide) ?_
    refine xe_ic_eq 108 dX11_worth_13 (by decide) (fun c_13 => ?_) (fun c_13 => ?_)
    · replace Wq := Wq.1 c_13
      refine xe_iload_n dX11_worth_108 rfl ?_
      exact xe_iret .int dX11_worth_109 rfl rfl ⟨_, _, rfl, rfl, Wq⟩
    · replace Wq := Wq.2 c_13
      refine xe_iload dX11_worth_16 rfl ?_
      refine xe_aload_n dX11_worth_18 rfl q_rvO ?_
      refine xe_getr dX11_worth_19 fX11_118 (fun _ _ => rfl) (q_sg hS rfl) ?_
      refine xe_iload_n dX11_worth_22 rfl ?_
      obtain ⟨hj_23, Wq⟩ := Wq
      refine xe_iald dX11_worth_23 rfl hj_23 ?_
      refine xe_ic_ge 108 dX11_worth_24 (by decide) (fun c_24 => ?_) (fun c_24 => ?_)
      · replace Wq := Wq.1 c_24
        refine xe_iload_n dX11_worth_108 rfl ?_
        exact xe_iret .int dX11_worth_109 rfl rfl ⟨_, _, rfl, rfl, Wq⟩
      · replace Wq := Wq.2 c_24
        refine xe_bipush 20 dX11_worth_27 (by decide) ?_
        refine xe_iload_n dX11_worth_29 rfl ?_
        refine xe_imul dX11_worth_30 ?_
        refine xe_iload dX11_worth_31 rfl ?_
        refine xe_iadd dX11_worth_33 ?_
        refine xe_istore dX11_worth_34 (by decide) ?_
        refine xe_iconst 1 dX11_worth_36 (by decide) ?_
        refine xe_istore dX11_worth_37 (by decide) ?_
        refine xe_iconst 0 dX11_worth_39 (by decide) ?_
        refine xe_istore dX11_worth_40 (by decide) ?_
        obtain ⟨n_42, Wq⟩ := Wq
        refine q_wk (ls := [some (q_O 11 0), some (q_I x1), some (q_I x2), some (q_I x3), some (q_I x4), some (q_I ((20 * x2) + x4)), some (q_I 1), some (q_I 0)]) ⟨rfl, ⟨rfl, ⟨rfl, ⟨rfl, ⟨rfl, ⟨rfl, ⟨rfl, ⟨rfl, trivial⟩⟩⟩⟩⟩⟩⟩⟩ ?_
        exact el_X11_worth_42 hS ih n_42 _ _ _ _ _ _ _ _ Wq
set_option maxHeartbeats 4000000 in
theorem ct_X11_worth {g : q_G} {s : q_S} {t p : Nat} (hS : q_Sh t p s) {x1 : Int32} {a : qa} {post : Int32 → qa → Prop} (Wq : wp_X11_worth t p x1 a post) : q_Ct g mX11_worth (q_Rm 2 0 0) [q_O 11 0, q_I x1] (a, s) (q_kI s post) := by
  refine q_mk rfl rfl (Nat.le_of_ble_eq_true rfl) (q_cs rfl (q_cs rfl q_nil)) (fun hv => ?_)
  unfold wp_X11_worth at Wq
  refine xe_aload_n dX11_worth_0 rfl q_rvO ?_
  refine xe_iload_n dX11_worth_1 rfl ?_
  refine xe_cv (y' := mX11_bargainOf) dX11_worth_2 (Or.inl lX11_319) tX11_bargainOf rfl rfl (ct_X11_bargainOf hS Wq) rfl rfl (Nat.le_of_ble_eq_true rfl) ⟨Nat.le_of_ble_eq_true rfl, Nat.le_of_ble_eq_true rfl⟩ ⟨Nat.le_of_ble_eq_true rfl, Nat.le_of_ble_eq_true rfl⟩ (fun v1 h1 hl1 hk1 hm1 => ?_)
  obtain ⟨r2, a2, rfl, rfl, Wq⟩ := hk1
  refine xe_istore_n dX11_worth_5 (by decide) ?_
  refine xe_iconst 0 dX11_worth_6 (by decide) ?_
  refine xe_istore_n dX11_worth_7 (by decide) ?_
  refine xe_iconst 0 dX11_worth_8 (by decide) ?_
  refine xe_istore dX11_worth_9 (by decide) ?_
  obtain ⟨n_11, Wq⟩ := Wq
  refine q_wk (ls := [some (q_O 11 0), some (q_I x1), some (q_I r2), some (q_I 0), some (q_I 0), none, none, none]) ⟨rfl, ⟨rfl, ⟨rfl, ⟨rfl, ⟨rfl, trivial⟩⟩⟩⟩⟩ ?_
  exact el_X11_worth_11 hS n_11 _ _ _ _ _ Wq
def wl_X11_allBrought_4 (t p : Nat) (post : Int32 → qa → Prop) : Nat → Int32 → Int32 → qa → Prop
  | 0 => fun _ _ _ => False
  | n + 1 => fun x1 x2 a => (((a 11 0 20) ≤ x2 → post x1 a) ∧ (¬ (a 11 0 20) ≤ x2 → vp_in x2 100 ∧ ((¬ (a 58 0 x2.toNatClampNeg) = 2 → (wl_X11_allBrought_4 t p post n) x1 (x2 + 1) a) ∧ ((a 58 0 x2.toNatClampNeg) = 2 → wp_X11_worth t p x2 a (fun r25 a25 => (wl_X11_allBrought_4 t p post n) (x1 + r25) (x2 + 1) a25)))))
def wp_X11_allBrought (t p : Nat) (a : qa) (post : Int32 → qa → Prop) : Prop := ∃ n_4, wl_X11_allBrought_4 t p post n_4 0 0 a
set_option maxHeartbeats 4000000 in
theorem el_X11_allBrought_4 {g : q_G} {s : q_S} {t p : Nat} (hS : q_Sh t p s) {post : Int32 → qa → Prop} : ∀ (n : Nat) (x1 : Int32) (x2 : Int32) (a : qa), wl_X11_allBrought_4 t p post n x1 x2 a → q_E g mX11_allBrought (q_Rm 3 0 0) (q_kI s post) (0, 0) 4 [some (q_O 11 0), some (q_I x1), some (q_I x2)] [] (a, s) := by
  intro n
  induction n with
  | zero =>
    intro x1 x2 a Wq
    exact absurd Wq id
  | succ n ih =>
    intro x1 x2 a Wq
    unfold wl_X11_allBrought_4 at Wq
    refine xe_iload_n dX11_allBrought_4 rfl ?_
    refine xe_aload_n dX11_allBrought_5 rfl q_rvO ?_
    refine xe_geti dX11_allBrought_6 fX11_165 (fun _ _ => rfl) ?_
    refine xe_ic_ge 36 dX11_allBrought_9 (by decide) (fun c_9 => ?_) (fun c_9 => ?_)
    · replace Wq := Wq.1 c_9
      refine xe_iload_n dX11_allBrought_36 rfl ?_
      exact xe_iret .int dX11_allBrought_37 rfl rfl ⟨_, _, rfl, rfl, Wq⟩
    · replace Wq := Wq.2 c_9
      refine xe_aload_n dX11_allBrought_12 rfl q_rvO ?_
      refine xe_getr dX11_allBrought_13 fX11_69 (fun _ _ => rfl) (q_sg hS rfl) ?_
      refine xe_iload_n dX11_allBrought_16 rfl ?_
      obtain ⟨hj_17, Wq⟩ := Wq
      refine xe_iald dX11_allBrought_17 rfl hj_17 ?_
      refine xe_iconst 2 dX11_allBrought_18 (by decide) ?_
      refine xe_ic_ne 30 dX11_allBrought_19 (by decide) (fun c_19 => ?_) (fun c_19 => ?_)
      · replace Wq := Wq.1 c_19
        refine xe_iinc (_ + 1) dX11_allBrought_30 (by decide) rfl rfl ?_
        refine xe_goto 4 dX11_allBrought_33 (by decide) ?_
        refine q_wk (ls := [some (q_O 11 0), some (q_I x1), some (q_I (x2 + 1))]) ⟨rfl, ⟨rfl, ⟨rfl, trivial⟩⟩⟩ ?_
        exact ih _ _ _ Wq
      · replace Wq := Wq.2 c_19
        refine xe_iload_n dX11_allBrought_22 rfl ?_
        refine xe_aload_n dX11_allBrought_23 rfl q_rvO ?_
        refine xe_iload_n dX11_allBrought_24 rfl ?_
        refine xe_cv (y' := mX11_worth) dX11_allBrought_25 (Or.inl lX11_324) tX11_worth rfl rfl (ct_X11_worth hS Wq) rfl rfl (Nat.le_of_ble_eq_true rfl) ⟨Nat.le_of_ble_eq_true rfl, Nat.le_of_ble_eq_true rfl⟩ ⟨Nat.le_of_ble_eq_true rfl, Nat.le_of_ble_eq_true rfl⟩ (fun v1 h1 hl1 hk1 hm1 => ?_)
        obtain ⟨r25, a25, rfl, rfl, Wq⟩ := hk1
        refine xe_iadd dX11_allBrought_28 ?_
        refine xe_istore_n dX11_allBrought_29 (by decide) ?_
        refine xe_iinc (_ + 1) dX11_allBrought_30 (by decide) rfl rfl ?_
        refine xe_goto 4 dX11_allBrought_33 (by decide) ?_
        refine q_wk (ls := [some (q_O 11 0), some (q_I (x1 + r25)), some (q_I (x2 + 1))]) ⟨rfl, ⟨rfl, ⟨rfl, trivial⟩⟩⟩ ?_
        exact ih _ _ _ Wq
set_option maxHeartbeats 4000000 in
theorem ct_X11_allBrought {g : q_G} {s : q_S} {t p : Nat} (hS : q_Sh t p s) {a : qa} {post : Int32 → qa → Prop} (Wq : wp_X11_allBrought t p  a post) : q_Ct g mX11_allBrought (q_Rm 3 0 0) [q_O 11 0] (a, s) (q_kI s post) := by
  refine q_mk rfl rfl (Nat.le_of_ble_eq_true rfl) (q_cs rfl q_nil) (fun hv => ?_)
  unfold wp_X11_allBrought at Wq
  refine xe_iconst 0 dX11_allBrought_0 (by decide) ?_
  refine xe_istore_n dX11_allBrought_1 (by decide) ?_
  refine xe_iconst 0 dX11_allBrought_2 (by decide) ?_
  refine xe_istore_n dX11_allBrought_3 (by decide) ?_
  obtain ⟨n_4, Wq⟩ := Wq
  refine q_wk (ls := [some (q_O 11 0), some (q_I 0), some (q_I 0)]) ⟨rfl, ⟨rfl, ⟨rfl, trivial⟩⟩⟩ ?_
  exact el_X11_allBrought_4 hS n_4 _ _ _ Wq
def wp_X11_brought (t p : Nat) (x1 : Int32) (a : qa) (post : Int32 → qa → Prop) : Prop := wp_X11_isPack t p x1 (qs a 11 0 0 0) (fun r7 a7 => ((r7 = 0 → post 0 (qs a7 11 0 0 1)) ∧ (¬ r7 = 0 → vp_in x1 100 ∧ (((a7 58 0 x1.toNatClampNeg) = 2 → wp_X11_worth t p x1 a7 (fun r32 a32 => post r32 a32)) ∧ (¬ (a7 58 0 x1.toNatClampNeg) = 2 → post 0 (qs a7 11 0 0 1))))))
set_option maxHeartbeats 4000000 in
theorem ct_X11_brought {g : q_G} {s : q_S} {t p : Nat} (hS : q_Sh t p s) {x1 : Int32} {a : qa} {post : Int32 → qa → Prop} (Wq : wp_X11_brought t p x1 a post) : q_Ct g mX11_brought (q_Rm 3 0 0) [q_O 11 0, q_I x1] (a, s) (q_kI s post) := by
  refine q_mk rfl rfl (Nat.le_of_ble_eq_true rfl) (q_cs rfl (q_cs rfl q_nil)) (fun hv => ?_)
  unfold wp_X11_brought at Wq
  refine xe_aload_n dX11_brought_0 rfl q_rvO ?_
  refine xe_iconst 0 dX11_brought_1 (by decide) ?_
  refine xf_puti dX11_brought_2 fX11_1 (fun q hq => Or.inl (by cases hq; rfl)) ⟨rfl, rfl⟩ (fun _ _ => rfl) ?_
  refine xe_aload_n dX11_brought_5 rfl q_rvO ?_
  refine xe_iload_n dX11_brought_6 rfl ?_
  refine xe_cv (y' := mX11_isPack) dX11_brought_7 (Or.inl lX11_175) tX11_isPack rfl rfl (ct_X11_isPack hS Wq) rfl rfl (Nat.le_of_ble_eq_true rfl) ⟨Nat.le_of_ble_eq_true rfl, Nat.le_of_ble_eq_true rfl⟩ ⟨Nat.le_of_ble_eq_true rfl, Nat.le_of_ble_eq_true rfl⟩ (fun v1 h1 hl1 hk1 hm1 => ?_)
  obtain ⟨r7, a7, rfl, rfl, Wq⟩ := hk1
  refine xe_if_eq 23 dX11_brought_10 (by decide) (fun c_10 => ?_) (fun c_10 => ?_)
  · replace Wq := Wq.1 c_10
    refine xe_aload_n dX11_brought_23 rfl q_rvO ?_
    refine xe_iconst 1 dX11_brought_24 (by decide) ?_
    refine xf_puti dX11_brought_25 fX11_1 (fun q hq => Or.inl (by cases hq; rfl)) ⟨rfl, rfl⟩ (fun _ _ => rfl) ?_
    refine xe_iconst 0 dX11_brought_28 (by decide) ?_
    exact xe_iret .int dX11_brought_29 rfl rfl ⟨_, _, rfl, rfl, Wq⟩
  · replace Wq := Wq.2 c_10
    refine xe_aload_n dX11_brought_13 rfl q_rvO ?_
    refine xe_getr dX11_brought_14 fX11_69 (fun _ _ => rfl) (q_sg hS rfl) ?_
    refine xe_iload_n dX11_brought_17 rfl ?_
    obtain ⟨hj_18, Wq⟩ := Wq
    refine xe_iald dX11_brought_18 rfl hj_18 ?_
    refine xe_iconst 2 dX11_brought_19 (by decide) ?_
    refine xe_ic_eq 30 dX11_brought_20 (by decide) (fun c_20 => ?_) (fun c_20 => ?_)
    · replace Wq := Wq.1 c_20
      refine xe_aload_n dX11_brought_30 rfl q_rvO ?_
      refine xe_iload_n dX11_brought_31 rfl ?_
      refine xe_cv (y' := mX11_worth) dX11_brought_32 (Or.inl lX11_324) tX11_worth rfl rfl (ct_X11_worth hS Wq) rfl rfl (Nat.le_of_ble_eq_true rfl) ⟨Nat.le_of_ble_eq_true rfl, Nat.le_of_ble_eq_true rfl⟩ ⟨Nat.le_of_ble_eq_true rfl, Nat.le_of_ble_eq_true rfl⟩ (fun v1 h1 hl1 hk1 hm1 => ?_)
      obtain ⟨r32, a32, rfl, rfl, Wq⟩ := hk1
      exact xe_iret .int dX11_brought_35 rfl rfl ⟨_, _, rfl, rfl, Wq⟩
    · replace Wq := Wq.2 c_20
      refine xe_aload_n dX11_brought_23 rfl q_rvO ?_
      refine xe_iconst 1 dX11_brought_24 (by decide) ?_
      refine xf_puti dX11_brought_25 fX11_1 (fun q hq => Or.inl (by cases hq; rfl)) ⟨rfl, rfl⟩ (fun _ _ => rfl) ?_
      refine xe_iconst 0 dX11_brought_28 (by decide) ?_
      exact xe_iret .int dX11_brought_29 rfl rfl ⟨_, _, rfl, rfl, Wq⟩
def wl_X11_go_136 (t p : Nat) (post : Int32 → qa → Prop) : Nat → Int32 → Int32 → Int32 → Int32 → qa → Prop
  | 0 => fun _ _ _ _ _ => False
  | n + 1 => fun x1 x2 x3 x4 a => (((a 11 0 11) ≤ x4 → vp_in x1 4 ∧ vp_in x1 4 ∧ vp_in x1 4 ∧ vp_in x3 6 ∧ vp_in x1 4 ∧ vp_in x1 4 ∧ post ((qs (qs (qs (qs a 47 0 x1.toNatClampNeg (-1)) 48 0 x1.toNatClampNeg x3) 49 0 x1.toNatClampNeg (vp_nar .boolean x2)) 50 0 x1.toNatClampNeg ((a 11 0 1) + (a 40 0 x3.toNatClampNeg))) 50 0 x1.toNatClampNeg) (qs (qs (qs (qs a 47 0 x1.toNatClampNeg (-1)) 48 0 x1.toNatClampNeg x3) 49 0 x1.toNatClampNeg (vp_nar .boolean x2)) 50 0 x1.toNatClampNeg ((a 11 0 1) + (a 40 0 x3.toNatClampNeg)))) ∧ (¬ (a 11 0 11) ≤ x4 → vp_in x3 6 ∧ (((a 42 0 x3.toNatClampNeg) = 0 → (wl_X11_go_136 t p post n) x1 x2 x3 (x4 + 1) a) ∧ (¬ (a 42 0 x3.toNatClampNeg) = 0 → vp_in x4 4 ∧ ((¬ (a 48 0 x4.toNatClampNeg) = x3 → (wl_X11_go_136 t p post n) x1 x2 x3 (x4 + 1) a) ∧ ((a 48 0 x4.toNatClampNeg) = x3 → post (-6) a))))))
def wl_X11_go_66 (t p : Nat) (post : Int32 → qa → Prop) : Nat → Int32 → Int32 → Int32 → Int32 → qa → Prop
  | 0 => fun _ _ _ _ _ => False
  | n + 1 => fun x1 x2 x3 x4 a => ((((3 * x1) + 3) ≤ x4 → wp_X11_isShut t p x3 (a 11 0 1) (a 11 0 1) a (fun r124 a124 => ((r124 = 0 → ∃ n_136, wl_X11_go_136 t p post n_136 x1 x2 x3 0 a124) ∧ (¬ r124 = 0 → post (-5) a124)))) ∧ (¬ ((3 * x1) + 3) ≤ x4 → wp_X11_isEven t p x4 a (fun r79 a79 => ((r79 = 0 → post (-4) a79) ∧ (¬ r79 = 0 → vp_in x4 12 ∧ (((a79 53 0 x4.toNatClampNeg) = 0 → (wl_X11_go_66 t p post n) x1 x2 x3 (x4 + 1) a79) ∧ (¬ (a79 53 0 x4.toNatClampNeg) = 0 → wp_X11_load t p x4 3 a79 (fun r99 a99 => ((r99 ≤ 0 → (wl_X11_go_66 t p post n) x1 x2 x3 (x4 + 1) a99) ∧ (¬ r99 ≤ 0 → post (-4) a99))))))))))
def wl_X11_go_49 (t p : Nat) (post : Int32 → qa → Prop) : Int32 → Int32 → Int32 → qa → Prop := fun x1 x2 y0 a => wp_X11_isLeg t p y0 a (fun r52 a52 => ((¬ r52 = 0 → ∃ n_66, wl_X11_go_66 t p post n_66 x1 x2 y0 (3 * x1) a52) ∧ (r52 = 0 → post (-3) a52)))
def wp_X11_go (t p : Nat) (x1 : Int32) (x2 : Int32) (a : qa) (post : Int32 → qa → Prop) : Prop := wp_X11_isString t p x1 (qs a 11 0 0 0) (fun r7 a7 => ((¬ r7 = 0 → vp_in x1 4 ∧ ((¬ (a7 47 0 x1.toNatClampNeg) = (-1) → ((x2 = 0 → vp_in x1 4 ∧ (wl_X11_go_49 t p post x1 x2 ((a7 47 0 x1.toNatClampNeg) - 1) a7)) ∧ (¬ x2 = 0 → vp_in x1 4 ∧ (wl_X11_go_49 t p post x1 x2 (a7 47 0 x1.toNatClampNeg) a7)))) ∧ ((a7 47 0 x1.toNatClampNeg) = (-1) → post (-2) a7))) ∧ (r7 = 0 → post (-1) a7)))
set_option maxHeartbeats 4000000 in
theorem el_X11_go_136 {g : q_G} {s : q_S} {t p : Nat} (hS : q_Sh t p s) {post : Int32 → qa → Prop} : ∀ (n : Nat) (x1 : Int32) (x2 : Int32) (x3 : Int32) (x4 : Int32) (a : qa), wl_X11_go_136 t p post n x1 x2 x3 x4 a → q_E g mX11_go (q_Rm 3 0 0) (q_kI s post) (0, 0) 136 [some (q_O 11 0), some (q_I x1), some (q_I x2), some (q_I x3), some (q_I x4)] [] (a, s) := by
  intro n
  induction n with
  | zero =>
    intro x1 x2 x3 x4 a Wq
    exact absurd Wq id
  | succ n ih =>
    intro x1 x2 x3 x4 a Wq
    unfold wl_X11_go_136 at Wq
    refine xe_iload dX11_go_136 rfl ?_
    refine xe_aload_n dX11_go_138 rfl q_rvO ?_
    refine xe_geti dX11_go_139 fX11_159 (fun _ _ => rfl) ?_
    refine xe_ic_ge 174 dX11_go_142 (by decide) (fun c_142 => ?_) (fun c_142 => ?_)
    · replace Wq := Wq.1 c_142
      refine xe_aload_n dX11_go_174 rfl q_rvO ?_
      refine xe_getr dX11_go_175 fX11_36 (fun _ _ => rfl) (q_sg hS rfl) ?_
      refine xe_iload_n dX11_go_178 rfl ?_
      refine xe_iconst (-1) dX11_go_179 (by decide) ?_
      obtain ⟨hj_180, Wq⟩ := Wq
      refine xf_iast dX11_go_180 rfl hj_180 ?_
      refine xe_aload_n dX11_go_181 rfl q_rvO ?_
      refine xe_getr dX11_go_182 fX11_39 (fun _ _ => rfl) (q_sg hS rfl) ?_
      refine xe_iload_n dX11_go_185 rfl ?_
      refine xe_iload_n dX11_go_186 rfl ?_
      obtain ⟨hj_187, Wq⟩ := Wq
      refine xf_iast dX11_go_187 rfl hj_187 ?_
      refine xe_aload_n dX11_go_188 rfl q_rvO ?_
      refine xe_getr dX11_go_189 fX11_42 (fun _ _ => rfl) (q_sg hS rfl) ?_
      refine xe_iload_n dX11_go_192 rfl ?_
      refine xe_iload_n dX11_go_193 rfl ?_
      obtain ⟨hj_194, Wq⟩ := Wq
      refine xf_zast dX11_go_194 rfl hj_194 ?_
      refine xe_aload_n dX11_go_195 rfl q_rvO ?_
      refine xe_getr dX11_go_196 fX11_45 (fun _ _ => rfl) (q_sg hS rfl) ?_
      refine xe_iload_n dX11_go_199 rfl ?_
      refine xe_aload_n dX11_go_200 rfl q_rvO ?_
      refine xe_geti dX11_go_201 fX11_150 (fun _ _ => rfl) ?_
      refine xe_aload_n dX11_go_204 rfl q_rvO ?_
      refine xe_getr dX11_go_205 fX11_13 (fun _ _ => rfl) (q_sg hS rfl) ?_
      refine xe_iload_n dX11_go_208 rfl ?_
      obtain ⟨hj_209, Wq⟩ := Wq
      refine xe_iald dX11_go_209 rfl hj_209 ?_
      refine xe_iadd dX11_go_210 ?_
      obtain ⟨hj_211, Wq⟩ := Wq
      refine xf_iast dX11_go_211 rfl hj_211 ?_
      refine xe_aload_n dX11_go_212 rfl q_rvO ?_
      refine xe_getr dX11_go_213 fX11_45 (fun _ _ => rfl) (q_sg hS rfl) ?_
      refine xe_iload_n dX11_go_216 rfl ?_
      obtain ⟨hj_217, Wq⟩ := Wq
      refine xe_iald dX11_go_217 rfl hj_217 ?_
      exact xe_iret .int dX11_go_218 rfl rfl ⟨_, _, rfl, rfl, Wq⟩
    · replace Wq := Wq.2 c_142
      refine xe_aload_n dX11_go_145 rfl q_rvO ?_
      refine xe_getr dX11_go_146 fX11_20 (fun _ _ => rfl) (q_sg hS rfl) ?_
      refine xe_iload_n dX11_go_149 rfl ?_
      obtain ⟨hj_150, Wq⟩ := Wq
      refine xe_zald dX11_go_150 rfl hj_150 ?_
      refine xe_if_eq 168 dX11_go_151 (by decide) (fun c_151 => ?_) (fun c_151 => ?_)
      · replace Wq := Wq.1 c_151
        refine xe_iinc (_ + 1) dX11_go_168 (by decide) rfl rfl ?_
        refine xe_goto 136 dX11_go_171 (by decide) ?_
        refine q_wk (ls := [some (q_O 11 0), some (q_I x1), some (q_I x2), some (q_I x3), some (q_I (x4 + 1))]) ⟨rfl, ⟨rfl, ⟨rfl, ⟨rfl, ⟨rfl, trivial⟩⟩⟩⟩⟩ ?_
        exact ih _ _ _ _ _ Wq
      · replace Wq := Wq.2 c_151
        refine xe_aload_n dX11_go_154 rfl q_rvO ?_
        refine xe_getr dX11_go_155 fX11_39 (fun _ _ => rfl) (q_sg hS rfl) ?_
        refine xe_iload dX11_go_158 rfl ?_
        obtain ⟨hj_160, Wq⟩ := Wq
        refine xe_iald dX11_go_160 rfl hj_160 ?_
        refine xe_iload_n dX11_go_161 rfl ?_
        refine xe_ic_ne 168 dX11_go_162 (by decide) (fun c_162 => ?_) (fun c_162 => ?_)
        · replace Wq := Wq.1 c_162
          refine xe_iinc (_ + 1) dX11_go_168 (by decide) rfl rfl ?_
          refine xe_goto 136 dX11_go_171 (by decide) ?_
          refine q_wk (ls := [some (q_O 11 0), some (q_I x1), some (q_I x2), some (q_I x3), some (q_I (x4 + 1))]) ⟨rfl, ⟨rfl, ⟨rfl, ⟨rfl, ⟨rfl, trivial⟩⟩⟩⟩⟩ ?_
          exact ih _ _ _ _ _ Wq
        · replace Wq := Wq.2 c_162
          refine xe_bipush (-6) dX11_go_165 (by decide) ?_
          exact xe_iret .int dX11_go_167 rfl rfl ⟨_, _, rfl, rfl, Wq⟩
set_option maxHeartbeats 4000000 in
theorem el_X11_go_66 {g : q_G} {s : q_S} {t p : Nat} (hS : q_Sh t p s) {post : Int32 → qa → Prop} : ∀ (n : Nat) (x1 : Int32) (x2 : Int32) (x3 : Int32) (x4 : Int32) (a : qa), wl_X11_go_66 t p post n x1 x2 x3 x4 a → q_E g mX11_go (q_Rm 3 0 0) (q_kI s post) (0, 0) 66 [some (q_O 11 0), some (q_I x1), some (q_I x2), some (q_I x3), some (q_I x4)] [] (a, s) := by
  intro n
  induction n with
  | zero =>
    intro x1 x2 x3 x4 a Wq
    exact absurd Wq id
  | succ n ih =>
    intro x1 x2 x3 x4 a Wq
    unfold wl_X11_go_66 at Wq
    refine xe_iload dX11_go_66 rfl ?_
    refine xe_iconst 3 dX11_go_68 (by decide) ?_
    refine xe_iload_n dX11_go_69 rfl ?_
    refine xe_imul dX11_go_70 ?_
    refine xe_iconst 3 dX11_go_71 (by decide) ?_
    refine xe_iadd dX11_go_72 ?_
    refine xe_ic_ge 114 dX11_go_73 (by decide) (fun c_73 => ?_) (fun c_73 => ?_)
    · replace Wq := Wq.1 c_73
      refine xe_aload_n dX11_go_114 rfl q_rvO ?_
      refine xe_iload_n dX11_go_115 rfl ?_
      refine xe_aload_n dX11_go_116 rfl q_rvO ?_
      refine xe_geti dX11_go_117 fX11_150 (fun _ _ => rfl) ?_
      refine xe_aload_n dX11_go_120 rfl q_rvO ?_
      refine xe_geti dX11_go_121 fX11_150 (fun _ _ => rfl) ?_
      refine xe_cv (y' := mX11_isShut) dX11_go_124 (Or.inl lX11_153) tX11_isShut rfl rfl (ct_X11_isShut hS Wq) rfl rfl (Nat.le_of_ble_eq_true rfl) ⟨Nat.le_of_ble_eq_true rfl, Nat.le_of_ble_eq_true rfl⟩ ⟨Nat.le_of_ble_eq_true rfl, Nat.le_of_ble_eq_true rfl⟩ (fun v1 h1 hl1 hk1 hm1 => ?_)
      obtain ⟨r124, a124, rfl, rfl, Wq⟩ := hk1
      refine xe_if_eq 133 dX11_go_127 (by decide) (fun c_127 => ?_) (fun c_127 => ?_)
      · replace Wq := Wq.1 c_127
        refine xe_iconst 0 dX11_go_133 (by decide) ?_
        refine xe_istore dX11_go_134 (by decide) ?_
        obtain ⟨n_136, Wq⟩ := Wq
        refine q_wk (ls := [some (q_O 11 0), some (q_I x1), some (q_I x2), some (q_I x3), some (q_I 0)]) ⟨rfl, ⟨rfl, ⟨rfl, ⟨rfl, ⟨rfl, trivial⟩⟩⟩⟩⟩ ?_
        exact el_X11_go_136 hS n_136 _ _ _ _ _ Wq
      · replace Wq := Wq.2 c_127
        refine xe_bipush (-5) dX11_go_130 (by decide) ?_
        exact xe_iret .int dX11_go_132 rfl rfl ⟨_, _, rfl, rfl, Wq⟩
    · replace Wq := Wq.2 c_73
      refine xe_aload_n dX11_go_76 rfl q_rvO ?_
      refine xe_iload dX11_go_77 rfl ?_
      refine xe_cv (y' := mX11_isEven) dX11_go_79 (Or.inl lX11_186) tX11_isEven rfl rfl (ct_X11_isEven hS Wq) rfl rfl (Nat.le_of_ble_eq_true rfl) ⟨Nat.le_of_ble_eq_true rfl, Nat.le_of_ble_eq_true rfl⟩ ⟨Nat.le_of_ble_eq_true rfl, Nat.le_of_ble_eq_true rfl⟩ (fun v1 h1 hl1 hk1 hm1 => ?_)
      obtain ⟨r79, a79, rfl, rfl, Wq⟩ := hk1
      refine xe_if_eq 105 dX11_go_82 (by decide) (fun c_82 => ?_) (fun c_82 => ?_)
      · replace Wq := Wq.1 c_82
        refine xe_bipush (-4) dX11_go_105 (by decide) ?_
        exact xe_iret .int dX11_go_107 rfl rfl ⟨_, _, rfl, rfl, Wq⟩
      · replace Wq := Wq.2 c_82
        refine xe_aload_n dX11_go_85 rfl q_rvO ?_
        refine xe_getr dX11_go_86 fX11_54 (fun _ _ => rfl) (q_sg hS rfl) ?_
        refine xe_iload dX11_go_89 rfl ?_
        obtain ⟨hj_91, Wq⟩ := Wq
        refine xe_zald dX11_go_91 rfl hj_91 ?_
        refine xe_if_eq 108 dX11_go_92 (by decide) (fun c_92 => ?_) (fun c_92 => ?_)
        · replace Wq := Wq.1 c_92
          refine xe_iinc (_ + 1) dX11_go_108 (by decide) rfl rfl ?_
          refine xe_goto 66 dX11_go_111 (by decide) ?_
          refine q_wk (ls := [some (q_O 11 0), some (q_I x1), some (q_I x2), some (q_I x3), some (q_I (x4 + 1))]) ⟨rfl, ⟨rfl, ⟨rfl, ⟨rfl, ⟨rfl, trivial⟩⟩⟩⟩⟩ ?_
          exact ih _ _ _ _ _ Wq
        · replace Wq := Wq.2 c_92
          refine xe_aload_n dX11_go_95 rfl q_rvO ?_
          refine xe_iload dX11_go_96 rfl ?_
          refine xe_iconst 3 dX11_go_98 (by decide) ?_
          refine xe_cv (y' := mX11_load) dX11_go_99 (Or.inl lX11_178) tX11_load rfl rfl (ct_X11_load hS Wq) rfl rfl (Nat.le_of_ble_eq_true rfl) ⟨Nat.le_of_ble_eq_true rfl, Nat.le_of_ble_eq_true rfl⟩ ⟨Nat.le_of_ble_eq_true rfl, Nat.le_of_ble_eq_true rfl⟩ (fun v1 h1 hl1 hk1 hm1 => ?_)
          obtain ⟨r99, a99, rfl, rfl, Wq⟩ := hk1
          refine xe_if_le 108 dX11_go_102 (by decide) (fun c_102 => ?_) (fun c_102 => ?_)
          · replace Wq := Wq.1 c_102
            refine xe_iinc (_ + 1) dX11_go_108 (by decide) rfl rfl ?_
            refine xe_goto 66 dX11_go_111 (by decide) ?_
            refine q_wk (ls := [some (q_O 11 0), some (q_I x1), some (q_I x2), some (q_I x3), some (q_I (x4 + 1))]) ⟨rfl, ⟨rfl, ⟨rfl, ⟨rfl, ⟨rfl, trivial⟩⟩⟩⟩⟩ ?_
            exact ih _ _ _ _ _ Wq
          · replace Wq := Wq.2 c_102
            refine xe_bipush (-4) dX11_go_105 (by decide) ?_
            exact xe_iret .int dX11_go_107 rfl rfl ⟨_, _, rfl, rfl, Wq⟩
set_option maxHeartbeats 4000000 in
theorem el_X11_go_49 {g : q_G} {s : q_S} {t p : Nat} (hS : q_Sh t p s) {post : Int32 → qa → Prop} : ∀ (x1 : Int32) (x2 : Int32) (y0 : Int32) (a : qa), wl_X11_go_49 t p post x1 x2 y0 a → q_E g mX11_go (q_Rm 3 0 0) (q_kI s post) (0, 0) 49 [some (q_O 11 0), some (q_I x1), some (q_I x2), none, none] [(q_I y0)] (a, s) := by
  intro x1 x2 y0 a Wq
  unfold wl_X11_go_49 at Wq
  refine xe_istore_n dX11_go_49 (by decide) ?_
  refine xe_aload_n dX11_go_50 rfl q_rvO ?_
  refine xe_iload_n dX11_go_51 rfl ?_
  refine xe_cv (y' := mX11_isLeg) dX11_go_52 (Or.inl lX11_143) tX11_isLeg rfl rfl (ct_X11_isLeg hS Wq) rfl rfl (Nat.le_of_ble_eq_true rfl) ⟨Nat.le_of_ble_eq_true rfl, Nat.le_of_ble_eq_true rfl⟩ ⟨Nat.le_of_ble_eq_true rfl, Nat.le_of_ble_eq_true rfl⟩ (fun v1 h1 hl1 hk1 hm1 => ?_)
  obtain ⟨r52, a52, rfl, rfl, Wq⟩ := hk1
  refine xe_if_ne 61 dX11_go_55 (by decide) (fun c_55 => ?_) (fun c_55 => ?_)
  · replace Wq := Wq.1 c_55
    refine xe_iconst 3 dX11_go_61 (by decide) ?_
    refine xe_iload_n dX11_go_62 rfl ?_
    refine xe_imul dX11_go_63 ?_
    refine xe_istore dX11_go_64 (by decide) ?_
    obtain ⟨n_66, Wq⟩ := Wq
    refine q_wk (ls := [some (q_O 11 0), some (q_I x1), some (q_I x2), some (q_I y0), some (q_I (3 * x1))]) ⟨rfl, ⟨rfl, ⟨rfl, ⟨rfl, ⟨rfl, trivial⟩⟩⟩⟩⟩ ?_
    exact el_X11_go_66 hS n_66 _ _ _ _ _ Wq
  · replace Wq := Wq.2 c_55
    refine xe_bipush (-3) dX11_go_58 (by decide) ?_
    exact xe_iret .int dX11_go_60 rfl rfl ⟨_, _, rfl, rfl, Wq⟩
set_option maxHeartbeats 4000000 in
theorem ct_X11_go {g : q_G} {s : q_S} {t p : Nat} (hS : q_Sh t p s) {x1 : Int32} {x2 : Int32} {a : qa} {post : Int32 → qa → Prop} (Wq : wp_X11_go t p x1 x2 a post) : q_Ct g mX11_go (q_Rm 3 0 0) [q_O 11 0, q_I x1, q_I x2] (a, s) (q_kI s post) := by
  refine q_mk rfl rfl (Nat.le_of_ble_eq_true rfl) (q_cs rfl (q_cs rfl (q_cs rfl q_nil))) (fun hv => ?_)
  unfold wp_X11_go at Wq
  refine xe_aload_n dX11_go_0 rfl q_rvO ?_
  refine xe_iconst 0 dX11_go_1 (by decide) ?_
  refine xf_puti dX11_go_2 fX11_1 (fun q hq => Or.inl (by cases hq; rfl)) ⟨rfl, rfl⟩ (fun _ _ => rfl) ?_
  refine xe_aload_n dX11_go_5 rfl q_rvO ?_
  refine xe_iload_n dX11_go_6 rfl ?_
  refine xe_cv (y' := mX11_isString) dX11_go_7 (Or.inl lX11_172) tX11_isString rfl rfl (ct_X11_isString hS Wq) rfl rfl (Nat.le_of_ble_eq_true rfl) ⟨Nat.le_of_ble_eq_true rfl, Nat.le_of_ble_eq_true rfl⟩ ⟨Nat.le_of_ble_eq_true rfl, Nat.le_of_ble_eq_true rfl⟩ (fun v1 h1 hl1 hk1 hm1 => ?_)
  obtain ⟨r7, a7, rfl, rfl, Wq⟩ := hk1
  refine xe_if_ne 15 dX11_go_10 (by decide) (fun c_10 => ?_) (fun c_10 => ?_)
  · replace Wq := Wq.1 c_10
    refine xe_aload_n dX11_go_15 rfl q_rvO ?_
    refine xe_getr dX11_go_16 fX11_36 (fun _ _ => rfl) (q_sg hS rfl) ?_
    refine xe_iload_n dX11_go_19 rfl ?_
    obtain ⟨hj_20, Wq⟩ := Wq
    refine xe_iald dX11_go_20 rfl hj_20 ?_
    refine xe_iconst (-1) dX11_go_21 (by decide) ?_
    refine xe_ic_ne 28 dX11_go_22 (by decide) (fun c_22 => ?_) (fun c_22 => ?_)
    · replace Wq := Wq.1 c_22
      refine xe_iload_n dX11_go_28 rfl ?_
      refine xe_if_eq 41 dX11_go_29 (by decide) (fun c_29 => ?_) (fun c_29 => ?_)
      · replace Wq := Wq.1 c_29
        refine xe_aload_n dX11_go_41 rfl q_rvO ?_
        refine xe_getr dX11_go_42 fX11_36 (fun _ _ => rfl) (q_sg hS rfl) ?_
        refine xe_iload_n dX11_go_45 rfl ?_
        obtain ⟨hj_46, Wq⟩ := Wq
        refine xe_iald dX11_go_46 rfl hj_46 ?_
        refine xe_iconst 1 dX11_go_47 (by decide) ?_
        refine xe_isub dX11_go_48 ?_
        refine q_wk (ls := [some (q_O 11 0), some (q_I x1), some (q_I x2), none, none]) ⟨rfl, ⟨rfl, ⟨rfl, trivial⟩⟩⟩ ?_
        exact el_X11_go_49 hS _ _ _ _ Wq
      · replace Wq := Wq.2 c_29
        refine xe_aload_n dX11_go_32 rfl q_rvO ?_
        refine xe_getr dX11_go_33 fX11_36 (fun _ _ => rfl) (q_sg hS rfl) ?_
        refine xe_iload_n dX11_go_36 rfl ?_
        obtain ⟨hj_37, Wq⟩ := Wq
        refine xe_iald dX11_go_37 rfl hj_37 ?_
        refine xe_goto 49 dX11_go_38 (by decide) ?_
        refine q_wk (ls := [some (q_O 11 0), some (q_I x1), some (q_I x2), none, none]) ⟨rfl, ⟨rfl, ⟨rfl, trivial⟩⟩⟩ ?_
        exact el_X11_go_49 hS _ _ _ _ Wq
    · replace Wq := Wq.2 c_22
      refine xe_bipush (-2) dX11_go_25 (by decide) ?_
      exact xe_iret .int dX11_go_27 rfl rfl ⟨_, _, rfl, rfl, Wq⟩
  · replace Wq := Wq.2 c_10
    refine xe_iconst (-1) dX11_go_13 (by decide) ?_
    exact xe_iret .int dX11_go_14 rfl rfl ⟨_, _, rfl, rfl, Wq⟩
def wl_X11_holds_64 (t p : Nat) (J2 : Int32 → qa → Prop) (post : qa → Prop) : Int32 → Int32 → qa → Prop := fun x1 y0 a => wp_X11_isShut t p y0 (a 11 0 1) (a 11 0 1) a (fun r75 a75 => ((r75 = 0 → J2 (x1 + 1) a75) ∧ (¬ r75 = 0 → vp_in x1 100 ∧ vp_in x1 100 ∧ (J2 (x1 + 1) (qs a75 64 0 x1.toNatClampNeg ((a75 64 0 x1.toNatClampNeg) + 1))))))
def wl_X11_holds_2 (t p : Nat) (post : qa → Prop) : Nat → Int32 → qa → Prop
  | 0 => fun _ _ => False
  | n + 1 => fun x1 a => (((a 11 0 20) ≤ x1 → post a) ∧ (¬ (a 11 0 20) ≤ x1 → vp_in x1 100 ∧ ((¬ (a 58 0 x1.toNatClampNeg) = 2 → wp_X11_innOf t p x1 a (fun r25 a25 => ((r25 = (-1) → (wl_X11_holds_2 t p post n) (x1 + 1) a25) ∧ (¬ r25 = (-1) → vp_in x1 100 ∧ ((¬ r25 = (a25 57 0 x1.toNatClampNeg) → vp_in x1 100 ∧ (((a25 57 0 x1.toNatClampNeg) ≤ r25 → wl_X11_holds_64 t p (wl_X11_holds_2 t p post n) post x1 (r25 - 1) a25) ∧ (¬ (a25 57 0 x1.toNatClampNeg) ≤ r25 → wl_X11_holds_64 t p (wl_X11_holds_2 t p post n) post x1 r25 a25))) ∧ (r25 = (a25 57 0 x1.toNatClampNeg) → (wl_X11_holds_2 t p post n) (x1 + 1) a25)))))) ∧ ((a 58 0 x1.toNatClampNeg) = 2 → (wl_X11_holds_2 t p post n) (x1 + 1) a))))
def wp_X11_holds (t p : Nat) (a : qa) (post : qa → Prop) : Prop := ∃ n_2, wl_X11_holds_2 t p post n_2 0 a
set_option maxHeartbeats 4000000 in
theorem el_X11_holds_64 {g : q_G} {s : q_S} {t p : Nat} (hS : q_Sh t p s) {post : qa → Prop} {J2 : Int32 → qa → Prop} (hJ2 : ∀ (x1 : Int32) (a : qa), J2 x1 a → q_E g mX11_holds (q_Rm 3 0 0) (q_kV s post) (0, 0) 2 [some (q_O 11 0), some (q_I x1), none, none] [] (a, s)) : ∀ (x1 : Int32) (y0 : Int32) (a : qa), wl_X11_holds_64 t p J2 post x1 y0 a → q_E g mX11_holds (q_Rm 3 0 0) (q_kV s post) (0, 0) 64 [some (q_O 11 0), some (q_I x1), none, none] [(q_I y0)] (a, s) := by
  intro x1 y0 a Wq
  unfold wl_X11_holds_64 at Wq
  refine xe_istore_n dX11_holds_64 (by decide) ?_
  refine xe_aload_n dX11_holds_65 rfl q_rvO ?_
  refine xe_iload_n dX11_holds_66 rfl ?_
  refine xe_aload_n dX11_holds_67 rfl q_rvO ?_
  refine xe_geti dX11_holds_68 fX11_150 (fun _ _ => rfl) ?_
  refine xe_aload_n dX11_holds_71 rfl q_rvO ?_
  refine xe_geti dX11_holds_72 fX11_150 (fun _ _ => rfl) ?_
  refine xe_cv (y' := mX11_isShut) dX11_holds_75 (Or.inl lX11_153) tX11_isShut rfl rfl (ct_X11_isShut hS Wq) rfl rfl (Nat.le_of_ble_eq_true rfl) ⟨Nat.le_of_ble_eq_true rfl, Nat.le_of_ble_eq_true rfl⟩ ⟨Nat.le_of_ble_eq_true rfl, Nat.le_of_ble_eq_true rfl⟩ (fun v1 h1 hl1 hk1 hm1 => ?_)
  obtain ⟨r75, a75, rfl, rfl, Wq⟩ := hk1
  refine xe_if_eq 91 dX11_holds_78 (by decide) (fun c_78 => ?_) (fun c_78 => ?_)
  · replace Wq := Wq.1 c_78
    refine xe_iinc (_ + 1) dX11_holds_91 (by decide) rfl rfl ?_
    refine xe_goto 2 dX11_holds_94 (by decide) ?_
    refine q_wk (ls := [some (q_O 11 0), some (q_I (x1 + 1)), none, none]) ⟨rfl, ⟨rfl, trivial⟩⟩ ?_
    exact hJ2 _ _ Wq
  · replace Wq := Wq.2 c_78
    refine xe_aload_n dX11_holds_81 rfl q_rvO ?_
    refine xe_getr dX11_holds_82 fX11_87 (fun _ _ => rfl) (q_sg hS rfl) ?_
    refine xe_iload_n dX11_holds_85 rfl ?_
    refine xe_dup2 dX11_holds_86 rfl rfl ?_
    obtain ⟨hj_87, Wq⟩ := Wq
    refine xe_iald dX11_holds_87 rfl hj_87 ?_
    refine xe_iconst 1 dX11_holds_88 (by decide) ?_
    refine xe_iadd dX11_holds_89 ?_
    obtain ⟨hj_90, Wq⟩ := Wq
    refine xf_iast dX11_holds_90 rfl hj_90 ?_
    refine xe_iinc (_ + 1) dX11_holds_91 (by decide) rfl rfl ?_
    refine xe_goto 2 dX11_holds_94 (by decide) ?_
    refine q_wk (ls := [some (q_O 11 0), some (q_I (x1 + 1)), none, none]) ⟨rfl, ⟨rfl, trivial⟩⟩ ?_
    exact hJ2 _ _ Wq
set_option maxHeartbeats 4000000 in
theorem el_X11_holds_2 {g : q_G} {s : q_S} {t p : Nat} (hS : q_Sh t p s) {post : qa → Prop} : ∀ (n : Nat) (x1 : Int32) (a : qa), wl_X11_holds_2 t p post n x1 a → q_E g mX11_holds (q_Rm 3 0 0) (q_kV s post) (0, 0) 2 [some (q_O 11 0), some (q_I x1), none, none] [] (a, s) := by
  intro n
  induction n with
  | zero =>
    intro x1 a Wq
    exact absurd Wq id
  | succ n ih =>
    intro x1 a Wq
    unfold wl_X11_holds_2 at Wq
    refine xe_iload_n dX11_holds_2 rfl ?_
    refine xe_aload_n dX11_holds_3 rfl q_rvO ?_
    refine xe_geti dX11_holds_4 fX11_165 (fun _ _ => rfl) ?_
    refine xe_ic_ge 97 dX11_holds_7 (by decide) (fun c_7 => ?_) (fun c_7 => ?_)
    · replace Wq := Wq.1 c_7
      exact xe_vret dX11_holds_97 rfl ⟨_, rfl, rfl, Wq⟩
    · replace Wq := Wq.2 c_7
      refine xe_aload_n dX11_holds_10 rfl q_rvO ?_
      refine xe_getr dX11_holds_11 fX11_69 (fun _ _ => rfl) (q_sg hS rfl) ?_
      refine xe_iload_n dX11_holds_14 rfl ?_
      obtain ⟨hj_15, Wq⟩ := Wq
      refine xe_iald dX11_holds_15 rfl hj_15 ?_
      refine xe_iconst 2 dX11_holds_16 (by decide) ?_
      refine xe_ic_ne 23 dX11_holds_17 (by decide) (fun c_17 => ?_) (fun c_17 => ?_)
      · replace Wq := Wq.1 c_17
        refine xe_aload_n dX11_holds_23 rfl q_rvO ?_
        refine xe_iload_n dX11_holds_24 rfl ?_
        refine xe_cv (y' := mX11_innOf) dX11_holds_25 (Or.inl lX11_197) tX11_innOf rfl rfl (ct_X11_innOf hS Wq) rfl rfl (Nat.le_of_ble_eq_true rfl) ⟨Nat.le_of_ble_eq_true rfl, Nat.le_of_ble_eq_true rfl⟩ ⟨Nat.le_of_ble_eq_true rfl, Nat.le_of_ble_eq_true rfl⟩ (fun v1 h1 hl1 hk1 hm1 => ?_)
        obtain ⟨r25, a25, rfl, rfl, Wq⟩ := hk1
        refine xe_istore_n dX11_holds_28 (by decide) ?_
        refine xe_iload_n dX11_holds_29 rfl ?_
        refine xe_iconst (-1) dX11_holds_30 (by decide) ?_
        refine xe_ic_eq 91 dX11_holds_31 (by decide) (fun c_31 => ?_) (fun c_31 => ?_)
        · replace Wq := Wq.1 c_31
          refine xe_iinc (_ + 1) dX11_holds_91 (by decide) rfl rfl ?_
          refine xe_goto 2 dX11_holds_94 (by decide) ?_
          refine q_wk (ls := [some (q_O 11 0), some (q_I (x1 + 1)), none, none]) ⟨rfl, ⟨rfl, trivial⟩⟩ ?_
          exact ih _ _ Wq
        · replace Wq := Wq.2 c_31
          refine xe_iload_n dX11_holds_34 rfl ?_
          refine xe_aload_n dX11_holds_35 rfl q_rvO ?_
          refine xe_getr dX11_holds_36 fX11_66 (fun _ _ => rfl) (q_sg hS rfl) ?_
          refine xe_iload_n dX11_holds_39 rfl ?_
          obtain ⟨hj_40, Wq⟩ := Wq
          refine xe_iald dX11_holds_40 rfl hj_40 ?_
          refine xe_ic_ne 47 dX11_holds_41 (by decide) (fun c_41 => ?_) (fun c_41 => ?_)
          · replace Wq := Wq.1 c_41
            refine xe_aload_n dX11_holds_47 rfl q_rvO ?_
            refine xe_getr dX11_holds_48 fX11_66 (fun _ _ => rfl) (q_sg hS rfl) ?_
            refine xe_iload_n dX11_holds_51 rfl ?_
            obtain ⟨hj_52, Wq⟩ := Wq
            refine xe_iald dX11_holds_52 rfl hj_52 ?_
            refine xe_iload_n dX11_holds_53 rfl ?_
            refine xe_ic_le 61 dX11_holds_54 (by decide) (fun c_54 => ?_) (fun c_54 => ?_)
            · replace Wq := Wq.1 c_54
              refine xe_iload_n dX11_holds_61 rfl ?_
              refine xe_iconst 1 dX11_holds_62 (by decide) ?_
              refine xe_isub dX11_holds_63 ?_
              refine q_wk (ls := [some (q_O 11 0), some (q_I x1), none, none]) ⟨rfl, ⟨rfl, trivial⟩⟩ ?_
              exact el_X11_holds_64 hS ih _ _ _ Wq
            · replace Wq := Wq.2 c_54
              refine xe_iload_n dX11_holds_57 rfl ?_
              refine xe_goto 64 dX11_holds_58 (by decide) ?_
              refine q_wk (ls := [some (q_O 11 0), some (q_I x1), none, none]) ⟨rfl, ⟨rfl, trivial⟩⟩ ?_
              exact el_X11_holds_64 hS ih _ _ _ Wq
          · replace Wq := Wq.2 c_41
            refine xe_goto 91 dX11_holds_44 (by decide) ?_
            refine xe_iinc (_ + 1) dX11_holds_91 (by decide) rfl rfl ?_
            refine xe_goto 2 dX11_holds_94 (by decide) ?_
            refine q_wk (ls := [some (q_O 11 0), some (q_I (x1 + 1)), none, none]) ⟨rfl, ⟨rfl, trivial⟩⟩ ?_
            exact ih _ _ Wq
      · replace Wq := Wq.2 c_17
        refine xe_goto 91 dX11_holds_20 (by decide) ?_
        refine xe_iinc (_ + 1) dX11_holds_91 (by decide) rfl rfl ?_
        refine xe_goto 2 dX11_holds_94 (by decide) ?_
        refine q_wk (ls := [some (q_O 11 0), some (q_I (x1 + 1)), none, none]) ⟨rfl, ⟨rfl, trivial⟩⟩ ?_
        exact ih _ _ Wq
set_option maxHeartbeats 4000000 in
theorem ct_X11_holds {g : q_G} {s : q_S} {t p : Nat} (hS : q_Sh t p s) {a : qa} {post : qa → Prop} (Wq : wp_X11_holds t p  a post) : q_Ct g mX11_holds (q_Rm 3 0 0) [q_O 11 0] (a, s) (q_kV s post) := by
  refine q_mk rfl rfl (Nat.le_of_ble_eq_true rfl) (q_cs rfl q_nil) (fun hv => ?_)
  unfold wp_X11_holds at Wq
  refine xe_iconst 0 dX11_holds_0 (by decide) ?_
  refine xe_istore_n dX11_holds_1 (by decide) ?_
  obtain ⟨n_2, Wq⟩ := Wq
  refine q_wk (ls := [some (q_O 11 0), some (q_I 0), none, none]) ⟨rfl, ⟨rfl, trivial⟩⟩ ?_
  exact el_X11_holds_2 hS n_2 _ _ Wq
def wl_X11_number_20 (t p : Nat) (post : Int32 → qa → Prop) : qa → Prop := fun a => wp_X11_isWell t p  a (fun r21 a21 => ((¬ r21 = 0 → wp_X11_next t p  a21 (fun a35 => post (a21 11 0 46) a35)) ∧ (r21 = 0 → post 0 a21)))
def wp_X11_number (t p : Nat) (a : qa) (post : Int32 → qa → Prop) : Prop := wp_X11_isWell t p  a (fun r1 a1 => ((r1 = 0 → wl_X11_number_20 t p post  a1) ∧ (¬ r1 = 0 → (((a1 11 0 45) = 2 → wl_X11_number_20 t p post  a1) ∧ (¬ (a1 11 0 45) = 2 → wp_X11_fails t p 1 a1 (fun a17 => wl_X11_number_20 t p post  a17))))))
set_option maxHeartbeats 4000000 in
theorem el_X11_number_20 {g : q_G} {s : q_S} {t p : Nat} (hS : q_Sh t p s) {post : Int32 → qa → Prop} : ∀ (a : qa), wl_X11_number_20 t p post a → q_E g mX11_number (q_Rm 3 0 0) (q_kI s post) (0, 0) 20 [some (q_O 11 0), none] [] (a, s) := by
  intro a Wq
  unfold wl_X11_number_20 at Wq
  refine xe_aload_n dX11_number_20 rfl q_rvO ?_
  refine xe_cv (y' := mX11_isWell) dX11_number_21 (Or.inl lX11_301) tX11_isWell rfl rfl (ct_X11_isWell hS Wq) rfl rfl (Nat.le_of_ble_eq_true rfl) ⟨Nat.le_of_ble_eq_true rfl, Nat.le_of_ble_eq_true rfl⟩ ⟨Nat.le_of_ble_eq_true rfl, Nat.le_of_ble_eq_true rfl⟩ (fun v1 h1 hl1 hk1 hm1 => ?_)
  obtain ⟨r21, a21, rfl, rfl, Wq⟩ := hk1
  refine xe_if_ne 29 dX11_number_24 (by decide) (fun c_24 => ?_) (fun c_24 => ?_)
  · replace Wq := Wq.1 c_24
    refine xe_aload_n dX11_number_29 rfl q_rvO ?_
    refine xe_geti dX11_number_30 fX11_251 (fun _ _ => rfl) ?_
    refine xe_istore_n dX11_number_33 (by decide) ?_
    refine xe_aload_n dX11_number_34 rfl q_rvO ?_
    refine xe_cv (y' := mX11_next) dX11_number_35 (Or.inl lX11_292) tX11_next rfl rfl (ct_X11_next hS Wq) rfl rfl (Nat.le_of_ble_eq_true rfl) ⟨Nat.le_of_ble_eq_true rfl, Nat.le_of_ble_eq_true rfl⟩ ⟨Nat.le_of_ble_eq_true rfl, Nat.le_of_ble_eq_true rfl⟩ (fun v1 h1 hl1 hk1 hm1 => ?_)
    obtain ⟨a35, rfl, rfl, Wq⟩ := hk1
    refine xe_iload_n dX11_number_38 rfl ?_
    exact xe_iret .int dX11_number_39 rfl rfl ⟨_, _, rfl, rfl, Wq⟩
  · replace Wq := Wq.2 c_24
    refine xe_iconst 0 dX11_number_27 (by decide) ?_
    exact xe_iret .int dX11_number_28 rfl rfl ⟨_, _, rfl, rfl, Wq⟩
set_option maxHeartbeats 4000000 in
theorem ct_X11_number {g : q_G} {s : q_S} {t p : Nat} (hS : q_Sh t p s) {a : qa} {post : Int32 → qa → Prop} (Wq : wp_X11_number t p  a post) : q_Ct g mX11_number (q_Rm 3 0 0) [q_O 11 0] (a, s) (q_kI s post) := by
  refine q_mk rfl rfl (Nat.le_of_ble_eq_true rfl) (q_cs rfl q_nil) (fun hv => ?_)
  unfold wp_X11_number at Wq
  refine xe_aload_n dX11_number_0 rfl q_rvO ?_
  refine xe_cv (y' := mX11_isWell) dX11_number_1 (Or.inl lX11_301) tX11_isWell rfl rfl (ct_X11_isWell hS Wq) rfl rfl (Nat.le_of_ble_eq_true rfl) ⟨Nat.le_of_ble_eq_true rfl, Nat.le_of_ble_eq_true rfl⟩ ⟨Nat.le_of_ble_eq_true rfl, Nat.le_of_ble_eq_true rfl⟩ (fun v1 h1 hl1 hk1 hm1 => ?_)
  obtain ⟨r1, a1, rfl, rfl, Wq⟩ := hk1
  refine xe_if_eq 20 dX11_number_4 (by decide) (fun c_4 => ?_) (fun c_4 => ?_)
  · replace Wq := Wq.1 c_4
    refine q_wk (ls := [some (q_O 11 0), none]) ⟨rfl, trivial⟩ ?_
    exact el_X11_number_20 hS  _ Wq
  · replace Wq := Wq.2 c_4
    refine xe_aload_n dX11_number_7 rfl q_rvO ?_
    refine xe_geti dX11_number_8 fX11_239 (fun _ _ => rfl) ?_
    refine xe_iconst 2 dX11_number_11 (by decide) ?_
    refine xe_ic_eq 20 dX11_number_12 (by decide) (fun c_12 => ?_) (fun c_12 => ?_)
    · replace Wq := Wq.1 c_12
      refine q_wk (ls := [some (q_O 11 0), none]) ⟨rfl, trivial⟩ ?_
      exact el_X11_number_20 hS  _ Wq
    · replace Wq := Wq.2 c_12
      refine xe_aload_n dX11_number_15 rfl q_rvO ?_
      refine xe_iconst 1 dX11_number_16 (by decide) ?_
      refine xe_cv (y' := mX11_fails) dX11_number_17 (Or.inl lX11_289) tX11_fails rfl rfl (ct_X11_fails hS Wq) rfl rfl (Nat.le_of_ble_eq_true rfl) ⟨Nat.le_of_ble_eq_true rfl, Nat.le_of_ble_eq_true rfl⟩ ⟨Nat.le_of_ble_eq_true rfl, Nat.le_of_ble_eq_true rfl⟩ (fun v1 h1 hl1 hk1 hm1 => ?_)
      obtain ⟨a17, rfl, rfl, Wq⟩ := hk1
      refine q_wk (ls := [some (q_O 11 0), none]) ⟨rfl, trivial⟩ ?_
      exact el_X11_number_20 hS  _ Wq
def wp_X11_shut (t p : Nat) (x1 : Int32) (x2 : Int32) (x3 : Int32) (a : qa) (post : Int32 → qa → Prop) : Prop := wp_X11_isLeg t p x1 (qs a 11 0 0 0) (fun r7 a7 => ((r7 = 0 → post (-1) a7) ∧ (¬ r7 = 0 → wp_X11_within t p x2 0 9999 a7 (fun r18 a18 => ((r18 = 0 → post (-1) a18) ∧ (¬ r18 = 0 → wp_X11_within t p x3 0 (a18 11 0 1) a18 (fun r30 a30 => ((¬ r30 = 0 → wp_X11_isShut t p x1 x2 x3 a30 (fun r42 a42 => ((r42 = 0 → post 0 a42) ∧ (¬ r42 = 0 → post 1 a42)))) ∧ (r30 = 0 → post (-1) a30)))))))))
set_option maxHeartbeats 4000000 in
theorem ct_X11_shut {g : q_G} {s : q_S} {t p : Nat} (hS : q_Sh t p s) {x1 : Int32} {x2 : Int32} {x3 : Int32} {a : qa} {post : Int32 → qa → Prop} (Wq : wp_X11_shut t p x1 x2 x3 a post) : q_Ct g mX11_shut (q_Rm 3 0 0) [q_O 11 0, q_I x1, q_I x2, q_I x3] (a, s) (q_kI s post) := by
  refine q_mk rfl rfl (Nat.le_of_ble_eq_true rfl) (q_cs rfl (q_cs rfl (q_cs rfl (q_cs rfl q_nil)))) (fun hv => ?_)
  unfold wp_X11_shut at Wq
  refine xe_aload_n dX11_shut_0 rfl q_rvO ?_
  refine xe_iconst 0 dX11_shut_1 (by decide) ?_
  refine xf_puti dX11_shut_2 fX11_1 (fun q hq => Or.inl (by cases hq; rfl)) ⟨rfl, rfl⟩ (fun _ _ => rfl) ?_
  refine xe_aload_n dX11_shut_5 rfl q_rvO ?_
  refine xe_iload_n dX11_shut_6 rfl ?_
  refine xe_cv (y' := mX11_isLeg) dX11_shut_7 (Or.inl lX11_143) tX11_isLeg rfl rfl (ct_X11_isLeg hS Wq) rfl rfl (Nat.le_of_ble_eq_true rfl) ⟨Nat.le_of_ble_eq_true rfl, Nat.le_of_ble_eq_true rfl⟩ ⟨Nat.le_of_ble_eq_true rfl, Nat.le_of_ble_eq_true rfl⟩ (fun v1 h1 hl1 hk1 hm1 => ?_)
  obtain ⟨r7, a7, rfl, rfl, Wq⟩ := hk1
  refine xe_if_eq 36 dX11_shut_10 (by decide) (fun c_10 => ?_) (fun c_10 => ?_)
  · replace Wq := Wq.1 c_10
    refine xe_iconst (-1) dX11_shut_36 (by decide) ?_
    exact xe_iret .int dX11_shut_37 rfl rfl ⟨_, _, rfl, rfl, Wq⟩
  · replace Wq := Wq.2 c_10
    refine xe_iload_n dX11_shut_13 rfl ?_
    refine xe_iconst 0 dX11_shut_14 (by decide) ?_
    refine xe_sipush 9999 dX11_shut_15 (by decide) ?_
    refine xe_cs (y' := mX11_within) dX11_shut_18 (Or.inl lX11_139) tX11_within (ct_X11_within hS Wq) rfl rfl (Nat.le_of_ble_eq_true rfl) ⟨Nat.le_of_ble_eq_true rfl, Nat.le_of_ble_eq_true rfl⟩ ⟨Nat.le_of_ble_eq_true rfl, Nat.le_of_ble_eq_true rfl⟩ (fun v1 h1 hl1 hk1 hm1 => ?_)
    obtain ⟨r18, a18, rfl, rfl, Wq⟩ := hk1
    refine xe_if_eq 36 dX11_shut_21 (by decide) (fun c_21 => ?_) (fun c_21 => ?_)
    · replace Wq := Wq.1 c_21
      refine xe_iconst (-1) dX11_shut_36 (by decide) ?_
      exact xe_iret .int dX11_shut_37 rfl rfl ⟨_, _, rfl, rfl, Wq⟩
    · replace Wq := Wq.2 c_21
      refine xe_iload_n dX11_shut_24 rfl ?_
      refine xe_iconst 0 dX11_shut_25 (by decide) ?_
      refine xe_aload_n dX11_shut_26 rfl q_rvO ?_
      refine xe_geti dX11_shut_27 fX11_150 (fun _ _ => rfl) ?_
      refine xe_cs (y' := mX11_within) dX11_shut_30 (Or.inl lX11_139) tX11_within (ct_X11_within hS Wq) rfl rfl (Nat.le_of_ble_eq_true rfl) ⟨Nat.le_of_ble_eq_true rfl, Nat.le_of_ble_eq_true rfl⟩ ⟨Nat.le_of_ble_eq_true rfl, Nat.le_of_ble_eq_true rfl⟩ (fun v1 h1 hl1 hk1 hm1 => ?_)
      obtain ⟨r30, a30, rfl, rfl, Wq⟩ := hk1
      refine xe_if_ne 38 dX11_shut_33 (by decide) (fun c_33 => ?_) (fun c_33 => ?_)
      · replace Wq := Wq.1 c_33
        refine xe_aload_n dX11_shut_38 rfl q_rvO ?_
        refine xe_iload_n dX11_shut_39 rfl ?_
        refine xe_iload_n dX11_shut_40 rfl ?_
        refine xe_iload_n dX11_shut_41 rfl ?_
        refine xe_cv (y' := mX11_isShut) dX11_shut_42 (Or.inl lX11_153) tX11_isShut rfl rfl (ct_X11_isShut hS Wq) rfl rfl (Nat.le_of_ble_eq_true rfl) ⟨Nat.le_of_ble_eq_true rfl, Nat.le_of_ble_eq_true rfl⟩ ⟨Nat.le_of_ble_eq_true rfl, Nat.le_of_ble_eq_true rfl⟩ (fun v1 h1 hl1 hk1 hm1 => ?_)
        obtain ⟨r42, a42, rfl, rfl, Wq⟩ := hk1
        refine xe_if_eq 52 dX11_shut_45 (by decide) (fun c_45 => ?_) (fun c_45 => ?_)
        · replace Wq := Wq.1 c_45
          refine xe_iconst 0 dX11_shut_52 (by decide) ?_
          exact xe_iret .int dX11_shut_53 rfl rfl ⟨_, _, rfl, rfl, Wq⟩
        · replace Wq := Wq.2 c_45
          refine xe_iconst 1 dX11_shut_48 (by decide) ?_
          refine xe_goto 53 dX11_shut_49 (by decide) ?_
          exact xe_iret .int dX11_shut_53 rfl rfl ⟨_, _, rfl, rfl, Wq⟩
      · replace Wq := Wq.2 c_33
        refine xe_iconst (-1) dX11_shut_36 (by decide) ?_
        exact xe_iret .int dX11_shut_37 rfl rfl ⟨_, _, rfl, rfl, Wq⟩
def wp_X11_want (t p : Nat) (x1 : Int32) (a : qa) (post : qa → Prop) : Prop := wp_X11_isWell t p  a (fun r1 a1 => ((¬ r1 = 0 → wp_X11_is t p x1 a1 (fun r10 a10 => ((r10 = 0 → wp_X11_fails t p 1 a10 (fun a25 => post a25)) ∧ (¬ r10 = 0 → wp_X11_next t p  a10 (fun a17 => post a17))))) ∧ (r1 = 0 → post a1)))
set_option maxHeartbeats 4000000 in
theorem ct_X11_want {g : q_G} {s : q_S} {t p : Nat} (hS : q_Sh t p s) {x1 : Int32} {a : qa} {post : qa → Prop} (Wq : wp_X11_want t p x1 a post) : q_Ct g mX11_want (q_Rm 3 0 0) [q_O 11 0, q_I x1] (a, s) (q_kV s post) := by
  refine q_mk rfl rfl (Nat.le_of_ble_eq_true rfl) (q_cs rfl (q_cs rfl q_nil)) (fun hv => ?_)
  unfold wp_X11_want at Wq
  refine xe_aload_n dX11_want_0 rfl q_rvO ?_
  refine xe_cv (y' := mX11_isWell) dX11_want_1 (Or.inl lX11_301) tX11_isWell rfl rfl (ct_X11_isWell hS Wq) rfl rfl (Nat.le_of_ble_eq_true rfl) ⟨Nat.le_of_ble_eq_true rfl, Nat.le_of_ble_eq_true rfl⟩ ⟨Nat.le_of_ble_eq_true rfl, Nat.le_of_ble_eq_true rfl⟩ (fun v1 h1 hl1 hk1 hm1 => ?_)
  obtain ⟨r1, a1, rfl, rfl, Wq⟩ := hk1
  refine xe_if_ne 8 dX11_want_4 (by decide) (fun c_4 => ?_) (fun c_4 => ?_)
  · replace Wq := Wq.1 c_4
    refine xe_aload_n dX11_want_8 rfl q_rvO ?_
    refine xe_iload_n dX11_want_9 rfl ?_
    refine xe_cv (y' := mX11_is) dX11_want_10 (Or.inl lX11_295) tX11_is rfl rfl (ct_X11_is hS Wq) rfl rfl (Nat.le_of_ble_eq_true rfl) ⟨Nat.le_of_ble_eq_true rfl, Nat.le_of_ble_eq_true rfl⟩ ⟨Nat.le_of_ble_eq_true rfl, Nat.le_of_ble_eq_true rfl⟩ (fun v1 h1 hl1 hk1 hm1 => ?_)
    obtain ⟨r10, a10, rfl, rfl, Wq⟩ := hk1
    refine xe_if_eq 23 dX11_want_13 (by decide) (fun c_13 => ?_) (fun c_13 => ?_)
    · replace Wq := Wq.1 c_13
      refine xe_aload_n dX11_want_23 rfl q_rvO ?_
      refine xe_iconst 1 dX11_want_24 (by decide) ?_
      refine xe_cv (y' := mX11_fails) dX11_want_25 (Or.inl lX11_289) tX11_fails rfl rfl (ct_X11_fails hS Wq) rfl rfl (Nat.le_of_ble_eq_true rfl) ⟨Nat.le_of_ble_eq_true rfl, Nat.le_of_ble_eq_true rfl⟩ ⟨Nat.le_of_ble_eq_true rfl, Nat.le_of_ble_eq_true rfl⟩ (fun v1 h1 hl1 hk1 hm1 => ?_)
      obtain ⟨a25, rfl, rfl, Wq⟩ := hk1
      exact xe_vret dX11_want_28 rfl ⟨_, rfl, rfl, Wq⟩
    · replace Wq := Wq.2 c_13
      refine xe_aload_n dX11_want_16 rfl q_rvO ?_
      refine xe_cv (y' := mX11_next) dX11_want_17 (Or.inl lX11_292) tX11_next rfl rfl (ct_X11_next hS Wq) rfl rfl (Nat.le_of_ble_eq_true rfl) ⟨Nat.le_of_ble_eq_true rfl, Nat.le_of_ble_eq_true rfl⟩ ⟨Nat.le_of_ble_eq_true rfl, Nat.le_of_ble_eq_true rfl⟩ (fun v1 h1 hl1 hk1 hm1 => ?_)
      obtain ⟨a17, rfl, rfl, Wq⟩ := hk1
      refine xe_goto 28 dX11_want_20 (by decide) ?_
      exact xe_vret dX11_want_28 rfl ⟨_, rfl, rfl, Wq⟩
  · replace Wq := Wq.2 c_4
    exact xe_vret dX11_want_7 rfl ⟨_, rfl, rfl, Wq⟩
def wp_X11_count (t p : Nat) (x1 : Int32) (a : qa) (post : Int32 → qa → Prop) : Prop := ((x1 = 0 → post (a 11 0 1) (qs a 11 0 0 0)) ∧ (x1 = 1 → post (a 11 0 2) (qs a 11 0 0 0)) ∧ (x1 = 2 → post (a 11 0 11) (qs a 11 0 0 0)) ∧ (x1 = 3 → post (a 11 0 20) (qs a 11 0 0 0)) ∧ (x1 = 4 → post (a 11 0 6) (qs a 11 0 0 0)) ∧ (x1 = 5 → post (a 11 0 50) (qs a 11 0 0 0)) ∧ (x1 = 6 → post (a 11 0 42) (qs a 11 0 0 0)) ∧ (x1 = 7 → wp_X11_many t p 0 (qs a 11 0 0 0) (fun r97 a97 => post r97 a97)) ∧ (x1 = 8 → wp_X11_many t p 2 (qs a 11 0 0 0) (fun r103 a103 => post r103 a103)) ∧ (x1 = 9 → wp_X11_allBrought t p  (qs a 11 0 0 0) (fun r108 a108 => post r108 a108)) ∧ (¬ x1 = 0 → ¬ x1 = 1 → ¬ x1 = 2 → ¬ x1 = 3 → ¬ x1 = 4 → ¬ x1 = 5 → ¬ x1 = 6 → ¬ x1 = 7 → ¬ x1 = 8 → ¬ x1 = 9 → post (-1) (qs a 11 0 0 0)))
set_option maxHeartbeats 4000000 in
theorem ct_X11_count {g : q_G} {s : q_S} {t p : Nat} (hS : q_Sh t p s) {x1 : Int32} {a : qa} {post : Int32 → qa → Prop} (Wq : wp_X11_count t p x1 a post) : q_Ct g mX11_count (q_Rm 4 0 0) [q_O 11 0, q_I x1] (a, s) (q_kI s post) := by
  refine q_mk rfl rfl (Nat.le_of_ble_eq_true rfl) (q_cs rfl (q_cs rfl q_nil)) (fun hv => ?_)
  unfold wp_X11_count at Wq
  refine xe_aload_n dX11_count_0 rfl q_rvO ?_
  refine xe_iconst 0 dX11_count_1 (by decide) ?_
  refine xf_puti dX11_count_2 fX11_1 (fun q hq => Or.inl (by cases hq; rfl)) ⟨rfl, rfl⟩ (fun _ _ => rfl) ?_
  refine xe_iload_n dX11_count_5 rfl ?_
  by_cases e_6_0 : x1 = 0
  · replace Wq := Wq.1 e_6_0
    have e9 := q_toI e_6_0 (show (0 : Int32).toInt = 0 by decide)
    refine xe_swIn 60 dX11_count_6 (by omega) (by omega) (by rw [e9]; rfl) (by decide) ?_
    refine xe_aload_n dX11_count_60 rfl q_rvO ?_
    refine xe_geti dX11_count_61 fX11_150 (fun _ _ => rfl) ?_
    exact xe_iret .int dX11_count_64 rfl rfl ⟨_, _, rfl, rfl, Wq⟩
  by_cases e_6_1 : x1 = 1
  · replace Wq := Wq.2.1 e_6_1
    have e9 := q_toI e_6_1 (show (1 : Int32).toInt = 1 by decide)
    refine xe_swIn 65 dX11_count_6 (by omega) (by omega) (by rw [e9]; rfl) (by decide) ?_
    refine xe_aload_n dX11_count_65 rfl q_rvO ?_
    refine xe_geti dX11_count_66 fX11_136 (fun _ _ => rfl) ?_
    exact xe_iret .int dX11_count_69 rfl rfl ⟨_, _, rfl, rfl, Wq⟩
  by_cases e_6_2 : x1 = 2
  · replace Wq := Wq.2.2.1 e_6_2
    have e9 := q_toI e_6_2 (show (2 : Int32).toInt = 2 by decide)
    refine xe_swIn 70 dX11_count_6 (by omega) (by omega) (by rw [e9]; rfl) (by decide) ?_
    refine xe_aload_n dX11_count_70 rfl q_rvO ?_
    refine xe_geti dX11_count_71 fX11_159 (fun _ _ => rfl) ?_
    exact xe_iret .int dX11_count_74 rfl rfl ⟨_, _, rfl, rfl, Wq⟩
  by_cases e_6_3 : x1 = 3
  · replace Wq := Wq.2.2.2.1 e_6_3
    have e9 := q_toI e_6_3 (show (3 : Int32).toInt = 3 by decide)
    refine xe_swIn 75 dX11_count_6 (by omega) (by omega) (by rw [e9]; rfl) (by decide) ?_
    refine xe_aload_n dX11_count_75 rfl q_rvO ?_
    refine xe_geti dX11_count_76 fX11_165 (fun _ _ => rfl) ?_
    exact xe_iret .int dX11_count_79 rfl rfl ⟨_, _, rfl, rfl, Wq⟩
  by_cases e_6_4 : x1 = 4
  · replace Wq := Wq.2.2.2.2.1 e_6_4
    have e9 := q_toI e_6_4 (show (4 : Int32).toInt = 4 by decide)
    refine xe_swIn 80 dX11_count_6 (by omega) (by omega) (by rw [e9]; rfl) (by decide) ?_
    refine xe_aload_n dX11_count_80 rfl q_rvO ?_
    refine xe_geti dX11_count_81 fX11_147 (fun _ _ => rfl) ?_
    exact xe_iret .int dX11_count_84 rfl rfl ⟨_, _, rfl, rfl, Wq⟩
  by_cases e_6_5 : x1 = 5
  · replace Wq := Wq.2.2.2.2.2.1 e_6_5
    have e9 := q_toI e_6_5 (show (5 : Int32).toInt = 5 by decide)
    refine xe_swIn 85 dX11_count_6 (by omega) (by omega) (by rw [e9]; rfl) (by decide) ?_
    refine xe_aload_n dX11_count_85 rfl q_rvO ?_
    refine xe_geti dX11_count_86 fX11_313 (fun _ _ => rfl) ?_
    exact xe_iret .int dX11_count_89 rfl rfl ⟨_, _, rfl, rfl, Wq⟩
  by_cases e_6_6 : x1 = 6
  · replace Wq := Wq.2.2.2.2.2.2.1 e_6_6
    have e9 := q_toI e_6_6 (show (6 : Int32).toInt = 6 by decide)
    refine xe_swIn 90 dX11_count_6 (by omega) (by omega) (by rw [e9]; rfl) (by decide) ?_
    refine xe_aload_n dX11_count_90 rfl q_rvO ?_
    refine xe_geti dX11_count_91 fX11_230 (fun _ _ => rfl) ?_
    exact xe_iret .int dX11_count_94 rfl rfl ⟨_, _, rfl, rfl, Wq⟩
  by_cases e_6_7 : x1 = 7
  · replace Wq := Wq.2.2.2.2.2.2.2.1 e_6_7
    have e9 := q_toI e_6_7 (show (7 : Int32).toInt = 7 by decide)
    refine xe_swIn 95 dX11_count_6 (by omega) (by omega) (by rw [e9]; rfl) (by decide) ?_
    refine xe_aload_n dX11_count_95 rfl q_rvO ?_
    refine xe_iconst 0 dX11_count_96 (by decide) ?_
    refine xe_cv (y' := mX11_many) dX11_count_97 (Or.inl lX11_330) tX11_many rfl rfl (ct_X11_many hS Wq) rfl rfl (Nat.le_of_ble_eq_true rfl) ⟨Nat.le_of_ble_eq_true rfl, Nat.le_of_ble_eq_true rfl⟩ ⟨Nat.le_of_ble_eq_true rfl, Nat.le_of_ble_eq_true rfl⟩ (fun v1 h1 hl1 hk1 hm1 => ?_)
    obtain ⟨r97, a97, rfl, rfl, Wq⟩ := hk1
    exact xe_iret .int dX11_count_100 rfl rfl ⟨_, _, rfl, rfl, Wq⟩
  by_cases e_6_8 : x1 = 8
  · replace Wq := Wq.2.2.2.2.2.2.2.2.1 e_6_8
    have e9 := q_toI e_6_8 (show (8 : Int32).toInt = 8 by decide)
    refine xe_swIn 101 dX11_count_6 (by omega) (by omega) (by rw [e9]; rfl) (by decide) ?_
    refine xe_aload_n dX11_count_101 rfl q_rvO ?_
    refine xe_iconst 2 dX11_count_102 (by decide) ?_
    refine xe_cv (y' := mX11_many) dX11_count_103 (Or.inl lX11_330) tX11_many rfl rfl (ct_X11_many hS Wq) rfl rfl (Nat.le_of_ble_eq_true rfl) ⟨Nat.le_of_ble_eq_true rfl, Nat.le_of_ble_eq_true rfl⟩ ⟨Nat.le_of_ble_eq_true rfl, Nat.le_of_ble_eq_true rfl⟩ (fun v1 h1 hl1 hk1 hm1 => ?_)
    obtain ⟨r103, a103, rfl, rfl, Wq⟩ := hk1
    exact xe_iret .int dX11_count_106 rfl rfl ⟨_, _, rfl, rfl, Wq⟩
  by_cases e_6_9 : x1 = 9
  · replace Wq := Wq.2.2.2.2.2.2.2.2.2.1 e_6_9
    have e9 := q_toI e_6_9 (show (9 : Int32).toInt = 9 by decide)
    refine xe_swIn 107 dX11_count_6 (by omega) (by omega) (by rw [e9]; rfl) (by decide) ?_
    refine xe_aload_n dX11_count_107 rfl q_rvO ?_
    refine xe_cv (y' := mX11_allBrought) dX11_count_108 (Or.inl lX11_333) tX11_allBrought rfl rfl (ct_X11_allBrought hS Wq) rfl rfl (Nat.le_of_ble_eq_true rfl) ⟨Nat.le_of_ble_eq_true rfl, Nat.le_of_ble_eq_true rfl⟩ ⟨Nat.le_of_ble_eq_true rfl, Nat.le_of_ble_eq_true rfl⟩ (fun v1 h1 hl1 hk1 hm1 => ?_)
    obtain ⟨r108, a108, rfl, rfl, Wq⟩ := hk1
    exact xe_iret .int dX11_count_111 rfl rfl ⟨_, _, rfl, rfl, Wq⟩
  replace Wq := Wq.2.2.2.2.2.2.2.2.2.2 e_6_0 e_6_1 e_6_2 e_6_3 e_6_4 e_6_5 e_6_6 e_6_7 e_6_8 e_6_9
  have z_0 := lv_neT e_6_0 (show (0 : Int32).toInt = 0 by decide)
  have z_1 := lv_neT e_6_1 (show (1 : Int32).toInt = 1 by decide)
  have z_2 := lv_neT e_6_2 (show (2 : Int32).toInt = 2 by decide)
  have z_3 := lv_neT e_6_3 (show (3 : Int32).toInt = 3 by decide)
  have z_4 := lv_neT e_6_4 (show (4 : Int32).toInt = 4 by decide)
  have z_5 := lv_neT e_6_5 (show (5 : Int32).toInt = 5 by decide)
  have z_6 := lv_neT e_6_6 (show (6 : Int32).toInt = 6 by decide)
  have z_7 := lv_neT e_6_7 (show (7 : Int32).toInt = 7 by decide)
  have z_8 := lv_neT e_6_8 (show (8 : Int32).toInt = 8 by decide)
  have z_9 := lv_neT e_6_9 (show (9 : Int32).toInt = 9 by decide)
  refine xe_swOut 112 dX11_count_6 (by omega) (by decide) ?_
  refine xe_iconst (-1) dX11_count_112 (by decide) ?_
  exact xe_iret .int dX11_count_113 rfl rfl ⟨_, _, rfl, rfl, Wq⟩
def wl_X11_goes_120 (t p : Nat) (J55 : Int32 → qa → Prop) (post : qa → Prop) : Int32 → Int32 → Int32 → qa → Prop := fun x1 y1 y2 a => vp_in y1 4 ∧ vp_in x1 4 ∧ (J55 (x1 + 1) (qs (qs a 47 0 y1.toNatClampNeg y2) 48 0 x1.toNatClampNeg (-1)))
def wl_X11_goes_55 (t p : Nat) (post : qa → Prop) : Nat → Int32 → qa → Prop
  | 0 => fun _ _ => False
  | n + 1 => fun x1 a => (((a 11 0 11) ≤ x1 → post a) ∧ (¬ (a 11 0 11) ≤ x1 → vp_in x1 4 ∧ ((¬ (a 47 0 x1.toNatClampNeg) = (-1) → (wl_X11_goes_55 t p post n) (x1 + 1) a) ∧ ((a 47 0 x1.toNatClampNeg) = (-1) → vp_in x1 4 ∧ (((a 50 0 x1.toNatClampNeg) = (a 11 0 1) → vp_in x1 4 ∧ (((a 49 0 x1.toNatClampNeg) = 0 → vp_in x1 4 ∧ (wl_X11_goes_120 t p (wl_X11_goes_55 t p post n) post x1 x1 (a 48 0 x1.toNatClampNeg) a)) ∧ (¬ (a 49 0 x1.toNatClampNeg) = 0 → vp_in x1 4 ∧ (wl_X11_goes_120 t p (wl_X11_goes_55 t p post n) post x1 x1 ((a 48 0 x1.toNatClampNeg) + 1) a)))) ∧ (¬ (a 50 0 x1.toNatClampNeg) = (a 11 0 1) → (wl_X11_goes_55 t p post n) (x1 + 1) a))))))
def wl_X11_goes_6 (t p : Nat) (post : qa → Prop) : Nat → Int32 → qa → Prop
  | 0 => fun _ _ => False
  | n + 1 => fun x1 a => (((a 11 0 11) ≤ x1 → ∃ n_55, wl_X11_goes_55 t p post n_55 0 (qs a 11 0 1 ((a 11 0 1) + 1))) ∧ (¬ (a 11 0 11) ≤ x1 → vp_in x1 4 ∧ ((¬ (a 47 0 x1.toNatClampNeg) = (-1) → wp_X11_rests t p x1 a (fun a34 => (wl_X11_goes_6 t p post n) (x1 + 1) a34)) ∧ ((a 47 0 x1.toNatClampNeg) = (-1) → wp_X11_tires t p x1 a (fun a26 => (wl_X11_goes_6 t p post n) (x1 + 1) a26)))))
def wp_X11_goes (t p : Nat) (a : qa) (post : qa → Prop) : Prop := wp_X11_holds t p  a (fun a1 => ∃ n_6, wl_X11_goes_6 t p post n_6 0 a1)
set_option maxHeartbeats 4000000 in
theorem el_X11_goes_120 {g : q_G} {s : q_S} {t p : Nat} (hS : q_Sh t p s) {post : qa → Prop} {J55 : Int32 → qa → Prop} (hJ55 : ∀ (x1 : Int32) (a : qa), J55 x1 a → q_E g mX11_goes (q_Rm 4 0 0) (q_kV s post) (0, 0) 55 [some (q_O 11 0), some (q_I x1)] [] (a, s)) : ∀ (x1 : Int32) (y1 : Int32) (y2 : Int32) (a : qa), wl_X11_goes_120 t p J55 post x1 y1 y2 a → q_E g mX11_goes (q_Rm 4 0 0) (q_kV s post) (0, 0) 120 [some (q_O 11 0), some (q_I x1)] [(q_I y2), (q_I y1), (q_O 47 0)] (a, s) := by
  intro x1 y1 y2 a Wq
  unfold wl_X11_goes_120 at Wq
  obtain ⟨hj_120, Wq⟩ := Wq
  refine xf_iast dX11_goes_120 rfl hj_120 ?_
  refine xe_aload_n dX11_goes_121 rfl q_rvO ?_
  refine xe_getr dX11_goes_122 fX11_39 (fun _ _ => rfl) (q_sg hS rfl) ?_
  refine xe_iload_n dX11_goes_125 rfl ?_
  refine xe_iconst (-1) dX11_goes_126 (by decide) ?_
  obtain ⟨hj_127, Wq⟩ := Wq
  refine xf_iast dX11_goes_127 rfl hj_127 ?_
  refine xe_iinc (_ + 1) dX11_goes_128 (by decide) rfl rfl ?_
  refine xe_goto 55 dX11_goes_131 (by decide) ?_
  refine q_wk (ls := [some (q_O 11 0), some (q_I (x1 + 1))]) ⟨rfl, ⟨rfl, trivial⟩⟩ ?_
  exact hJ55 _ _ Wq
set_option maxHeartbeats 4000000 in
theorem el_X11_goes_55 {g : q_G} {s : q_S} {t p : Nat} (hS : q_Sh t p s) {post : qa → Prop} : ∀ (n : Nat) (x1 : Int32) (a : qa), wl_X11_goes_55 t p post n x1 a → q_E g mX11_goes (q_Rm 4 0 0) (q_kV s post) (0, 0) 55 [some (q_O 11 0), some (q_I x1)] [] (a, s) := by
  intro n
  induction n with
  | zero =>
    intro x1 a Wq
    exact absurd Wq id
  | succ n ih =>
    intro x1 a Wq
    unfold wl_X11_goes_55 at Wq
    refine xe_iload_n dX11_goes_55 rfl ?_
    refine xe_aload_n dX11_goes_56 rfl q_rvO ?_
    refine xe_geti dX11_goes_57 fX11_159 (fun _ _ => rfl) ?_
    refine xe_ic_ge 134 dX11_goes_60 (by decide) (fun c_60 => ?_) (fun c_60 => ?_)
    · replace Wq := Wq.1 c_60
      exact xe_vret dX11_goes_134 rfl ⟨_, rfl, rfl, Wq⟩
    · replace Wq := Wq.2 c_60
      refine xe_aload_n dX11_goes_63 rfl q_rvO ?_
      refine xe_getr dX11_goes_64 fX11_36 (fun _ _ => rfl) (q_sg hS rfl) ?_
      refine xe_iload_n dX11_goes_67 rfl ?_
      obtain ⟨hj_68, Wq⟩ := Wq
      refine xe_iald dX11_goes_68 rfl hj_68 ?_
      refine xe_iconst (-1) dX11_goes_69 (by decide) ?_
      refine xe_ic_ne 128 dX11_goes_70 (by decide) (fun c_70 => ?_) (fun c_70 => ?_)
      · replace Wq := Wq.1 c_70
        refine xe_iinc (_ + 1) dX11_goes_128 (by decide) rfl rfl ?_
        refine xe_goto 55 dX11_goes_131 (by decide) ?_
        refine q_wk (ls := [some (q_O 11 0), some (q_I (x1 + 1))]) ⟨rfl, ⟨rfl, trivial⟩⟩ ?_
        exact ih _ _ Wq
      · replace Wq := Wq.2 c_70
        refine xe_aload_n dX11_goes_73 rfl q_rvO ?_
        refine xe_getr dX11_goes_74 fX11_45 (fun _ _ => rfl) (q_sg hS rfl) ?_
        refine xe_iload_n dX11_goes_77 rfl ?_
        obtain ⟨hj_78, Wq⟩ := Wq
        refine xe_iald dX11_goes_78 rfl hj_78 ?_
        refine xe_aload_n dX11_goes_79 rfl q_rvO ?_
        refine xe_geti dX11_goes_80 fX11_150 (fun _ _ => rfl) ?_
        refine xe_ic_eq 89 dX11_goes_83 (by decide) (fun c_83 => ?_) (fun c_83 => ?_)
        · replace Wq := Wq.1 c_83
          refine xe_aload_n dX11_goes_89 rfl q_rvO ?_
          refine xe_getr dX11_goes_90 fX11_36 (fun _ _ => rfl) (q_sg hS rfl) ?_
          refine xe_iload_n dX11_goes_93 rfl ?_
          refine xe_aload_n dX11_goes_94 rfl q_rvO ?_
          refine xe_getr dX11_goes_95 fX11_42 (fun _ _ => rfl) (q_sg hS rfl) ?_
          refine xe_iload_n dX11_goes_98 rfl ?_
          obtain ⟨hj_99, Wq⟩ := Wq
          refine xe_zald dX11_goes_99 rfl hj_99 ?_
          refine xe_if_eq 114 dX11_goes_100 (by decide) (fun c_100 => ?_) (fun c_100 => ?_)
          · replace Wq := Wq.1 c_100
            refine xe_aload_n dX11_goes_114 rfl q_rvO ?_
            refine xe_getr dX11_goes_115 fX11_39 (fun _ _ => rfl) (q_sg hS rfl) ?_
            refine xe_iload_n dX11_goes_118 rfl ?_
            obtain ⟨hj_119, Wq⟩ := Wq
            refine xe_iald dX11_goes_119 rfl hj_119 ?_
            refine q_wk (ls := [some (q_O 11 0), some (q_I x1)]) ⟨rfl, ⟨rfl, trivial⟩⟩ ?_
            exact el_X11_goes_120 hS ih _ _ _ _ Wq
          · replace Wq := Wq.2 c_100
            refine xe_aload_n dX11_goes_103 rfl q_rvO ?_
            refine xe_getr dX11_goes_104 fX11_39 (fun _ _ => rfl) (q_sg hS rfl) ?_
            refine xe_iload_n dX11_goes_107 rfl ?_
            obtain ⟨hj_108, Wq⟩ := Wq
            refine xe_iald dX11_goes_108 rfl hj_108 ?_
            refine xe_iconst 1 dX11_goes_109 (by decide) ?_
            refine xe_iadd dX11_goes_110 ?_
            refine xe_goto 120 dX11_goes_111 (by decide) ?_
            refine q_wk (ls := [some (q_O 11 0), some (q_I x1)]) ⟨rfl, ⟨rfl, trivial⟩⟩ ?_
            exact el_X11_goes_120 hS ih _ _ _ _ Wq
        · replace Wq := Wq.2 c_83
          refine xe_goto 128 dX11_goes_86 (by decide) ?_
          refine xe_iinc (_ + 1) dX11_goes_128 (by decide) rfl rfl ?_
          refine xe_goto 55 dX11_goes_131 (by decide) ?_
          refine q_wk (ls := [some (q_O 11 0), some (q_I (x1 + 1))]) ⟨rfl, ⟨rfl, trivial⟩⟩ ?_
          exact ih _ _ Wq
set_option maxHeartbeats 4000000 in
theorem el_X11_goes_6 {g : q_G} {s : q_S} {t p : Nat} (hS : q_Sh t p s) {post : qa → Prop} : ∀ (n : Nat) (x1 : Int32) (a : qa), wl_X11_goes_6 t p post n x1 a → q_E g mX11_goes (q_Rm 4 0 0) (q_kV s post) (0, 0) 6 [some (q_O 11 0), some (q_I x1)] [] (a, s) := by
  intro n
  induction n with
  | zero =>
    intro x1 a Wq
    exact absurd Wq id
  | succ n ih =>
    intro x1 a Wq
    unfold wl_X11_goes_6 at Wq
    refine xe_iload_n dX11_goes_6 rfl ?_
    refine xe_aload_n dX11_goes_7 rfl q_rvO ?_
    refine xe_geti dX11_goes_8 fX11_159 (fun _ _ => rfl) ?_
    refine xe_ic_ge 43 dX11_goes_11 (by decide) (fun c_11 => ?_) (fun c_11 => ?_)
    · replace Wq := Wq.1 c_11
      refine xe_aload_n dX11_goes_43 rfl q_rvO ?_
      refine xe_dup dX11_goes_44 rfl ?_
      refine xe_geti dX11_goes_45 fX11_150 (fun _ _ => rfl) ?_
      refine xe_iconst 1 dX11_goes_48 (by decide) ?_
      refine xe_iadd dX11_goes_49 ?_
      refine xf_puti dX11_goes_50 fX11_150 (fun q hq => Or.inl (by cases hq; rfl)) ⟨rfl, rfl⟩ (fun _ _ => rfl) ?_
      refine xe_iconst 0 dX11_goes_53 (by decide) ?_
      refine xe_istore_n dX11_goes_54 (by decide) ?_
      obtain ⟨n_55, Wq⟩ := Wq
      refine q_wk (ls := [some (q_O 11 0), some (q_I 0)]) ⟨rfl, ⟨rfl, trivial⟩⟩ ?_
      exact el_X11_goes_55 hS n_55 _ _ Wq
    · replace Wq := Wq.2 c_11
      refine xe_aload_n dX11_goes_14 rfl q_rvO ?_
      refine xe_getr dX11_goes_15 fX11_36 (fun _ _ => rfl) (q_sg hS rfl) ?_
      refine xe_iload_n dX11_goes_18 rfl ?_
      obtain ⟨hj_19, Wq⟩ := Wq
      refine xe_iald dX11_goes_19 rfl hj_19 ?_
      refine xe_iconst (-1) dX11_goes_20 (by decide) ?_
      refine xe_ic_ne 32 dX11_goes_21 (by decide) (fun c_21 => ?_) (fun c_21 => ?_)
      · replace Wq := Wq.1 c_21
        refine xe_aload_n dX11_goes_32 rfl q_rvO ?_
        refine xe_iload_n dX11_goes_33 rfl ?_
        refine xe_cv (y' := mX11_rests) dX11_goes_34 (Or.inl lX11_207) tX11_rests rfl rfl (ct_X11_rests hS Wq) rfl rfl (Nat.le_of_ble_eq_true rfl) ⟨Nat.le_of_ble_eq_true rfl, Nat.le_of_ble_eq_true rfl⟩ ⟨Nat.le_of_ble_eq_true rfl, Nat.le_of_ble_eq_true rfl⟩ (fun v1 h1 hl1 hk1 hm1 => ?_)
        obtain ⟨a34, rfl, rfl, Wq⟩ := hk1
        refine xe_iinc (_ + 1) dX11_goes_37 (by decide) rfl rfl ?_
        refine xe_goto 6 dX11_goes_40 (by decide) ?_
        refine q_wk (ls := [some (q_O 11 0), some (q_I (x1 + 1))]) ⟨rfl, ⟨rfl, trivial⟩⟩ ?_
        exact ih _ _ Wq
      · replace Wq := Wq.2 c_21
        refine xe_aload_n dX11_goes_24 rfl q_rvO ?_
        refine xe_iload_n dX11_goes_25 rfl ?_
        refine xe_cv (y' := mX11_tires) dX11_goes_26 (Or.inl lX11_203) tX11_tires rfl rfl (ct_X11_tires hS Wq) rfl rfl (Nat.le_of_ble_eq_true rfl) ⟨Nat.le_of_ble_eq_true rfl, Nat.le_of_ble_eq_true rfl⟩ ⟨Nat.le_of_ble_eq_true rfl, Nat.le_of_ble_eq_true rfl⟩ (fun v1 h1 hl1 hk1 hm1 => ?_)
        obtain ⟨a26, rfl, rfl, Wq⟩ := hk1
        refine xe_goto 37 dX11_goes_29 (by decide) ?_
        refine xe_iinc (_ + 1) dX11_goes_37 (by decide) rfl rfl ?_
        refine xe_goto 6 dX11_goes_40 (by decide) ?_
        refine q_wk (ls := [some (q_O 11 0), some (q_I (x1 + 1))]) ⟨rfl, ⟨rfl, trivial⟩⟩ ?_
        exact ih _ _ Wq
set_option maxHeartbeats 4000000 in
theorem ct_X11_goes {g : q_G} {s : q_S} {t p : Nat} (hS : q_Sh t p s) {a : qa} {post : qa → Prop} (Wq : wp_X11_goes t p  a post) : q_Ct g mX11_goes (q_Rm 4 0 0) [q_O 11 0] (a, s) (q_kV s post) := by
  refine q_mk rfl rfl (Nat.le_of_ble_eq_true rfl) (q_cs rfl q_nil) (fun hv => ?_)
  unfold wp_X11_goes at Wq
  refine xe_aload_n dX11_goes_0 rfl q_rvO ?_
  refine xe_cv (y' := mX11_holds) dX11_goes_1 (Or.inl lX11_200) tX11_holds rfl rfl (ct_X11_holds hS Wq) rfl rfl (Nat.le_of_ble_eq_true rfl) ⟨Nat.le_of_ble_eq_true rfl, Nat.le_of_ble_eq_true rfl⟩ ⟨Nat.le_of_ble_eq_true rfl, Nat.le_of_ble_eq_true rfl⟩ (fun v1 h1 hl1 hk1 hm1 => ?_)
  obtain ⟨a1, rfl, rfl, Wq⟩ := hk1
  refine xe_iconst 0 dX11_goes_4 (by decide) ?_
  refine xe_istore_n dX11_goes_5 (by decide) ?_
  obtain ⟨n_6, Wq⟩ := Wq
  refine q_wk (ls := [some (q_O 11 0), some (q_I 0)]) ⟨rfl, ⟨rfl, trivial⟩⟩ ?_
  exact el_X11_goes_6 hS n_6 _ _ Wq
def wl_X11_hours_31 (t p : Nat) (post : Int32 → qa → Prop) : Nat → Int32 → Int32 → qa → Prop
  | 0 => fun _ _ _ => False
  | n + 1 => fun x1 x2 a => ((x1 ≤ x2 → post (a 11 0 1) a) ∧ (¬ x1 ≤ x2 → wp_X11_goes t p  a (fun a37 => (wl_X11_hours_31 t p post n) x1 (x2 + 1) a37)))
def wp_X11_hours (t p : Nat) (x1 : Int32) (a : qa) (post : Int32 → qa → Prop) : Prop := wp_X11_within t p x1 1 100 (qs a 11 0 0 0) (fun r9 a9 => ((r9 = 0 → post (-1) a9) ∧ (¬ r9 = 0 → ((((a9 11 0 1) + x1) ≤ 9999 → ∃ n_31, wl_X11_hours_31 t p post n_31 x1 0 a9) ∧ (¬ ((a9 11 0 1) + x1) ≤ 9999 → post (-1) a9)))))
set_option maxHeartbeats 4000000 in
theorem el_X11_hours_31 {g : q_G} {s : q_S} {t p : Nat} (hS : q_Sh t p s) {post : Int32 → qa → Prop} : ∀ (n : Nat) (x1 : Int32) (x2 : Int32) (a : qa), wl_X11_hours_31 t p post n x1 x2 a → q_E g mX11_hours (q_Rm 5 0 0) (q_kI s post) (0, 0) 31 [some (q_O 11 0), some (q_I x1), some (q_I x2)] [] (a, s) := by
  intro n
  induction n with
  | zero =>
    intro x1 x2 a Wq
    exact absurd Wq id
  | succ n ih =>
    intro x1 x2 a Wq
    unfold wl_X11_hours_31 at Wq
    refine xe_iload_n dX11_hours_31 rfl ?_
    refine xe_iload_n dX11_hours_32 rfl ?_
    refine xe_ic_ge 46 dX11_hours_33 (by decide) (fun c_33 => ?_) (fun c_33 => ?_)
    · replace Wq := Wq.1 c_33
      refine xe_aload_n dX11_hours_46 rfl q_rvO ?_
      refine xe_geti dX11_hours_47 fX11_150 (fun _ _ => rfl) ?_
      exact xe_iret .int dX11_hours_50 rfl rfl ⟨_, _, rfl, rfl, Wq⟩
    · replace Wq := Wq.2 c_33
      refine xe_aload_n dX11_hours_36 rfl q_rvO ?_
      refine xe_cv (y' := mX11_goes) dX11_hours_37 (Or.inl lX11_210) tX11_goes rfl rfl (ct_X11_goes hS Wq) rfl rfl (Nat.le_of_ble_eq_true rfl) ⟨Nat.le_of_ble_eq_true rfl, Nat.le_of_ble_eq_true rfl⟩ ⟨Nat.le_of_ble_eq_true rfl, Nat.le_of_ble_eq_true rfl⟩ (fun v1 h1 hl1 hk1 hm1 => ?_)
      obtain ⟨a37, rfl, rfl, Wq⟩ := hk1
      refine xe_iinc (_ + 1) dX11_hours_40 (by decide) rfl rfl ?_
      refine xe_goto 31 dX11_hours_43 (by decide) ?_
      refine q_wk (ls := [some (q_O 11 0), some (q_I x1), some (q_I (x2 + 1))]) ⟨rfl, ⟨rfl, ⟨rfl, trivial⟩⟩⟩ ?_
      exact ih _ _ _ Wq
set_option maxHeartbeats 4000000 in
theorem ct_X11_hours {g : q_G} {s : q_S} {t p : Nat} (hS : q_Sh t p s) {x1 : Int32} {a : qa} {post : Int32 → qa → Prop} (Wq : wp_X11_hours t p x1 a post) : q_Ct g mX11_hours (q_Rm 5 0 0) [q_O 11 0, q_I x1] (a, s) (q_kI s post) := by
  refine q_mk rfl rfl (Nat.le_of_ble_eq_true rfl) (q_cs rfl (q_cs rfl q_nil)) (fun hv => ?_)
  unfold wp_X11_hours at Wq
  refine xe_aload_n dX11_hours_0 rfl q_rvO ?_
  refine xe_iconst 0 dX11_hours_1 (by decide) ?_
  refine xf_puti dX11_hours_2 fX11_1 (fun q hq => Or.inl (by cases hq; rfl)) ⟨rfl, rfl⟩ (fun _ _ => rfl) ?_
  refine xe_iload_n dX11_hours_5 rfl ?_
  refine xe_iconst 1 dX11_hours_6 (by decide) ?_
  refine xe_bipush 100 dX11_hours_7 (by decide) ?_
  refine xe_cs (y' := mX11_within) dX11_hours_9 (Or.inl lX11_139) tX11_within (ct_X11_within hS Wq) rfl rfl (Nat.le_of_ble_eq_true rfl) ⟨Nat.le_of_ble_eq_true rfl, Nat.le_of_ble_eq_true rfl⟩ ⟨Nat.le_of_ble_eq_true rfl, Nat.le_of_ble_eq_true rfl⟩ (fun v1 h1 hl1 hk1 hm1 => ?_)
  obtain ⟨r9, a9, rfl, rfl, Wq⟩ := hk1
  refine xe_if_eq 27 dX11_hours_12 (by decide) (fun c_12 => ?_) (fun c_12 => ?_)
  · replace Wq := Wq.1 c_12
    refine xe_iconst (-1) dX11_hours_27 (by decide) ?_
    exact xe_iret .int dX11_hours_28 rfl rfl ⟨_, _, rfl, rfl, Wq⟩
  · replace Wq := Wq.2 c_12
    refine xe_aload_n dX11_hours_15 rfl q_rvO ?_
    refine xe_geti dX11_hours_16 fX11_150 (fun _ _ => rfl) ?_
    refine xe_iload_n dX11_hours_19 rfl ?_
    refine xe_iadd dX11_hours_20 ?_
    refine xe_sipush 9999 dX11_hours_21 (by decide) ?_
    refine xe_ic_le 29 dX11_hours_24 (by decide) (fun c_24 => ?_) (fun c_24 => ?_)
    · replace Wq := Wq.1 c_24
      refine xe_iconst 0 dX11_hours_29 (by decide) ?_
      refine xe_istore_n dX11_hours_30 (by decide) ?_
      obtain ⟨n_31, Wq⟩ := Wq
      refine q_wk (ls := [some (q_O 11 0), some (q_I x1), some (q_I 0)]) ⟨rfl, ⟨rfl, ⟨rfl, trivial⟩⟩⟩ ?_
      exact el_X11_hours_31 hS n_31 _ _ _ Wq
    · replace Wq := Wq.2 c_24
      refine xe_iconst (-1) dX11_hours_27 (by decide) ?_
      exact xe_iret .int dX11_hours_28 rfl rfl ⟨_, _, rfl, rfl, Wq⟩
def wl_X11_isWord_28 (t p : Nat) (post : Int32 → qa → Prop) : Nat → Nat → Int32 → qa → Prop
  | 0 => fun _ _ _ => False
  | n + 1 => fun o1 x2 a => wp_J0_length_8abf5 t p o1 a (fun r30 a30 => ((r30 ≤ x2 → post 1 a30) ∧ (¬ r30 ≤ x2 → vp_in ((a30 11 0 44) + x2) 400 ∧ wp_J0_charAt_5068e t p o1 x2 a30 (fun r49 a49 => (((a30 71 0 (((a30 11 0 44) + x2).toNatClampNeg)) = r49 → (wl_X11_isWord_28 t p post n) o1 (x2 + 1) a49) ∧ (¬ (a30 71 0 (((a30 11 0 44) + x2).toNatClampNeg)) = r49 → post 0 a49))))))
def wp_X11_isWord (t p : Nat) (o1 : Nat) (a : qa) (post : Int32 → qa → Prop) : Prop := ((¬ (a 11 0 45) = 3 → post 0 a) ∧ ((a 11 0 45) = 3 → wp_J0_length_8abf5 t p o1 a (fun r18 a18 => ((((a 11 0 43) - (a 11 0 44)) = r18 → ∃ n_28, wl_X11_isWord_28 t p post n_28 o1 0 a18) ∧ (¬ ((a 11 0 43) - (a 11 0 44)) = r18 → post 0 a18)))))
set_option maxHeartbeats 4000000 in
theorem el_X11_isWord_28 {g : q_G} {s : q_S} {t p : Nat} (hS : q_Sh t p s) (hX : q_gX g) {post : Int32 → qa → Prop} : ∀ (n : Nat) (o1 : Nat) (x2 : Int32) (a : qa), wl_X11_isWord_28 t p post n o1 x2 a → q_E g mX11_isWord (q_Rm 5 0 0) (q_kI s post) (0, 0) 28 [some (q_O 11 0), some (.inl (.ref (g.2.1.2 100 o1))), some (q_I x2)] [] (a, s) := by
  intro n
  induction n with
  | zero =>
    intro o1 x2 a Wq
    exact absurd Wq id
  | succ n ih =>
    intro o1 x2 a Wq
    unfold wl_X11_isWord_28 at Wq
    refine xe_iload_n dX11_isWord_28 rfl ?_
    refine xe_aload_n dX11_isWord_29 rfl q_rvA ?_
    have hk_30 := Wq.1
    refine xe_cvS (y' := mJ0_length_8abf5) hX hk_30 dX11_isWord_30 lX11_254 tJ0_length_8abf5 rfl (ct_J0_length_8abf5 hX Wq) rfl rfl (Nat.le_of_ble_eq_true rfl) ⟨Nat.le_of_ble_eq_true rfl, Nat.le_of_ble_eq_true rfl⟩ ⟨Nat.le_of_ble_eq_true rfl, Nat.le_of_ble_eq_true rfl⟩ (fun v1 h1 hl1 hk1 hm1 => ?_)
    obtain ⟨r30, a30, rfl, rfl, Wq⟩ := hk1
    refine xe_ic_ge 63 dX11_isWord_33 (by decide) (fun c_33 => ?_) (fun c_33 => ?_)
    · replace Wq := Wq.1 c_33
      refine xe_iconst 1 dX11_isWord_63 (by decide) ?_
      exact xe_iret .boolean dX11_isWord_64 rfl (by decide) ⟨_, _, rfl, rfl, Wq⟩
    · replace Wq := Wq.2 c_33
      refine xe_aload_n dX11_isWord_36 rfl q_rvO ?_
      refine xe_getr dX11_isWord_37 fX11_108 (fun _ _ => rfl) (q_sg hS rfl) ?_
      refine xe_aload_n dX11_isWord_40 rfl q_rvO ?_
      refine xe_geti dX11_isWord_41 fX11_236 (fun _ _ => rfl) ?_
      refine xe_iload_n dX11_isWord_44 rfl ?_
      refine xe_iadd dX11_isWord_45 ?_
      obtain ⟨hj_46, Wq⟩ := Wq
      refine xe_bald dX11_isWord_46 rfl hj_46 ?_
      refine xe_aload_n dX11_isWord_47 rfl q_rvA ?_
      refine xe_iload_n dX11_isWord_48 rfl ?_
      have hk_49 := Wq.1
      refine xe_cvS (y' := mJ0_charAt_5068e) hX hk_49 dX11_isWord_49 lX11_260 tJ0_charAt_5068e rfl (ct_J0_charAt_5068e hX Wq) rfl rfl (Nat.le_of_ble_eq_true rfl) ⟨Nat.le_of_ble_eq_true rfl, Nat.le_of_ble_eq_true rfl⟩ ⟨Nat.le_of_ble_eq_true rfl, Nat.le_of_ble_eq_true rfl⟩ (fun v1 h1 hl1 hk1 hm1 => ?_)
      obtain ⟨r49, a49, rfl, rfl, Wq⟩ := hk1
      refine xe_ic_eq 57 dX11_isWord_52 (by decide) (fun c_52 => ?_) (fun c_52 => ?_)
      · replace Wq := Wq.1 c_52
        refine xe_iinc (_ + 1) dX11_isWord_57 (by decide) rfl rfl ?_
        refine xe_goto 28 dX11_isWord_60 (by decide) ?_
        refine q_wk (ls := [some (q_O 11 0), some (.inl (.ref (g.2.1.2 100 o1))), some (q_I (x2 + 1))]) ⟨rfl, ⟨rfl, ⟨rfl, trivial⟩⟩⟩ ?_
        exact ih _ _ _ Wq
      · replace Wq := Wq.2 c_52
        refine xe_iconst 0 dX11_isWord_55 (by decide) ?_
        exact xe_iret .boolean dX11_isWord_56 rfl (by decide) ⟨_, _, rfl, rfl, Wq⟩
set_option maxHeartbeats 4000000 in
theorem ct_X11_isWord {g : q_G} {s : q_S} {t p : Nat} (hS : q_Sh t p s) (hX : q_gX g) {o1 : Nat} {a : qa} {post : Int32 → qa → Prop} (Wq : wp_X11_isWord t p o1 a post) : q_Ct g mX11_isWord (q_Rm 5 0 0) [q_O 11 0, .inl (.ref (g.2.1.2 100 o1))] (a, s) (q_kI s post) := by
  refine q_mk rfl rfl (Nat.le_of_ble_eq_true rfl) (q_cs rfl (q_cs rfl q_nil)) (fun hv => ?_)
  unfold wp_X11_isWord at Wq
  refine xe_aload_n dX11_isWord_0 rfl q_rvO ?_
  refine xe_geti dX11_isWord_1 fX11_239 (fun _ _ => rfl) ?_
  refine xe_iconst 3 dX11_isWord_4 (by decide) ?_
  refine xe_ic_ne 24 dX11_isWord_5 (by decide) (fun c_5 => ?_) (fun c_5 => ?_)
  · replace Wq := Wq.1 c_5
    refine xe_iconst 0 dX11_isWord_24 (by decide) ?_
    exact xe_iret .boolean dX11_isWord_25 rfl (by decide) ⟨_, _, rfl, rfl, Wq⟩
  · replace Wq := Wq.2 c_5
    refine xe_aload_n dX11_isWord_8 rfl q_rvO ?_
    refine xe_geti dX11_isWord_9 fX11_233 (fun _ _ => rfl) ?_
    refine xe_aload_n dX11_isWord_12 rfl q_rvO ?_
    refine xe_geti dX11_isWord_13 fX11_236 (fun _ _ => rfl) ?_
    refine xe_isub dX11_isWord_16 ?_
    refine xe_aload_n dX11_isWord_17 rfl q_rvA ?_
    have hk_18 := Wq.1
    refine xe_cvS (y' := mJ0_length_8abf5) hX hk_18 dX11_isWord_18 lX11_254 tJ0_length_8abf5 rfl (ct_J0_length_8abf5 hX Wq) rfl rfl (Nat.le_of_ble_eq_true rfl) ⟨Nat.le_of_ble_eq_true rfl, Nat.le_of_ble_eq_true rfl⟩ ⟨Nat.le_of_ble_eq_true rfl, Nat.le_of_ble_eq_true rfl⟩ (fun v1 h1 hl1 hk1 hm1 => ?_)
    obtain ⟨r18, a18, rfl, rfl, Wq⟩ := hk1
    refine xe_ic_eq 26 dX11_isWord_21 (by decide) (fun c_21 => ?_) (fun c_21 => ?_)
    · replace Wq := Wq.1 c_21
      refine xe_iconst 0 dX11_isWord_26 (by decide) ?_
      refine xe_istore_n dX11_isWord_27 (by decide) ?_
      obtain ⟨n_28, Wq⟩ := Wq
      refine q_wk (ls := [some (q_O 11 0), some (.inl (.ref (g.2.1.2 100 o1))), some (q_I 0)]) ⟨rfl, ⟨rfl, ⟨rfl, trivial⟩⟩⟩ ?_
      exact el_X11_isWord_28 hS hX n_28 _ _ _ Wq
    · replace Wq := Wq.2 c_21
      refine xe_iconst 0 dX11_isWord_24 (by decide) ?_
      exact xe_iret .boolean dX11_isWord_25 rfl (by decide) ⟨_, _, rfl, rfl, Wq⟩
def wp_X11_word (t p : Nat) (a : qa) (post : Int32 → qa → Prop) : Prop := wp_X11_isWord t p 8 a (fun r4 a4 => ((r4 = 0 → wp_X11_isWord t p 9 a4 (fun r18 a18 => ((r18 = 0 → wp_X11_isWord t p 10 a18 (fun r32 a32 => ((r32 = 0 → wp_X11_isWord t p 11 a32 (fun r46 a46 => ((r46 = 0 → wp_X11_isWord t p 12 a46 (fun r60 a60 => ((r60 = 0 → wp_X11_isWord t p 13 a60 (fun r74 a74 => ((r74 = 0 → wp_X11_isWord t p 14 a74 (fun r88 a88 => ((r88 = 0 → post (-1) a88) ∧ (¬ r88 = 0 → post 6 a88)))) ∧ (¬ r74 = 0 → post 5 a74)))) ∧ (¬ r60 = 0 → post 4 a60)))) ∧ (¬ r46 = 0 → post 3 a46)))) ∧ (¬ r32 = 0 → post 2 a32)))) ∧ (¬ r18 = 0 → post 1 a18)))) ∧ (¬ r4 = 0 → post 0 a4)))
set_option maxHeartbeats 4000000 in
theorem ct_X11_word {g : q_G} {s : q_S} {t p : Nat} (hS : q_Sh t p s) (hX : q_gX g) {a : qa} {post : Int32 → qa → Prop} (Wq : wp_X11_word t p  a post) : q_Ct g mX11_word (q_Rm 6 0 0) [q_O 11 0] (a, s) (q_kI s post) := by
  refine q_mk rfl rfl (Nat.le_of_ble_eq_true rfl) (q_cs rfl q_nil) (fun hv => ?_)
  unfold wp_X11_word at Wq
  refine xe_aload_n dX11_word_0 rfl q_rvO ?_
  refine xe_ldcW (k := 8) hX (by decide) ⟨rfl, rfl⟩ dX11_word_1 ?_
  refine xe_cv (y' := mX11_isWord) dX11_word_4 (Or.inl lX11_272) tX11_isWord rfl rfl (ct_X11_isWord hS hX Wq) rfl rfl (Nat.le_of_ble_eq_true rfl) ⟨Nat.le_of_ble_eq_true rfl, Nat.le_of_ble_eq_true rfl⟩ ⟨Nat.le_of_ble_eq_true rfl, Nat.le_of_ble_eq_true rfl⟩ (fun v1 h1 hl1 hk1 hm1 => ?_)
  obtain ⟨r4, a4, rfl, rfl, Wq⟩ := hk1
  refine xe_if_eq 14 dX11_word_7 (by decide) (fun c_7 => ?_) (fun c_7 => ?_)
  · replace Wq := Wq.1 c_7
    refine xe_aload_n dX11_word_14 rfl q_rvO ?_
    refine xe_ldcW (k := 9) hX (by decide) ⟨rfl, rfl⟩ dX11_word_15 ?_
    refine xe_cv (y' := mX11_isWord) dX11_word_18 (Or.inl lX11_272) tX11_isWord rfl rfl (ct_X11_isWord hS hX Wq) rfl rfl (Nat.le_of_ble_eq_true rfl) ⟨Nat.le_of_ble_eq_true rfl, Nat.le_of_ble_eq_true rfl⟩ ⟨Nat.le_of_ble_eq_true rfl, Nat.le_of_ble_eq_true rfl⟩ (fun v1 h1 hl1 hk1 hm1 => ?_)
    obtain ⟨r18, a18, rfl, rfl, Wq⟩ := hk1
    refine xe_if_eq 28 dX11_word_21 (by decide) (fun c_21 => ?_) (fun c_21 => ?_)
    · replace Wq := Wq.1 c_21
      refine xe_aload_n dX11_word_28 rfl q_rvO ?_
      refine xe_ldcW (k := 10) hX (by decide) ⟨rfl, rfl⟩ dX11_word_29 ?_
      refine xe_cv (y' := mX11_isWord) dX11_word_32 (Or.inl lX11_272) tX11_isWord rfl rfl (ct_X11_isWord hS hX Wq) rfl rfl (Nat.le_of_ble_eq_true rfl) ⟨Nat.le_of_ble_eq_true rfl, Nat.le_of_ble_eq_true rfl⟩ ⟨Nat.le_of_ble_eq_true rfl, Nat.le_of_ble_eq_true rfl⟩ (fun v1 h1 hl1 hk1 hm1 => ?_)
      obtain ⟨r32, a32, rfl, rfl, Wq⟩ := hk1
      refine xe_if_eq 42 dX11_word_35 (by decide) (fun c_35 => ?_) (fun c_35 => ?_)
      · replace Wq := Wq.1 c_35
        refine xe_aload_n dX11_word_42 rfl q_rvO ?_
        refine xe_ldcW (k := 11) hX (by decide) ⟨rfl, rfl⟩ dX11_word_43 ?_
        refine xe_cv (y' := mX11_isWord) dX11_word_46 (Or.inl lX11_272) tX11_isWord rfl rfl (ct_X11_isWord hS hX Wq) rfl rfl (Nat.le_of_ble_eq_true rfl) ⟨Nat.le_of_ble_eq_true rfl, Nat.le_of_ble_eq_true rfl⟩ ⟨Nat.le_of_ble_eq_true rfl, Nat.le_of_ble_eq_true rfl⟩ (fun v1 h1 hl1 hk1 hm1 => ?_)
        obtain ⟨r46, a46, rfl, rfl, Wq⟩ := hk1
        refine xe_if_eq 56 dX11_word_49 (by decide) (fun c_49 => ?_) (fun c_49 => ?_)
        · replace Wq := Wq.1 c_49
          refine xe_aload_n dX11_word_56 rfl q_rvO ?_
          refine xe_ldcW (k := 12) hX (by decide) ⟨rfl, rfl⟩ dX11_word_57 ?_
          refine xe_cv (y' := mX11_isWord) dX11_word_60 (Or.inl lX11_272) tX11_isWord rfl rfl (ct_X11_isWord hS hX Wq) rfl rfl (Nat.le_of_ble_eq_true rfl) ⟨Nat.le_of_ble_eq_true rfl, Nat.le_of_ble_eq_true rfl⟩ ⟨Nat.le_of_ble_eq_true rfl, Nat.le_of_ble_eq_true rfl⟩ (fun v1 h1 hl1 hk1 hm1 => ?_)
          obtain ⟨r60, a60, rfl, rfl, Wq⟩ := hk1
          refine xe_if_eq 70 dX11_word_63 (by decide) (fun c_63 => ?_) (fun c_63 => ?_)
          · replace Wq := Wq.1 c_63
            refine xe_aload_n dX11_word_70 rfl q_rvO ?_
            refine xe_ldcW (k := 13) hX (by decide) ⟨rfl, rfl⟩ dX11_word_71 ?_
            refine xe_cv (y' := mX11_isWord) dX11_word_74 (Or.inl lX11_272) tX11_isWord rfl rfl (ct_X11_isWord hS hX Wq) rfl rfl (Nat.le_of_ble_eq_true rfl) ⟨Nat.le_of_ble_eq_true rfl, Nat.le_of_ble_eq_true rfl⟩ ⟨Nat.le_of_ble_eq_true rfl, Nat.le_of_ble_eq_true rfl⟩ (fun v1 h1 hl1 hk1 hm1 => ?_)
            obtain ⟨r74, a74, rfl, rfl, Wq⟩ := hk1
            refine xe_if_eq 84 dX11_word_77 (by decide) (fun c_77 => ?_) (fun c_77 => ?_)
            · replace Wq := Wq.1 c_77
              refine xe_aload_n dX11_word_84 rfl q_rvO ?_
              refine xe_ldcW (k := 14) hX (by decide) ⟨rfl, rfl⟩ dX11_word_85 ?_
              refine xe_cv (y' := mX11_isWord) dX11_word_88 (Or.inl lX11_272) tX11_isWord rfl rfl (ct_X11_isWord hS hX Wq) rfl rfl (Nat.le_of_ble_eq_true rfl) ⟨Nat.le_of_ble_eq_true rfl, Nat.le_of_ble_eq_true rfl⟩ ⟨Nat.le_of_ble_eq_true rfl, Nat.le_of_ble_eq_true rfl⟩ (fun v1 h1 hl1 hk1 hm1 => ?_)
              obtain ⟨r88, a88, rfl, rfl, Wq⟩ := hk1
              refine xe_if_eq 99 dX11_word_91 (by decide) (fun c_91 => ?_) (fun c_91 => ?_)
              · replace Wq := Wq.1 c_91
                refine xe_iconst (-1) dX11_word_99 (by decide) ?_
                exact xe_iret .int dX11_word_100 rfl rfl ⟨_, _, rfl, rfl, Wq⟩
              · replace Wq := Wq.2 c_91
                refine xe_bipush 6 dX11_word_94 (by decide) ?_
                refine xe_goto 100 dX11_word_96 (by decide) ?_
                exact xe_iret .int dX11_word_100 rfl rfl ⟨_, _, rfl, rfl, Wq⟩
            · replace Wq := Wq.2 c_77
              refine xe_iconst 5 dX11_word_80 (by decide) ?_
              refine xe_goto 100 dX11_word_81 (by decide) ?_
              exact xe_iret .int dX11_word_100 rfl rfl ⟨_, _, rfl, rfl, Wq⟩
          · replace Wq := Wq.2 c_63
            refine xe_iconst 4 dX11_word_66 (by decide) ?_
            refine xe_goto 100 dX11_word_67 (by decide) ?_
            exact xe_iret .int dX11_word_100 rfl rfl ⟨_, _, rfl, rfl, Wq⟩
        · replace Wq := Wq.2 c_49
          refine xe_iconst 3 dX11_word_52 (by decide) ?_
          refine xe_goto 100 dX11_word_53 (by decide) ?_
          exact xe_iret .int dX11_word_100 rfl rfl ⟨_, _, rfl, rfl, Wq⟩
      · replace Wq := Wq.2 c_35
        refine xe_iconst 2 dX11_word_38 (by decide) ?_
        refine xe_goto 100 dX11_word_39 (by decide) ?_
        exact xe_iret .int dX11_word_100 rfl rfl ⟨_, _, rfl, rfl, Wq⟩
    · replace Wq := Wq.2 c_21
      refine xe_iconst 1 dX11_word_24 (by decide) ?_
      refine xe_goto 100 dX11_word_25 (by decide) ?_
      exact xe_iret .int dX11_word_100 rfl rfl ⟨_, _, rfl, rfl, Wq⟩
  · replace Wq := Wq.2 c_7
    refine xe_iconst 0 dX11_word_10 (by decide) ?_
    refine xe_goto 100 dX11_word_11 (by decide) ?_
    exact xe_iret .int dX11_word_100 rfl rfl ⟨_, _, rfl, rfl, Wq⟩
def wl_X11_term_103 (t p : Nat) (post : qa → Prop) : Int32 → qa → Prop := fun x3 a => vp_in x3 880 ∧ wp_X11_next t p  (qs a 77 0 x3.toNatClampNeg (a 11 0 46)) (fun a114 => wp_X11_number t p  a114 (fun r123 a123 => vp_in x3 880 ∧ post (qs a123 78 0 x3.toNatClampNeg r123)))
def wp_X11_term (t p : Nat) (x1 : Int32) (a : qa) (post : qa → Prop) : Prop := wp_X11_word t p  a (fun r1 a1 => ((¬ r1 = (-1) → vp_in x1 220 ∧ ((¬ (a1 74 0 x1.toNatClampNeg) = 4 → vp_in x1 220 ∧ vp_in x1 220 ∧ vp_in x1 220 ∧ vp_in ((4 * x1) + (a1 74 0 x1.toNatClampNeg)) 880 ∧ wp_X11_next t p  (qs (qs a1 74 0 x1.toNatClampNeg ((a1 74 0 x1.toNatClampNeg) + 1)) 76 0 (((4 * x1) + (a1 74 0 x1.toNatClampNeg)).toNatClampNeg) r1) (fun a61 => ((4 ≤ r1 → wp_X11_is t p 60 a61 (fun r73 a73 => ((¬ r73 = 0 → wl_X11_term_103 t p post ((4 * x1) + (a1 74 0 x1.toNatClampNeg)) a73) ∧ (r73 = 0 → wp_X11_is t p 61 a73 (fun r82 a82 => ((¬ r82 = 0 → wl_X11_term_103 t p post ((4 * x1) + (a1 74 0 x1.toNatClampNeg)) a82) ∧ (r82 = 0 → wp_X11_is t p 62 a82 (fun r91 a91 => ((¬ r91 = 0 → wl_X11_term_103 t p post ((4 * x1) + (a1 74 0 x1.toNatClampNeg)) a91) ∧ (r91 = 0 → wp_X11_fails t p 1 a91 (fun a99 => post a99))))))))))) ∧ (¬ 4 ≤ r1 → post a61)))) ∧ ((a1 74 0 x1.toNatClampNeg) = 4 → wp_X11_fails t p 2 a1 (fun a28 => post a28)))) ∧ (r1 = (-1) → wp_X11_fails t p 1 a1 (fun a12 => post a12))))
set_option maxHeartbeats 4000000 in
theorem el_X11_term_103 {g : q_G} {s : q_S} {t p : Nat} (hS : q_Sh t p s) (hX : q_gX g) {post : qa → Prop} : ∀ (x3 : Int32) (a : qa), wl_X11_term_103 t p post x3 a → q_E g mX11_term (q_Rm 7 0 0) (q_kV s post) (0, 0) 103 [some (q_O 11 0), none, none, some (q_I x3)] [] (a, s) := by
  intro x3 a Wq
  unfold wl_X11_term_103 at Wq
  refine xe_aload_n dX11_term_103 rfl q_rvO ?_
  refine xe_getr dX11_term_104 fX11_130 (fun _ _ => rfl) (q_sg hS rfl) ?_
  refine xe_iload_n dX11_term_107 rfl ?_
  refine xe_aload_n dX11_term_108 rfl q_rvO ?_
  refine xe_geti dX11_term_109 fX11_251 (fun _ _ => rfl) ?_
  obtain ⟨hj_112, Wq⟩ := Wq
  refine xf_iast dX11_term_112 rfl hj_112 ?_
  refine xe_aload_n dX11_term_113 rfl q_rvO ?_
  refine xe_cv (y' := mX11_next) dX11_term_114 (Or.inl lX11_292) tX11_next rfl rfl (ct_X11_next hS Wq) rfl rfl (Nat.le_of_ble_eq_true rfl) ⟨Nat.le_of_ble_eq_true rfl, Nat.le_of_ble_eq_true rfl⟩ ⟨Nat.le_of_ble_eq_true rfl, Nat.le_of_ble_eq_true rfl⟩ (fun v1 h1 hl1 hk1 hm1 => ?_)
  obtain ⟨a114, rfl, rfl, Wq⟩ := hk1
  refine xe_aload_n dX11_term_117 rfl q_rvO ?_
  refine xe_getr dX11_term_118 fX11_133 (fun _ _ => rfl) (q_sg hS rfl) ?_
  refine xe_iload_n dX11_term_121 rfl ?_
  refine xe_aload_n dX11_term_122 rfl q_rvO ?_
  refine xe_cv (y' := mX11_number) dX11_term_123 (Or.inl lX11_298) tX11_number rfl rfl (ct_X11_number hS Wq) rfl rfl (Nat.le_of_ble_eq_true rfl) ⟨Nat.le_of_ble_eq_true rfl, Nat.le_of_ble_eq_true rfl⟩ ⟨Nat.le_of_ble_eq_true rfl, Nat.le_of_ble_eq_true rfl⟩ (fun v1 h1 hl1 hk1 hm1 => ?_)
  obtain ⟨r123, a123, rfl, rfl, Wq⟩ := hk1
  obtain ⟨hj_126, Wq⟩ := Wq
  refine xf_iast dX11_term_126 rfl hj_126 ?_
  exact xe_vret dX11_term_127 rfl ⟨_, rfl, rfl, Wq⟩
set_option maxHeartbeats 4000000 in
theorem ct_X11_term {g : q_G} {s : q_S} {t p : Nat} (hS : q_Sh t p s) (hX : q_gX g) {x1 : Int32} {a : qa} {post : qa → Prop} (Wq : wp_X11_term t p x1 a post) : q_Ct g mX11_term (q_Rm 7 0 0) [q_O 11 0, q_I x1] (a, s) (q_kV s post) := by
  refine q_mk rfl rfl (Nat.le_of_ble_eq_true rfl) (q_cs rfl (q_cs rfl q_nil)) (fun hv => ?_)
  unfold wp_X11_term at Wq
  refine xe_aload_n dX11_term_0 rfl q_rvO ?_
  refine xe_cv (y' := mX11_word) dX11_term_1 (Or.inl lX11_286) tX11_word rfl rfl (ct_X11_word hS hX Wq) rfl rfl (Nat.le_of_ble_eq_true rfl) ⟨Nat.le_of_ble_eq_true rfl, Nat.le_of_ble_eq_true rfl⟩ ⟨Nat.le_of_ble_eq_true rfl, Nat.le_of_ble_eq_true rfl⟩ (fun v1 h1 hl1 hk1 hm1 => ?_)
  obtain ⟨r1, a1, rfl, rfl, Wq⟩ := hk1
  refine xe_istore_n dX11_term_4 (by decide) ?_
  refine xe_iload_n dX11_term_5 rfl ?_
  refine xe_iconst (-1) dX11_term_6 (by decide) ?_
  refine xe_ic_ne 16 dX11_term_7 (by decide) (fun c_7 => ?_) (fun c_7 => ?_)
  · replace Wq := Wq.1 c_7
    refine xe_aload_n dX11_term_16 rfl q_rvO ?_
    refine xe_getr dX11_term_17 fX11_121 (fun _ _ => rfl) (q_sg hS rfl) ?_
    refine xe_iload_n dX11_term_20 rfl ?_
    obtain ⟨hj_21, Wq⟩ := Wq
    refine xe_iald dX11_term_21 rfl hj_21 ?_
    refine xe_iconst 4 dX11_term_22 (by decide) ?_
    refine xe_ic_ne 32 dX11_term_23 (by decide) (fun c_23 => ?_) (fun c_23 => ?_)
    · replace Wq := Wq.1 c_23
      refine xe_iconst 4 dX11_term_32 (by decide) ?_
      refine xe_iload_n dX11_term_33 rfl ?_
      refine xe_imul dX11_term_34 ?_
      refine xe_aload_n dX11_term_35 rfl q_rvO ?_
      refine xe_getr dX11_term_36 fX11_121 (fun _ _ => rfl) (q_sg hS rfl) ?_
      refine xe_iload_n dX11_term_39 rfl ?_
      obtain ⟨hj_40, Wq⟩ := Wq
      refine xe_iald dX11_term_40 rfl hj_40 ?_
      refine xe_iadd dX11_term_41 ?_
      refine xe_istore_n dX11_term_42 (by decide) ?_
      refine xe_aload_n dX11_term_43 rfl q_rvO ?_
      refine xe_getr dX11_term_44 fX11_121 (fun _ _ => rfl) (q_sg hS rfl) ?_
      refine xe_iload_n dX11_term_47 rfl ?_
      refine xe_dup2 dX11_term_48 rfl rfl ?_
      obtain ⟨hj_49, Wq⟩ := Wq
      refine xe_iald dX11_term_49 rfl hj_49 ?_
      refine xe_iconst 1 dX11_term_50 (by decide) ?_
      refine xe_iadd dX11_term_51 ?_
      obtain ⟨hj_52, Wq⟩ := Wq
      refine xf_iast dX11_term_52 rfl hj_52 ?_
      refine xe_aload_n dX11_term_53 rfl q_rvO ?_
      refine xe_getr dX11_term_54 fX11_127 (fun _ _ => rfl) (q_sg hS rfl) ?_
      refine xe_iload_n dX11_term_57 rfl ?_
      refine xe_iload_n dX11_term_58 rfl ?_
      obtain ⟨hj_59, Wq⟩ := Wq
      refine xf_iast dX11_term_59 rfl hj_59 ?_
      refine xe_aload_n dX11_term_60 rfl q_rvO ?_
      refine xe_cv (y' := mX11_next) dX11_term_61 (Or.inl lX11_292) tX11_next rfl rfl (ct_X11_next hS Wq) rfl rfl (Nat.le_of_ble_eq_true rfl) ⟨Nat.le_of_ble_eq_true rfl, Nat.le_of_ble_eq_true rfl⟩ ⟨Nat.le_of_ble_eq_true rfl, Nat.le_of_ble_eq_true rfl⟩ (fun v1 h1 hl1 hk1 hm1 => ?_)
      obtain ⟨a61, rfl, rfl, Wq⟩ := hk1
      refine xe_iload_n dX11_term_64 rfl ?_
      refine xe_iconst 4 dX11_term_65 (by decide) ?_
      refine xe_ic_ge 70 dX11_term_66 (by decide) (fun c_66 => ?_) (fun c_66 => ?_)
      · replace Wq := Wq.1 c_66
        refine xe_aload_n dX11_term_70 rfl q_rvO ?_
        refine xe_bipush 60 dX11_term_71 (by decide) ?_
        refine xe_cv (y' := mX11_is) dX11_term_73 (Or.inl lX11_295) tX11_is rfl rfl (ct_X11_is hS Wq) rfl rfl (Nat.le_of_ble_eq_true rfl) ⟨Nat.le_of_ble_eq_true rfl, Nat.le_of_ble_eq_true rfl⟩ ⟨Nat.le_of_ble_eq_true rfl, Nat.le_of_ble_eq_true rfl⟩ (fun v1 h1 hl1 hk1 hm1 => ?_)
        obtain ⟨r73, a73, rfl, rfl, Wq⟩ := hk1
        refine xe_if_ne 103 dX11_term_76 (by decide) (fun c_76 => ?_) (fun c_76 => ?_)
        · replace Wq := Wq.1 c_76
          refine q_wk (ls := [some (q_O 11 0), none, none, some (q_I ((4 * x1) + (a1 74 0 x1.toNatClampNeg)))]) ⟨rfl, ⟨rfl, trivial⟩⟩ ?_
          exact el_X11_term_103 hS hX _ _ Wq
        · replace Wq := Wq.2 c_76
          refine xe_aload_n dX11_term_79 rfl q_rvO ?_
          refine xe_bipush 61 dX11_term_80 (by decide) ?_
          refine xe_cv (y' := mX11_is) dX11_term_82 (Or.inl lX11_295) tX11_is rfl rfl (ct_X11_is hS Wq) rfl rfl (Nat.le_of_ble_eq_true rfl) ⟨Nat.le_of_ble_eq_true rfl, Nat.le_of_ble_eq_true rfl⟩ ⟨Nat.le_of_ble_eq_true rfl, Nat.le_of_ble_eq_true rfl⟩ (fun v1 h1 hl1 hk1 hm1 => ?_)
          obtain ⟨r82, a82, rfl, rfl, Wq⟩ := hk1
          refine xe_if_ne 103 dX11_term_85 (by decide) (fun c_85 => ?_) (fun c_85 => ?_)
          · replace Wq := Wq.1 c_85
            refine q_wk (ls := [some (q_O 11 0), none, none, some (q_I ((4 * x1) + (a1 74 0 x1.toNatClampNeg)))]) ⟨rfl, ⟨rfl, trivial⟩⟩ ?_
            exact el_X11_term_103 hS hX _ _ Wq
          · replace Wq := Wq.2 c_85
            refine xe_aload_n dX11_term_88 rfl q_rvO ?_
            refine xe_bipush 62 dX11_term_89 (by decide) ?_
            refine xe_cv (y' := mX11_is) dX11_term_91 (Or.inl lX11_295) tX11_is rfl rfl (ct_X11_is hS Wq) rfl rfl (Nat.le_of_ble_eq_true rfl) ⟨Nat.le_of_ble_eq_true rfl, Nat.le_of_ble_eq_true rfl⟩ ⟨Nat.le_of_ble_eq_true rfl, Nat.le_of_ble_eq_true rfl⟩ (fun v1 h1 hl1 hk1 hm1 => ?_)
            obtain ⟨r91, a91, rfl, rfl, Wq⟩ := hk1
            refine xe_if_ne 103 dX11_term_94 (by decide) (fun c_94 => ?_) (fun c_94 => ?_)
            · replace Wq := Wq.1 c_94
              refine q_wk (ls := [some (q_O 11 0), none, none, some (q_I ((4 * x1) + (a1 74 0 x1.toNatClampNeg)))]) ⟨rfl, ⟨rfl, trivial⟩⟩ ?_
              exact el_X11_term_103 hS hX _ _ Wq
            · replace Wq := Wq.2 c_94
              refine xe_aload_n dX11_term_97 rfl q_rvO ?_
              refine xe_iconst 1 dX11_term_98 (by decide) ?_
              refine xe_cv (y' := mX11_fails) dX11_term_99 (Or.inl lX11_289) tX11_fails rfl rfl (ct_X11_fails hS Wq) rfl rfl (Nat.le_of_ble_eq_true rfl) ⟨Nat.le_of_ble_eq_true rfl, Nat.le_of_ble_eq_true rfl⟩ ⟨Nat.le_of_ble_eq_true rfl, Nat.le_of_ble_eq_true rfl⟩ (fun v1 h1 hl1 hk1 hm1 => ?_)
              obtain ⟨a99, rfl, rfl, Wq⟩ := hk1
              exact xe_vret dX11_term_102 rfl ⟨_, rfl, rfl, Wq⟩
      · replace Wq := Wq.2 c_66
        exact xe_vret dX11_term_69 rfl ⟨_, rfl, rfl, Wq⟩
    · replace Wq := Wq.2 c_23
      refine xe_aload_n dX11_term_26 rfl q_rvO ?_
      refine xe_iconst 2 dX11_term_27 (by decide) ?_
      refine xe_cv (y' := mX11_fails) dX11_term_28 (Or.inl lX11_289) tX11_fails rfl rfl (ct_X11_fails hS Wq) rfl rfl (Nat.le_of_ble_eq_true rfl) ⟨Nat.le_of_ble_eq_true rfl, Nat.le_of_ble_eq_true rfl⟩ ⟨Nat.le_of_ble_eq_true rfl, Nat.le_of_ble_eq_true rfl⟩ (fun v1 h1 hl1 hk1 hm1 => ?_)
      obtain ⟨a28, rfl, rfl, Wq⟩ := hk1
      exact xe_vret dX11_term_31 rfl ⟨_, rfl, rfl, Wq⟩
  · replace Wq := Wq.2 c_7
    refine xe_aload_n dX11_term_10 rfl q_rvO ?_
    refine xe_iconst 1 dX11_term_11 (by decide) ?_
    refine xe_cv (y' := mX11_fails) dX11_term_12 (Or.inl lX11_289) tX11_fails rfl rfl (ct_X11_fails hS Wq) rfl rfl (Nat.le_of_ble_eq_true rfl) ⟨Nat.le_of_ble_eq_true rfl, Nat.le_of_ble_eq_true rfl⟩ ⟨Nat.le_of_ble_eq_true rfl, Nat.le_of_ble_eq_true rfl⟩ (fun v1 h1 hl1 hk1 hm1 => ?_)
    obtain ⟨a12, rfl, rfl, Wq⟩ := hk1
    exact xe_vret dX11_term_15 rfl ⟨_, rfl, rfl, Wq⟩
def wl_X11_rule_165 (t p : Nat) (post : qa → Prop) : Int32 → Int32 → qa → Prop := fun x1 x3 a => wp_X11_number t p  a (fun r166 a166 => ((x3 = 0 → vp_in x1 220 ∧ wp_X11_want t p 59 (qs a166 75 0 x1.toNatClampNeg r166) (fun a192 => post a192)) ∧ (¬ x3 = 0 → vp_in x1 220 ∧ wp_X11_want t p 59 (qs a166 75 0 x1.toNatClampNeg (-r166)) (fun a192 => post a192))))
def wl_X11_rule_156 (t p : Nat) (post : qa → Prop) : Int32 → Int32 → qa → Prop := fun x1 y0 a => ((y0 = 0 → wl_X11_rule_165 t p post x1 y0 a) ∧ (¬ y0 = 0 → wp_X11_next t p  a (fun a162 => wl_X11_rule_165 t p post x1 y0 a162)))
def wl_X11_rule_155 (t p : Nat) (post : qa → Prop) : Int32 → qa → Prop := fun x1 a => wl_X11_rule_156 t p post x1 0 a
def wl_X11_rule_116 (t p : Nat) (J86 : Int32 → Int32 → qa → Prop) (post : qa → Prop) : Int32 → qa → Prop := fun x1 a => (((0 : Int32) = 0 → J86 x1 0 a) ∧ (¬ (0 : Int32) = 0 → wp_X11_next t p  a (fun a123 => J86 x1 0 a123)))
def wl_X11_rule_86 (t p : Nat) (post : qa → Prop) : Nat → Int32 → Int32 → qa → Prop
  | 0 => fun _ _ _ => False
  | n + 1 => fun x1 x2 a => ((x2 = 0 → wp_X11_want t p 58 a (fun a132 => wp_X11_isWell t p  a132 (fun r136 a136 => ((r136 = 0 → wl_X11_rule_155 t p post x1 a136) ∧ (¬ r136 = 0 → wp_X11_is t p 45 a136 (fun r145 a145 => ((r145 = 0 → wl_X11_rule_155 t p post x1 a145) ∧ (¬ r145 = 0 → wl_X11_rule_156 t p post x1 1 a145)))))))) ∧ (¬ x2 = 0 → wp_X11_term t p x1 a (fun a92 => wp_X11_isWell t p  a92 (fun r96 a96 => ((r96 = 0 → wl_X11_rule_116 t p (wl_X11_rule_86 t p post n) post x1 a96) ∧ (¬ r96 = 0 → wp_X11_isWord t p 15 a96 (fun r106 a106 => ((r106 = 0 → wl_X11_rule_116 t p (wl_X11_rule_86 t p post n) post x1 a106) ∧ (¬ r106 = 0 → (((1 : Int32) = 0 → (wl_X11_rule_86 t p post n) x1 1 a106) ∧ (¬ (1 : Int32) = 0 → wp_X11_next t p  a106 (fun a123 => (wl_X11_rule_86 t p post n) x1 1 a123))))))))))))
def wl_X11_rule_23 (t p : Nat) (post : qa → Prop) : qa → Prop := fun a => ((¬ (a 73 0 10) = 20 → vp_in (200 + (a 73 0 10)) 220 ∧ wp_X11_is t p 58 (qs (qs a 73 0 10 ((a 73 0 10) + 1)) 74 0 ((200 + (a 73 0 10)).toNatClampNeg) 0) (fun r74 a74 => ((¬ r74 = 0 → ∃ n_86, wl_X11_rule_86 t p post n_86 (200 + (a 73 0 10)) 0 a74) ∧ (r74 = 0 → ∃ n_86, wl_X11_rule_86 t p post n_86 (200 + (a 73 0 10)) 1 a74)))) ∧ ((a 73 0 10) = 20 → wp_X11_fails t p 2 a (fun a37 => post a37)))
def wp_X11_rule (t p : Nat) (a : qa) (post : qa → Prop) : Prop := wp_X11_is t p 58 a (fun r3 a3 => ((¬ r3 = 0 → wl_X11_rule_23 t p post  a3) ∧ (r3 = 0 → wp_X11_word t p  a3 (fun r10 a10 => ((¬ r10 = (-1) → wl_X11_rule_23 t p post  a10) ∧ (r10 = (-1) → wp_X11_fails t p 1 a10 (fun a19 => post a19)))))))
set_option maxHeartbeats 4000000 in
theorem el_X11_rule_165 {g : q_G} {s : q_S} {t p : Nat} (hS : q_Sh t p s) (hX : q_gX g) {post : qa → Prop} : ∀ (x1 : Int32) (x3 : Int32) (a : qa), wl_X11_rule_165 t p post x1 x3 a → q_E g mX11_rule (q_Rm 8 0 0) (q_kV s post) (0, 0) 165 [some (q_O 11 0), some (q_I x1), none, some (q_I x3), none] [] (a, s) := by
  intro x1 x3 a Wq
  unfold wl_X11_rule_165 at Wq
  refine xe_aload_n dX11_rule_165 rfl q_rvO ?_
  refine xe_cv (y' := mX11_number) dX11_rule_166 (Or.inl lX11_298) tX11_number rfl rfl (ct_X11_number hS Wq) rfl rfl (Nat.le_of_ble_eq_true rfl) ⟨Nat.le_of_ble_eq_true rfl, Nat.le_of_ble_eq_true rfl⟩ ⟨Nat.le_of_ble_eq_true rfl, Nat.le_of_ble_eq_true rfl⟩ (fun v1 h1 hl1 hk1 hm1 => ?_)
  obtain ⟨r166, a166, rfl, rfl, Wq⟩ := hk1
  refine xe_istore dX11_rule_169 (by decide) ?_
  refine xe_aload_n dX11_rule_171 rfl q_rvO ?_
  refine xe_getr dX11_rule_172 fX11_124 (fun _ _ => rfl) (q_sg hS rfl) ?_
  refine xe_iload_n dX11_rule_175 rfl ?_
  refine xe_iload_n dX11_rule_176 rfl ?_
  refine xe_if_eq 186 dX11_rule_177 (by decide) (fun c_177 => ?_) (fun c_177 => ?_)
  · replace Wq := Wq.1 c_177
    refine xe_iload dX11_rule_186 rfl ?_
    obtain ⟨hj_188, Wq⟩ := Wq
    refine xf_iast dX11_rule_188 rfl hj_188 ?_
    refine xe_aload_n dX11_rule_189 rfl q_rvO ?_
    refine xe_bipush 59 dX11_rule_190 (by decide) ?_
    refine xe_cv (y' := mX11_want) dX11_rule_192 (Or.inl lX11_310) tX11_want rfl rfl (ct_X11_want hS Wq) rfl rfl (Nat.le_of_ble_eq_true rfl) ⟨Nat.le_of_ble_eq_true rfl, Nat.le_of_ble_eq_true rfl⟩ ⟨Nat.le_of_ble_eq_true rfl, Nat.le_of_ble_eq_true rfl⟩ (fun v1 h1 hl1 hk1 hm1 => ?_)
    obtain ⟨a192, rfl, rfl, Wq⟩ := hk1
    exact xe_vret dX11_rule_195 rfl ⟨_, rfl, rfl, Wq⟩
  · replace Wq := Wq.2 c_177
    refine xe_iload dX11_rule_180 rfl ?_
    refine xe_ineg dX11_rule_182 ?_
    refine xe_goto 188 dX11_rule_183 (by decide) ?_
    obtain ⟨hj_188, Wq⟩ := Wq
    refine xf_iast dX11_rule_188 rfl hj_188 ?_
    refine xe_aload_n dX11_rule_189 rfl q_rvO ?_
    refine xe_bipush 59 dX11_rule_190 (by decide) ?_
    refine xe_cv (y' := mX11_want) dX11_rule_192 (Or.inl lX11_310) tX11_want rfl rfl (ct_X11_want hS Wq) rfl rfl (Nat.le_of_ble_eq_true rfl) ⟨Nat.le_of_ble_eq_true rfl, Nat.le_of_ble_eq_true rfl⟩ ⟨Nat.le_of_ble_eq_true rfl, Nat.le_of_ble_eq_true rfl⟩ (fun v1 h1 hl1 hk1 hm1 => ?_)
    obtain ⟨a192, rfl, rfl, Wq⟩ := hk1
    exact xe_vret dX11_rule_195 rfl ⟨_, rfl, rfl, Wq⟩
set_option maxHeartbeats 4000000 in
theorem el_X11_rule_156 {g : q_G} {s : q_S} {t p : Nat} (hS : q_Sh t p s) (hX : q_gX g) {post : qa → Prop} : ∀ (x1 : Int32) (y0 : Int32) (a : qa), wl_X11_rule_156 t p post x1 y0 a → q_E g mX11_rule (q_Rm 8 0 0) (q_kV s post) (0, 0) 156 [some (q_O 11 0), some (q_I x1), none, none, none] [(q_I y0)] (a, s) := by
  intro x1 y0 a Wq
  unfold wl_X11_rule_156 at Wq
  refine xe_istore_n dX11_rule_156 (by decide) ?_
  refine xe_iload_n dX11_rule_157 rfl ?_
  refine xe_if_eq 165 dX11_rule_158 (by decide) (fun c_158 => ?_) (fun c_158 => ?_)
  · replace Wq := Wq.1 c_158
    refine q_wk (ls := [some (q_O 11 0), some (q_I x1), none, some (q_I y0), none]) ⟨rfl, ⟨rfl, ⟨rfl, trivial⟩⟩⟩ ?_
    exact el_X11_rule_165 hS hX _ _ _ Wq
  · replace Wq := Wq.2 c_158
    refine xe_aload_n dX11_rule_161 rfl q_rvO ?_
    refine xe_cv (y' := mX11_next) dX11_rule_162 (Or.inl lX11_292) tX11_next rfl rfl (ct_X11_next hS Wq) rfl rfl (Nat.le_of_ble_eq_true rfl) ⟨Nat.le_of_ble_eq_true rfl, Nat.le_of_ble_eq_true rfl⟩ ⟨Nat.le_of_ble_eq_true rfl, Nat.le_of_ble_eq_true rfl⟩ (fun v1 h1 hl1 hk1 hm1 => ?_)
    obtain ⟨a162, rfl, rfl, Wq⟩ := hk1
    refine q_wk (ls := [some (q_O 11 0), some (q_I x1), none, some (q_I y0), none]) ⟨rfl, ⟨rfl, ⟨rfl, trivial⟩⟩⟩ ?_
    exact el_X11_rule_165 hS hX _ _ _ Wq
set_option maxHeartbeats 4000000 in
theorem el_X11_rule_155 {g : q_G} {s : q_S} {t p : Nat} (hS : q_Sh t p s) (hX : q_gX g) {post : qa → Prop} : ∀ (x1 : Int32) (a : qa), wl_X11_rule_155 t p post x1 a → q_E g mX11_rule (q_Rm 8 0 0) (q_kV s post) (0, 0) 155 [some (q_O 11 0), some (q_I x1), none, none, none] [] (a, s) := by
  intro x1 a Wq
  unfold wl_X11_rule_155 at Wq
  refine xe_iconst 0 dX11_rule_155 (by decide) ?_
  refine q_wk (ls := [some (q_O 11 0), some (q_I x1), none, none, none]) ⟨rfl, ⟨rfl, trivial⟩⟩ ?_
  exact el_X11_rule_156 hS hX _ _ _ Wq
set_option maxHeartbeats 4000000 in
theorem el_X11_rule_116 {g : q_G} {s : q_S} {t p : Nat} (hS : q_Sh t p s) (hX : q_gX g) {post : qa → Prop} {J86 : Int32 → Int32 → qa → Prop} (hJ86 : ∀ (x1 : Int32) (x2 : Int32) (a : qa), J86 x1 x2 a → q_E g mX11_rule (q_Rm 8 0 0) (q_kV s post) (0, 0) 86 [some (q_O 11 0), some (q_I x1), some (q_I x2), none, none] [] (a, s)) : ∀ (x1 : Int32) (a : qa), wl_X11_rule_116 t p J86 post x1 a → q_E g mX11_rule (q_Rm 8 0 0) (q_kV s post) (0, 0) 116 [some (q_O 11 0), some (q_I x1), none, none, none] [] (a, s) := by
  intro x1 a Wq
  unfold wl_X11_rule_116 at Wq
  refine xe_iconst 0 dX11_rule_116 (by decide) ?_
  refine xe_istore_n dX11_rule_117 (by decide) ?_
  refine xe_iload_n dX11_rule_118 rfl ?_
  refine xe_if_eq 86 dX11_rule_119 (by decide) (fun c_119 => ?_) (fun c_119 => ?_)
  · replace Wq := Wq.1 c_119
    refine q_wk (ls := [some (q_O 11 0), some (q_I x1), some (q_I 0), none, none]) ⟨rfl, ⟨rfl, ⟨rfl, trivial⟩⟩⟩ ?_
    exact hJ86 _ _ _ Wq
  · replace Wq := Wq.2 c_119
    refine xe_aload_n dX11_rule_122 rfl q_rvO ?_
    refine xe_cv (y' := mX11_next) dX11_rule_123 (Or.inl lX11_292) tX11_next rfl rfl (ct_X11_next hS Wq) rfl rfl (Nat.le_of_ble_eq_true rfl) ⟨Nat.le_of_ble_eq_true rfl, Nat.le_of_ble_eq_true rfl⟩ ⟨Nat.le_of_ble_eq_true rfl, Nat.le_of_ble_eq_true rfl⟩ (fun v1 h1 hl1 hk1 hm1 => ?_)
    obtain ⟨a123, rfl, rfl, Wq⟩ := hk1
    refine xe_goto 86 dX11_rule_126 (by decide) ?_
    refine q_wk (ls := [some (q_O 11 0), some (q_I x1), some (q_I 0), none, none]) ⟨rfl, ⟨rfl, ⟨rfl, trivial⟩⟩⟩ ?_
    exact hJ86 _ _ _ Wq
set_option maxHeartbeats 4000000 in
theorem el_X11_rule_86 {g : q_G} {s : q_S} {t p : Nat} (hS : q_Sh t p s) (hX : q_gX g) {post : qa → Prop} : ∀ (n : Nat) (x1 : Int32) (x2 : Int32) (a : qa), wl_X11_rule_86 t p post n x1 x2 a → q_E g mX11_rule (q_Rm 8 0 0) (q_kV s post) (0, 0) 86 [some (q_O 11 0), some (q_I x1), some (q_I x2), none, none] [] (a, s) := by
  intro n
  induction n with
  | zero =>
    intro x1 x2 a Wq
    exact absurd Wq id
  | succ n ih =>
    intro x1 x2 a Wq
    unfold wl_X11_rule_86 at Wq
    refine xe_iload_n dX11_rule_86 rfl ?_
    refine xe_if_eq 129 dX11_rule_87 (by decide) (fun c_87 => ?_) (fun c_87 => ?_)
    · replace Wq := Wq.1 c_87
      refine xe_aload_n dX11_rule_129 rfl q_rvO ?_
      refine xe_bipush 58 dX11_rule_130 (by decide) ?_
      refine xe_cv (y' := mX11_want) dX11_rule_132 (Or.inl lX11_310) tX11_want rfl rfl (ct_X11_want hS Wq) rfl rfl (Nat.le_of_ble_eq_true rfl) ⟨Nat.le_of_ble_eq_true rfl, Nat.le_of_ble_eq_true rfl⟩ ⟨Nat.le_of_ble_eq_true rfl, Nat.le_of_ble_eq_true rfl⟩ (fun v1 h1 hl1 hk1 hm1 => ?_)
      obtain ⟨a132, rfl, rfl, Wq⟩ := hk1
      refine xe_aload_n dX11_rule_135 rfl q_rvO ?_
      refine xe_cv (y' := mX11_isWell) dX11_rule_136 (Or.inl lX11_301) tX11_isWell rfl rfl (ct_X11_isWell hS Wq) rfl rfl (Nat.le_of_ble_eq_true rfl) ⟨Nat.le_of_ble_eq_true rfl, Nat.le_of_ble_eq_true rfl⟩ ⟨Nat.le_of_ble_eq_true rfl, Nat.le_of_ble_eq_true rfl⟩ (fun v1 h1 hl1 hk1 hm1 => ?_)
      obtain ⟨r136, a136, rfl, rfl, Wq⟩ := hk1
      refine xe_if_eq 155 dX11_rule_139 (by decide) (fun c_139 => ?_) (fun c_139 => ?_)
      · replace Wq := Wq.1 c_139
        refine q_wk (ls := [some (q_O 11 0), some (q_I x1), none, none, none]) ⟨rfl, ⟨rfl, trivial⟩⟩ ?_
        exact el_X11_rule_155 hS hX _ _ Wq
      · replace Wq := Wq.2 c_139
        refine xe_aload_n dX11_rule_142 rfl q_rvO ?_
        refine xe_bipush 45 dX11_rule_143 (by decide) ?_
        refine xe_cv (y' := mX11_is) dX11_rule_145 (Or.inl lX11_295) tX11_is rfl rfl (ct_X11_is hS Wq) rfl rfl (Nat.le_of_ble_eq_true rfl) ⟨Nat.le_of_ble_eq_true rfl, Nat.le_of_ble_eq_true rfl⟩ ⟨Nat.le_of_ble_eq_true rfl, Nat.le_of_ble_eq_true rfl⟩ (fun v1 h1 hl1 hk1 hm1 => ?_)
        obtain ⟨r145, a145, rfl, rfl, Wq⟩ := hk1
        refine xe_if_eq 155 dX11_rule_148 (by decide) (fun c_148 => ?_) (fun c_148 => ?_)
        · replace Wq := Wq.1 c_148
          refine q_wk (ls := [some (q_O 11 0), some (q_I x1), none, none, none]) ⟨rfl, ⟨rfl, trivial⟩⟩ ?_
          exact el_X11_rule_155 hS hX _ _ Wq
        · replace Wq := Wq.2 c_148
          refine xe_iconst 1 dX11_rule_151 (by decide) ?_
          refine xe_goto 156 dX11_rule_152 (by decide) ?_
          refine q_wk (ls := [some (q_O 11 0), some (q_I x1), none, none, none]) ⟨rfl, ⟨rfl, trivial⟩⟩ ?_
          exact el_X11_rule_156 hS hX _ _ _ Wq
    · replace Wq := Wq.2 c_87
      refine xe_aload_n dX11_rule_90 rfl q_rvO ?_
      refine xe_iload_n dX11_rule_91 rfl ?_
      refine xe_cv (y' := mX11_term) dX11_rule_92 (Or.inl lX11_305) tX11_term rfl rfl (ct_X11_term hS hX Wq) rfl rfl (Nat.le_of_ble_eq_true rfl) ⟨Nat.le_of_ble_eq_true rfl, Nat.le_of_ble_eq_true rfl⟩ ⟨Nat.le_of_ble_eq_true rfl, Nat.le_of_ble_eq_true rfl⟩ (fun v1 h1 hl1 hk1 hm1 => ?_)
      obtain ⟨a92, rfl, rfl, Wq⟩ := hk1
      refine xe_aload_n dX11_rule_95 rfl q_rvO ?_
      refine xe_cv (y' := mX11_isWell) dX11_rule_96 (Or.inl lX11_301) tX11_isWell rfl rfl (ct_X11_isWell hS Wq) rfl rfl (Nat.le_of_ble_eq_true rfl) ⟨Nat.le_of_ble_eq_true rfl, Nat.le_of_ble_eq_true rfl⟩ ⟨Nat.le_of_ble_eq_true rfl, Nat.le_of_ble_eq_true rfl⟩ (fun v1 h1 hl1 hk1 hm1 => ?_)
      obtain ⟨r96, a96, rfl, rfl, Wq⟩ := hk1
      refine xe_if_eq 116 dX11_rule_99 (by decide) (fun c_99 => ?_) (fun c_99 => ?_)
      · replace Wq := Wq.1 c_99
        refine q_wk (ls := [some (q_O 11 0), some (q_I x1), none, none, none]) ⟨rfl, ⟨rfl, trivial⟩⟩ ?_
        exact el_X11_rule_116 hS hX ih _ _ Wq
      · replace Wq := Wq.2 c_99
        refine xe_aload_n dX11_rule_102 rfl q_rvO ?_
        refine xe_ldcW (k := 15) hX (by decide) ⟨rfl, rfl⟩ dX11_rule_103 ?_
        refine xe_cv (y' := mX11_isWord) dX11_rule_106 (Or.inl lX11_272) tX11_isWord rfl rfl (ct_X11_isWord hS hX Wq) rfl rfl (Nat.le_of_ble_eq_true rfl) ⟨Nat.le_of_ble_eq_true rfl, Nat.le_of_ble_eq_true rfl⟩ ⟨Nat.le_of_ble_eq_true rfl, Nat.le_of_ble_eq_true rfl⟩ (fun v1 h1 hl1 hk1 hm1 => ?_)
        obtain ⟨r106, a106, rfl, rfl, Wq⟩ := hk1
        refine xe_if_eq 116 dX11_rule_109 (by decide) (fun c_109 => ?_) (fun c_109 => ?_)
        · replace Wq := Wq.1 c_109
          refine q_wk (ls := [some (q_O 11 0), some (q_I x1), none, none, none]) ⟨rfl, ⟨rfl, trivial⟩⟩ ?_
          exact el_X11_rule_116 hS hX ih _ _ Wq
        · replace Wq := Wq.2 c_109
          refine xe_iconst 1 dX11_rule_112 (by decide) ?_
          refine xe_goto 117 dX11_rule_113 (by decide) ?_
          refine xe_istore_n dX11_rule_117 (by decide) ?_
          refine xe_iload_n dX11_rule_118 rfl ?_
          refine xe_if_eq 86 dX11_rule_119 (by decide) (fun c_119 => ?_) (fun c_119 => ?_)
          · replace Wq := Wq.1 c_119
            refine q_wk (ls := [some (q_O 11 0), some (q_I x1), some (q_I 1), none, none]) ⟨rfl, ⟨rfl, ⟨rfl, trivial⟩⟩⟩ ?_
            exact ih _ _ _ Wq
          · replace Wq := Wq.2 c_119
            refine xe_aload_n dX11_rule_122 rfl q_rvO ?_
            refine xe_cv (y' := mX11_next) dX11_rule_123 (Or.inl lX11_292) tX11_next rfl rfl (ct_X11_next hS Wq) rfl rfl (Nat.le_of_ble_eq_true rfl) ⟨Nat.le_of_ble_eq_true rfl, Nat.le_of_ble_eq_true rfl⟩ ⟨Nat.le_of_ble_eq_true rfl, Nat.le_of_ble_eq_true rfl⟩ (fun v1 h1 hl1 hk1 hm1 => ?_)
            obtain ⟨a123, rfl, rfl, Wq⟩ := hk1
            refine xe_goto 86 dX11_rule_126 (by decide) ?_
            refine q_wk (ls := [some (q_O 11 0), some (q_I x1), some (q_I 1), none, none]) ⟨rfl, ⟨rfl, ⟨rfl, trivial⟩⟩⟩ ?_
            exact ih _ _ _ Wq
set_option maxHeartbeats 4000000 in
theorem el_X11_rule_23 {g : q_G} {s : q_S} {t p : Nat} (hS : q_Sh t p s) (hX : q_gX g) {post : qa → Prop} : ∀ (a : qa), wl_X11_rule_23 t p post a → q_E g mX11_rule (q_Rm 8 0 0) (q_kV s post) (0, 0) 23 [some (q_O 11 0), none, none, none, none] [] (a, s) := by
  intro a Wq
  unfold wl_X11_rule_23 at Wq
  refine xe_aload_n dX11_rule_23 rfl q_rvO ?_
  refine xe_getr dX11_rule_24 fX11_118 (fun _ _ => rfl) (q_sg hS rfl) ?_
  refine xe_bipush 10 dX11_rule_27 (by decide) ?_
  refine xe_iald dX11_rule_29 rfl (by unfold vp_in; decide) ?_
  refine xe_bipush 20 dX11_rule_30 (by decide) ?_
  refine xe_ic_ne 41 dX11_rule_32 (by decide) (fun c_32 => ?_) (fun c_32 => ?_)
  · replace Wq := Wq.1 c_32
    refine xe_sipush 200 dX11_rule_41 (by decide) ?_
    refine xe_aload_n dX11_rule_44 rfl q_rvO ?_
    refine xe_getr dX11_rule_45 fX11_118 (fun _ _ => rfl) (q_sg hS rfl) ?_
    refine xe_bipush 10 dX11_rule_48 (by decide) ?_
    refine xe_iald dX11_rule_50 rfl (by unfold vp_in; decide) ?_
    refine xe_iadd dX11_rule_51 ?_
    refine xe_istore_n dX11_rule_52 (by decide) ?_
    refine xe_aload_n dX11_rule_53 rfl q_rvO ?_
    refine xe_getr dX11_rule_54 fX11_118 (fun _ _ => rfl) (q_sg hS rfl) ?_
    refine xe_bipush 10 dX11_rule_57 (by decide) ?_
    refine xe_dup2 dX11_rule_59 rfl rfl ?_
    refine xe_iald dX11_rule_60 rfl (by unfold vp_in; decide) ?_
    refine xe_iconst 1 dX11_rule_61 (by decide) ?_
    refine xe_iadd dX11_rule_62 ?_
    refine xf_iast dX11_rule_63 rfl (by unfold vp_in; decide) ?_
    refine xe_aload_n dX11_rule_64 rfl q_rvO ?_
    refine xe_getr dX11_rule_65 fX11_121 (fun _ _ => rfl) (q_sg hS rfl) ?_
    refine xe_iload_n dX11_rule_68 rfl ?_
    refine xe_iconst 0 dX11_rule_69 (by decide) ?_
    obtain ⟨hj_70, Wq⟩ := Wq
    refine xf_iast dX11_rule_70 rfl hj_70 ?_
    refine xe_aload_n dX11_rule_71 rfl q_rvO ?_
    refine xe_bipush 58 dX11_rule_72 (by decide) ?_
    refine xe_cv (y' := mX11_is) dX11_rule_74 (Or.inl lX11_295) tX11_is rfl rfl (ct_X11_is hS Wq) rfl rfl (Nat.le_of_ble_eq_true rfl) ⟨Nat.le_of_ble_eq_true rfl, Nat.le_of_ble_eq_true rfl⟩ ⟨Nat.le_of_ble_eq_true rfl, Nat.le_of_ble_eq_true rfl⟩ (fun v1 h1 hl1 hk1 hm1 => ?_)
    obtain ⟨r74, a74, rfl, rfl, Wq⟩ := hk1
    refine xe_if_ne 84 dX11_rule_77 (by decide) (fun c_77 => ?_) (fun c_77 => ?_)
    · replace Wq := Wq.1 c_77
      refine xe_iconst 0 dX11_rule_84 (by decide) ?_
      refine xe_istore_n dX11_rule_85 (by decide) ?_
      obtain ⟨n_86, Wq⟩ := Wq
      refine q_wk (ls := [some (q_O 11 0), some (q_I (200 + (a 73 0 10))), some (q_I 0), none, none]) ⟨rfl, ⟨rfl, ⟨rfl, trivial⟩⟩⟩ ?_
      exact el_X11_rule_86 hS hX n_86 _ _ _ Wq
    · replace Wq := Wq.2 c_77
      refine xe_iconst 1 dX11_rule_80 (by decide) ?_
      refine xe_goto 85 dX11_rule_81 (by decide) ?_
      refine xe_istore_n dX11_rule_85 (by decide) ?_
      obtain ⟨n_86, Wq⟩ := Wq
      refine q_wk (ls := [some (q_O 11 0), some (q_I (200 + (a 73 0 10))), some (q_I 1), none, none]) ⟨rfl, ⟨rfl, ⟨rfl, trivial⟩⟩⟩ ?_
      exact el_X11_rule_86 hS hX n_86 _ _ _ Wq
  · replace Wq := Wq.2 c_32
    refine xe_aload_n dX11_rule_35 rfl q_rvO ?_
    refine xe_iconst 2 dX11_rule_36 (by decide) ?_
    refine xe_cv (y' := mX11_fails) dX11_rule_37 (Or.inl lX11_289) tX11_fails rfl rfl (ct_X11_fails hS Wq) rfl rfl (Nat.le_of_ble_eq_true rfl) ⟨Nat.le_of_ble_eq_true rfl, Nat.le_of_ble_eq_true rfl⟩ ⟨Nat.le_of_ble_eq_true rfl, Nat.le_of_ble_eq_true rfl⟩ (fun v1 h1 hl1 hk1 hm1 => ?_)
    obtain ⟨a37, rfl, rfl, Wq⟩ := hk1
    exact xe_vret dX11_rule_40 rfl ⟨_, rfl, rfl, Wq⟩
set_option maxHeartbeats 4000000 in
theorem ct_X11_rule {g : q_G} {s : q_S} {t p : Nat} (hS : q_Sh t p s) (hX : q_gX g) {a : qa} {post : qa → Prop} (Wq : wp_X11_rule t p  a post) : q_Ct g mX11_rule (q_Rm 8 0 0) [q_O 11 0] (a, s) (q_kV s post) := by
  refine q_mk rfl rfl (Nat.le_of_ble_eq_true rfl) (q_cs rfl q_nil) (fun hv => ?_)
  unfold wp_X11_rule at Wq
  refine xe_aload_n dX11_rule_0 rfl q_rvO ?_
  refine xe_bipush 58 dX11_rule_1 (by decide) ?_
  refine xe_cv (y' := mX11_is) dX11_rule_3 (Or.inl lX11_295) tX11_is rfl rfl (ct_X11_is hS Wq) rfl rfl (Nat.le_of_ble_eq_true rfl) ⟨Nat.le_of_ble_eq_true rfl, Nat.le_of_ble_eq_true rfl⟩ ⟨Nat.le_of_ble_eq_true rfl, Nat.le_of_ble_eq_true rfl⟩ (fun v1 h1 hl1 hk1 hm1 => ?_)
  obtain ⟨r3, a3, rfl, rfl, Wq⟩ := hk1
  refine xe_if_ne 23 dX11_rule_6 (by decide) (fun c_6 => ?_) (fun c_6 => ?_)
  · replace Wq := Wq.1 c_6
    refine q_wk (ls := [some (q_O 11 0), none, none, none, none]) ⟨rfl, trivial⟩ ?_
    exact el_X11_rule_23 hS hX  _ Wq
  · replace Wq := Wq.2 c_6
    refine xe_aload_n dX11_rule_9 rfl q_rvO ?_
    refine xe_cv (y' := mX11_word) dX11_rule_10 (Or.inl lX11_286) tX11_word rfl rfl (ct_X11_word hS hX Wq) rfl rfl (Nat.le_of_ble_eq_true rfl) ⟨Nat.le_of_ble_eq_true rfl, Nat.le_of_ble_eq_true rfl⟩ ⟨Nat.le_of_ble_eq_true rfl, Nat.le_of_ble_eq_true rfl⟩ (fun v1 h1 hl1 hk1 hm1 => ?_)
    obtain ⟨r10, a10, rfl, rfl, Wq⟩ := hk1
    refine xe_iconst (-1) dX11_rule_13 (by decide) ?_
    refine xe_ic_ne 23 dX11_rule_14 (by decide) (fun c_14 => ?_) (fun c_14 => ?_)
    · replace Wq := Wq.1 c_14
      refine q_wk (ls := [some (q_O 11 0), none, none, none, none]) ⟨rfl, trivial⟩ ?_
      exact el_X11_rule_23 hS hX  _ Wq
    · replace Wq := Wq.2 c_14
      refine xe_aload_n dX11_rule_17 rfl q_rvO ?_
      refine xe_iconst 1 dX11_rule_18 (by decide) ?_
      refine xe_cv (y' := mX11_fails) dX11_rule_19 (Or.inl lX11_289) tX11_fails rfl rfl (ct_X11_fails hS Wq) rfl rfl (Nat.le_of_ble_eq_true rfl) ⟨Nat.le_of_ble_eq_true rfl, Nat.le_of_ble_eq_true rfl⟩ ⟨Nat.le_of_ble_eq_true rfl, Nat.le_of_ble_eq_true rfl⟩ (fun v1 h1 hl1 hk1 hm1 => ?_)
      obtain ⟨a19, rfl, rfl, Wq⟩ := hk1
      exact xe_vret dX11_rule_22 rfl ⟨_, rfl, rfl, Wq⟩
def wl_X11_bargain_198 (t p : Nat) (post : Int32 → qa → Prop) : Nat → Int32 → Int32 → qa → Prop
  | 0 => fun _ _ _ => False
  | n + 1 => fun x1 x2 a => ((80 ≤ x2 → post x1 a) ∧ (¬ 80 ≤ x2 → vp_in (800 + x2) 880 ∧ vp_in ((80 * x1) + x2) 880 ∧ vp_in (800 + x2) 880 ∧ vp_in ((80 * x1) + x2) 880 ∧ vp_in (800 + x2) 880 ∧ vp_in ((80 * x1) + x2) 880 ∧ ((wl_X11_bargain_198 t p post n) x1 (x2 + 1) (qs (qs (qs a 76 0 (((80 * x1) + x2).toNatClampNeg) (a 76 0 ((800 + x2).toNatClampNeg))) 77 0 (((80 * x1) + x2).toNatClampNeg) (a 77 0 ((800 + x2).toNatClampNeg))) 78 0 (((80 * x1) + x2).toNatClampNeg) (a 78 0 ((800 + x2).toNatClampNeg))))))
def wl_X11_bargain_138 (t p : Nat) (post : Int32 → qa → Prop) : Nat → Int32 → Int32 → qa → Prop
  | 0 => fun _ _ _ => False
  | n + 1 => fun x1 x2 a => vp_in x1 11 ∧ (((a 73 0 x1.toNatClampNeg) ≤ x2 → ∃ n_198, wl_X11_bargain_198 t p post n_198 x1 0 a) ∧ (¬ (a 73 0 x1.toNatClampNeg) ≤ x2 → vp_in (200 + x2) 220 ∧ vp_in ((20 * x1) + x2) 220 ∧ vp_in (200 + x2) 220 ∧ vp_in ((20 * x1) + x2) 220 ∧ ((wl_X11_bargain_138 t p post n) x1 (x2 + 1) (qs (qs a 74 0 (((20 * x1) + x2).toNatClampNeg) (a 74 0 ((200 + x2).toNatClampNeg))) 75 0 (((20 * x1) + x2).toNatClampNeg) (a 75 0 ((200 + x2).toNatClampNeg))))))
def wl_X11_bargain_80 (t p : Nat) (post : Int32 → qa → Prop) : Int32 → qa → Prop := fun y1 a => wp_X11_isWell t p  (qs a 11 0 49 y1) (fun r84 a84 => ((¬ r84 = 0 → vp_in (a84 11 0 50) 11 ∧ vp_in (a84 11 0 50) 11 ∧ (∃ n_138, wl_X11_bargain_138 t p post n_138 (a84 11 0 50) 0 (qs (qs (qs a84 11 0 50 ((a84 11 0 50) + 1)) 72 0 ((a84 11 0 50).toNatClampNeg) (a84 11 0 1)) 73 0 ((a84 11 0 50).toNatClampNeg) (a84 73 0 10)))) ∧ (r84 = 0 → post ((-2) - (a84 11 0 47)) a84)))
def wl_X11_bargain_59 (t p : Nat) (post : Int32 → qa → Prop) : qa → Prop := fun a => wp_X11_isWell t p  (qs a 11 0 42 0) (fun r66 a66 => ((r66 = 0 → wl_X11_bargain_80 t p post (a66 11 0 48) a66) ∧ (¬ r66 = 0 → wl_X11_bargain_80 t p post (-1) a66)))
def wl_X11_bargain_38 (t p : Nat) (post : Int32 → qa → Prop) : Nat → qa → Prop
  | 0 => fun _ => False
  | n + 1 => fun a => wp_X11_isWell t p  a (fun r39 a39 => ((r39 = 0 → wl_X11_bargain_59 t p post  a39) ∧ (¬ r39 = 0 → (((a39 11 0 45) = 0 → wl_X11_bargain_59 t p post  a39) ∧ (¬ (a39 11 0 45) = 0 → wp_X11_rule t p  a39 (fun a53 => (wl_X11_bargain_38 t p post n)  a53))))))
def wp_X11_bargain (t p : Nat) (a : qa) (post : Int32 → qa → Prop) : Prop := ((¬ (a 11 0 50) = 10 → wp_X11_next t p  (qs (qs (qs (qs a 11 0 0 0) 11 0 47 0) 11 0 43 0) 73 0 10 0) (fun a35 => ∃ n_38, wl_X11_bargain_38 t p post n_38 a35)) ∧ ((a 11 0 50) = 10 → post (-1) (qs a 11 0 0 0)))
set_option maxHeartbeats 4000000 in
theorem el_X11_bargain_198 {g : q_G} {s : q_S} {t p : Nat} (hS : q_Sh t p s) (hX : q_gX g) {post : Int32 → qa → Prop} : ∀ (n : Nat) (x1 : Int32) (x2 : Int32) (a : qa), wl_X11_bargain_198 t p post n x1 x2 a → q_E g mX11_bargain (q_Rm 9 0 0) (q_kI s post) (0, 0) 198 [some (q_O 11 0), some (q_I x1), some (q_I x2)] [] (a, s) := by
  intro n
  induction n with
  | zero =>
    intro x1 x2 a Wq
    exact absurd Wq id
  | succ n ih =>
    intro x1 x2 a Wq
    unfold wl_X11_bargain_198 at Wq
    refine xe_iload_n dX11_bargain_198 rfl ?_
    refine xe_bipush 80 dX11_bargain_199 (by decide) ?_
    refine xe_ic_ge 273 dX11_bargain_201 (by decide) (fun c_201 => ?_) (fun c_201 => ?_)
    · replace Wq := Wq.1 c_201
      refine xe_iload_n dX11_bargain_273 rfl ?_
      exact xe_iret .int dX11_bargain_274 rfl rfl ⟨_, _, rfl, rfl, Wq⟩
    · replace Wq := Wq.2 c_201
      refine xe_aload_n dX11_bargain_204 rfl q_rvO ?_
      refine xe_getr dX11_bargain_205 fX11_127 (fun _ _ => rfl) (q_sg hS rfl) ?_
      refine xe_bipush 80 dX11_bargain_208 (by decide) ?_
      refine xe_iload_n dX11_bargain_210 rfl ?_
      refine xe_imul dX11_bargain_211 ?_
      refine xe_iload_n dX11_bargain_212 rfl ?_
      refine xe_iadd dX11_bargain_213 ?_
      refine xe_aload_n dX11_bargain_214 rfl q_rvO ?_
      refine xe_getr dX11_bargain_215 fX11_127 (fun _ _ => rfl) (q_sg hS rfl) ?_
      refine xe_sipush 800 dX11_bargain_218 (by decide) ?_
      refine xe_iload_n dX11_bargain_221 rfl ?_
      refine xe_iadd dX11_bargain_222 ?_
      obtain ⟨hj_223, Wq⟩ := Wq
      refine xe_iald dX11_bargain_223 rfl hj_223 ?_
      obtain ⟨hj_224, Wq⟩ := Wq
      refine xf_iast dX11_bargain_224 rfl hj_224 ?_
      refine xe_aload_n dX11_bargain_225 rfl q_rvO ?_
      refine xe_getr dX11_bargain_226 fX11_130 (fun _ _ => rfl) (q_sg hS rfl) ?_
      refine xe_bipush 80 dX11_bargain_229 (by decide) ?_
      refine xe_iload_n dX11_bargain_231 rfl ?_
      refine xe_imul dX11_bargain_232 ?_
      refine xe_iload_n dX11_bargain_233 rfl ?_
      refine xe_iadd dX11_bargain_234 ?_
      refine xe_aload_n dX11_bargain_235 rfl q_rvO ?_
      refine xe_getr dX11_bargain_236 fX11_130 (fun _ _ => rfl) (q_sg hS rfl) ?_
      refine xe_sipush 800 dX11_bargain_239 (by decide) ?_
      refine xe_iload_n dX11_bargain_242 rfl ?_
      refine xe_iadd dX11_bargain_243 ?_
      obtain ⟨hj_244, Wq⟩ := Wq
      refine xe_iald dX11_bargain_244 rfl hj_244 ?_
      obtain ⟨hj_245, Wq⟩ := Wq
      refine xf_iast dX11_bargain_245 rfl hj_245 ?_
      refine xe_aload_n dX11_bargain_246 rfl q_rvO ?_
      refine xe_getr dX11_bargain_247 fX11_133 (fun _ _ => rfl) (q_sg hS rfl) ?_
      refine xe_bipush 80 dX11_bargain_250 (by decide) ?_
      refine xe_iload_n dX11_bargain_252 rfl ?_
      refine xe_imul dX11_bargain_253 ?_
      refine xe_iload_n dX11_bargain_254 rfl ?_
      refine xe_iadd dX11_bargain_255 ?_
      refine xe_aload_n dX11_bargain_256 rfl q_rvO ?_
      refine xe_getr dX11_bargain_257 fX11_133 (fun _ _ => rfl) (q_sg hS rfl) ?_
      refine xe_sipush 800 dX11_bargain_260 (by decide) ?_
      refine xe_iload_n dX11_bargain_263 rfl ?_
      refine xe_iadd dX11_bargain_264 ?_
      obtain ⟨hj_265, Wq⟩ := Wq
      refine xe_iald dX11_bargain_265 rfl hj_265 ?_
      obtain ⟨hj_266, Wq⟩ := Wq
      refine xf_iast dX11_bargain_266 rfl hj_266 ?_
      refine xe_iinc (_ + 1) dX11_bargain_267 (by decide) rfl rfl ?_
      refine xe_goto 198 dX11_bargain_270 (by decide) ?_
      refine q_wk (ls := [some (q_O 11 0), some (q_I x1), some (q_I (x2 + 1))]) ⟨rfl, ⟨rfl, ⟨rfl, trivial⟩⟩⟩ ?_
      exact ih _ _ _ Wq
set_option maxHeartbeats 4000000 in
theorem el_X11_bargain_138 {g : q_G} {s : q_S} {t p : Nat} (hS : q_Sh t p s) (hX : q_gX g) {post : Int32 → qa → Prop} : ∀ (n : Nat) (x1 : Int32) (x2 : Int32) (a : qa), wl_X11_bargain_138 t p post n x1 x2 a → q_E g mX11_bargain (q_Rm 9 0 0) (q_kI s post) (0, 0) 138 [some (q_O 11 0), some (q_I x1), some (q_I x2)] [] (a, s) := by
  intro n
  induction n with
  | zero =>
    intro x1 x2 a Wq
    exact absurd Wq id
  | succ n ih =>
    intro x1 x2 a Wq
    unfold wl_X11_bargain_138 at Wq
    refine xe_iload_n dX11_bargain_138 rfl ?_
    refine xe_aload_n dX11_bargain_139 rfl q_rvO ?_
    refine xe_getr dX11_bargain_140 fX11_118 (fun _ _ => rfl) (q_sg hS rfl) ?_
    refine xe_iload_n dX11_bargain_143 rfl ?_
    obtain ⟨hj_144, Wq⟩ := Wq
    refine xe_iald dX11_bargain_144 rfl hj_144 ?_
    refine xe_ic_ge 196 dX11_bargain_145 (by decide) (fun c_145 => ?_) (fun c_145 => ?_)
    · replace Wq := Wq.1 c_145
      refine xe_iconst 0 dX11_bargain_196 (by decide) ?_
      refine xe_istore_n dX11_bargain_197 (by decide) ?_
      obtain ⟨n_198, Wq⟩ := Wq
      refine q_wk (ls := [some (q_O 11 0), some (q_I x1), some (q_I 0)]) ⟨rfl, ⟨rfl, ⟨rfl, trivial⟩⟩⟩ ?_
      exact el_X11_bargain_198 hS hX n_198 _ _ _ Wq
    · replace Wq := Wq.2 c_145
      refine xe_aload_n dX11_bargain_148 rfl q_rvO ?_
      refine xe_getr dX11_bargain_149 fX11_121 (fun _ _ => rfl) (q_sg hS rfl) ?_
      refine xe_bipush 20 dX11_bargain_152 (by decide) ?_
      refine xe_iload_n dX11_bargain_154 rfl ?_
      refine xe_imul dX11_bargain_155 ?_
      refine xe_iload_n dX11_bargain_156 rfl ?_
      refine xe_iadd dX11_bargain_157 ?_
      refine xe_aload_n dX11_bargain_158 rfl q_rvO ?_
      refine xe_getr dX11_bargain_159 fX11_121 (fun _ _ => rfl) (q_sg hS rfl) ?_
      refine xe_sipush 200 dX11_bargain_162 (by decide) ?_
      refine xe_iload_n dX11_bargain_165 rfl ?_
      refine xe_iadd dX11_bargain_166 ?_
      obtain ⟨hj_167, Wq⟩ := Wq
      refine xe_iald dX11_bargain_167 rfl hj_167 ?_
      obtain ⟨hj_168, Wq⟩ := Wq
      refine xf_iast dX11_bargain_168 rfl hj_168 ?_
      refine xe_aload_n dX11_bargain_169 rfl q_rvO ?_
      refine xe_getr dX11_bargain_170 fX11_124 (fun _ _ => rfl) (q_sg hS rfl) ?_
      refine xe_bipush 20 dX11_bargain_173 (by decide) ?_
      refine xe_iload_n dX11_bargain_175 rfl ?_
      refine xe_imul dX11_bargain_176 ?_
      refine xe_iload_n dX11_bargain_177 rfl ?_
      refine xe_iadd dX11_bargain_178 ?_
      refine xe_aload_n dX11_bargain_179 rfl q_rvO ?_
      refine xe_getr dX11_bargain_180 fX11_124 (fun _ _ => rfl) (q_sg hS rfl) ?_
      refine xe_sipush 200 dX11_bargain_183 (by decide) ?_
      refine xe_iload_n dX11_bargain_186 rfl ?_
      refine xe_iadd dX11_bargain_187 ?_
      obtain ⟨hj_188, Wq⟩ := Wq
      refine xe_iald dX11_bargain_188 rfl hj_188 ?_
      obtain ⟨hj_189, Wq⟩ := Wq
      refine xf_iast dX11_bargain_189 rfl hj_189 ?_
      refine xe_iinc (_ + 1) dX11_bargain_190 (by decide) rfl rfl ?_
      refine xe_goto 138 dX11_bargain_193 (by decide) ?_
      refine q_wk (ls := [some (q_O 11 0), some (q_I x1), some (q_I (x2 + 1))]) ⟨rfl, ⟨rfl, ⟨rfl, trivial⟩⟩⟩ ?_
      exact ih _ _ _ Wq
set_option maxHeartbeats 4000000 in
theorem el_X11_bargain_80 {g : q_G} {s : q_S} {t p : Nat} (hS : q_Sh t p s) (hX : q_gX g) {post : Int32 → qa → Prop} : ∀ (y1 : Int32) (a : qa), wl_X11_bargain_80 t p post y1 a → q_E g mX11_bargain (q_Rm 9 0 0) (q_kI s post) (0, 0) 80 [some (q_O 11 0), none, none] [(q_I y1), (q_O 11 0)] (a, s) := by
  intro y1 a Wq
  unfold wl_X11_bargain_80 at Wq
  refine xf_puti dX11_bargain_80 fX11_112 (fun q hq => Or.inl (by cases hq; rfl)) ⟨rfl, rfl⟩ (fun _ _ => rfl) ?_
  refine xe_aload_n dX11_bargain_83 rfl q_rvO ?_
  refine xe_cv (y' := mX11_isWell) dX11_bargain_84 (Or.inl lX11_301) tX11_isWell rfl rfl (ct_X11_isWell hS Wq) rfl rfl (Nat.le_of_ble_eq_true rfl) ⟨Nat.le_of_ble_eq_true rfl, Nat.le_of_ble_eq_true rfl⟩ ⟨Nat.le_of_ble_eq_true rfl, Nat.le_of_ble_eq_true rfl⟩ (fun v1 h1 hl1 hk1 hm1 => ?_)
  obtain ⟨r84, a84, rfl, rfl, Wq⟩ := hk1
  refine xe_if_ne 98 dX11_bargain_87 (by decide) (fun c_87 => ?_) (fun c_87 => ?_)
  · replace Wq := Wq.1 c_87
    refine xe_aload_n dX11_bargain_98 rfl q_rvO ?_
    refine xe_geti dX11_bargain_99 fX11_313 (fun _ _ => rfl) ?_
    refine xe_istore_n dX11_bargain_102 (by decide) ?_
    refine xe_aload_n dX11_bargain_103 rfl q_rvO ?_
    refine xe_dup dX11_bargain_104 rfl ?_
    refine xe_geti dX11_bargain_105 fX11_313 (fun _ _ => rfl) ?_
    refine xe_iconst 1 dX11_bargain_108 (by decide) ?_
    refine xe_iadd dX11_bargain_109 ?_
    refine xf_puti dX11_bargain_110 fX11_313 (fun q hq => Or.inl (by cases hq; rfl)) ⟨rfl, rfl⟩ (fun _ _ => rfl) ?_
    refine xe_aload_n dX11_bargain_113 rfl q_rvO ?_
    refine xe_getr dX11_bargain_114 fX11_115 (fun _ _ => rfl) (q_sg hS rfl) ?_
    refine xe_iload_n dX11_bargain_117 rfl ?_
    refine xe_aload_n dX11_bargain_118 rfl q_rvO ?_
    refine xe_geti dX11_bargain_119 fX11_150 (fun _ _ => rfl) ?_
    obtain ⟨hj_122, Wq⟩ := Wq
    refine xf_iast dX11_bargain_122 rfl hj_122 ?_
    refine xe_aload_n dX11_bargain_123 rfl q_rvO ?_
    refine xe_getr dX11_bargain_124 fX11_118 (fun _ _ => rfl) (q_sg hS rfl) ?_
    refine xe_iload_n dX11_bargain_127 rfl ?_
    refine xe_aload_n dX11_bargain_128 rfl q_rvO ?_
    refine xe_getr dX11_bargain_129 fX11_118 (fun _ _ => rfl) (q_sg hS rfl) ?_
    refine xe_bipush 10 dX11_bargain_132 (by decide) ?_
    refine xe_iald dX11_bargain_134 rfl (by unfold vp_in; decide) ?_
    obtain ⟨hj_135, Wq⟩ := Wq
    refine xf_iast dX11_bargain_135 rfl hj_135 ?_
    refine xe_iconst 0 dX11_bargain_136 (by decide) ?_
    refine xe_istore_n dX11_bargain_137 (by decide) ?_
    obtain ⟨n_138, Wq⟩ := Wq
    refine q_wk (ls := [some (q_O 11 0), some (q_I (a84 11 0 50)), some (q_I 0)]) ⟨rfl, ⟨rfl, ⟨rfl, trivial⟩⟩⟩ ?_
    exact el_X11_bargain_138 hS hX n_138 _ _ _ Wq
  · replace Wq := Wq.2 c_87
    refine xe_bipush (-2) dX11_bargain_90 (by decide) ?_
    refine xe_aload_n dX11_bargain_92 rfl q_rvO ?_
    refine xe_geti dX11_bargain_93 fX11_264 (fun _ _ => rfl) ?_
    refine xe_isub dX11_bargain_96 ?_
    exact xe_iret .int dX11_bargain_97 rfl rfl ⟨_, _, rfl, rfl, Wq⟩
set_option maxHeartbeats 4000000 in
theorem el_X11_bargain_59 {g : q_G} {s : q_S} {t p : Nat} (hS : q_Sh t p s) (hX : q_gX g) {post : Int32 → qa → Prop} : ∀ (a : qa), wl_X11_bargain_59 t p post a → q_E g mX11_bargain (q_Rm 9 0 0) (q_kI s post) (0, 0) 59 [some (q_O 11 0), none, none] [] (a, s) := by
  intro a Wq
  unfold wl_X11_bargain_59 at Wq
  refine xe_aload_n dX11_bargain_59 rfl q_rvO ?_
  refine xe_iconst 0 dX11_bargain_60 (by decide) ?_
  refine xf_puti dX11_bargain_61 fX11_230 (fun q hq => Or.inl (by cases hq; rfl)) ⟨rfl, rfl⟩ (fun _ _ => rfl) ?_
  refine xe_aload_n dX11_bargain_64 rfl q_rvO ?_
  refine xe_aload_n dX11_bargain_65 rfl q_rvO ?_
  refine xe_cv (y' := mX11_isWell) dX11_bargain_66 (Or.inl lX11_301) tX11_isWell rfl rfl (ct_X11_isWell hS Wq) rfl rfl (Nat.le_of_ble_eq_true rfl) ⟨Nat.le_of_ble_eq_true rfl, Nat.le_of_ble_eq_true rfl⟩ ⟨Nat.le_of_ble_eq_true rfl, Nat.le_of_ble_eq_true rfl⟩ (fun v1 h1 hl1 hk1 hm1 => ?_)
  obtain ⟨r66, a66, rfl, rfl, Wq⟩ := hk1
  refine xe_if_eq 76 dX11_bargain_69 (by decide) (fun c_69 => ?_) (fun c_69 => ?_)
  · replace Wq := Wq.1 c_69
    refine xe_aload_n dX11_bargain_76 rfl q_rvO ?_
    refine xe_geti dX11_bargain_77 fX11_267 (fun _ _ => rfl) ?_
    refine q_wk (ls := [some (q_O 11 0), none, none]) ⟨rfl, trivial⟩ ?_
    exact el_X11_bargain_80 hS hX _ _ Wq
  · replace Wq := Wq.2 c_69
    refine xe_iconst (-1) dX11_bargain_72 (by decide) ?_
    refine xe_goto 80 dX11_bargain_73 (by decide) ?_
    refine q_wk (ls := [some (q_O 11 0), none, none]) ⟨rfl, trivial⟩ ?_
    exact el_X11_bargain_80 hS hX _ _ Wq
set_option maxHeartbeats 4000000 in
theorem el_X11_bargain_38 {g : q_G} {s : q_S} {t p : Nat} (hS : q_Sh t p s) (hX : q_gX g) {post : Int32 → qa → Prop} : ∀ (n : Nat) (a : qa), wl_X11_bargain_38 t p post n a → q_E g mX11_bargain (q_Rm 9 0 0) (q_kI s post) (0, 0) 38 [some (q_O 11 0), none, none] [] (a, s) := by
  intro n
  induction n with
  | zero =>
    intro a Wq
    exact absurd Wq id
  | succ n ih =>
    intro a Wq
    unfold wl_X11_bargain_38 at Wq
    refine xe_aload_n dX11_bargain_38 rfl q_rvO ?_
    refine xe_cv (y' := mX11_isWell) dX11_bargain_39 (Or.inl lX11_301) tX11_isWell rfl rfl (ct_X11_isWell hS Wq) rfl rfl (Nat.le_of_ble_eq_true rfl) ⟨Nat.le_of_ble_eq_true rfl, Nat.le_of_ble_eq_true rfl⟩ ⟨Nat.le_of_ble_eq_true rfl, Nat.le_of_ble_eq_true rfl⟩ (fun v1 h1 hl1 hk1 hm1 => ?_)
    obtain ⟨r39, a39, rfl, rfl, Wq⟩ := hk1
    refine xe_if_eq 59 dX11_bargain_42 (by decide) (fun c_42 => ?_) (fun c_42 => ?_)
    · replace Wq := Wq.1 c_42
      refine q_wk (ls := [some (q_O 11 0), none, none]) ⟨rfl, trivial⟩ ?_
      exact el_X11_bargain_59 hS hX  _ Wq
    · replace Wq := Wq.2 c_42
      refine xe_aload_n dX11_bargain_45 rfl q_rvO ?_
      refine xe_geti dX11_bargain_46 fX11_239 (fun _ _ => rfl) ?_
      refine xe_if_eq 59 dX11_bargain_49 (by decide) (fun c_49 => ?_) (fun c_49 => ?_)
      · replace Wq := Wq.1 c_49
        refine q_wk (ls := [some (q_O 11 0), none, none]) ⟨rfl, trivial⟩ ?_
        exact el_X11_bargain_59 hS hX  _ Wq
      · replace Wq := Wq.2 c_49
        refine xe_aload_n dX11_bargain_52 rfl q_rvO ?_
        refine xe_cv (y' := mX11_rule) dX11_bargain_53 (Or.inl lX11_316) tX11_rule rfl rfl (ct_X11_rule hS hX Wq) rfl rfl (Nat.le_of_ble_eq_true rfl) ⟨Nat.le_of_ble_eq_true rfl, Nat.le_of_ble_eq_true rfl⟩ ⟨Nat.le_of_ble_eq_true rfl, Nat.le_of_ble_eq_true rfl⟩ (fun v1 h1 hl1 hk1 hm1 => ?_)
        obtain ⟨a53, rfl, rfl, Wq⟩ := hk1
        refine xe_goto 38 dX11_bargain_56 (by decide) ?_
        refine q_wk (ls := [some (q_O 11 0), none, none]) ⟨rfl, trivial⟩ ?_
        exact ih  _ Wq
set_option maxHeartbeats 4000000 in
theorem ct_X11_bargain {g : q_G} {s : q_S} {t p : Nat} (hS : q_Sh t p s) (hX : q_gX g) {a : qa} {post : Int32 → qa → Prop} (Wq : wp_X11_bargain t p  a post) : q_Ct g mX11_bargain (q_Rm 9 0 0) [q_O 11 0] (a, s) (q_kI s post) := by
  refine q_mk rfl rfl (Nat.le_of_ble_eq_true rfl) (q_cs rfl q_nil) (fun hv => ?_)
  unfold wp_X11_bargain at Wq
  refine xe_aload_n dX11_bargain_0 rfl q_rvO ?_
  refine xe_iconst 0 dX11_bargain_1 (by decide) ?_
  refine xf_puti dX11_bargain_2 fX11_1 (fun q hq => Or.inl (by cases hq; rfl)) ⟨rfl, rfl⟩ (fun _ _ => rfl) ?_
  refine xe_aload_n dX11_bargain_5 rfl q_rvO ?_
  refine xe_geti dX11_bargain_6 fX11_313 (fun _ _ => rfl) ?_
  refine xe_bipush 10 dX11_bargain_9 (by decide) ?_
  refine xe_ic_ne 16 dX11_bargain_11 (by decide) (fun c_11 => ?_) (fun c_11 => ?_)
  · replace Wq := Wq.1 c_11
    refine xe_aload_n dX11_bargain_16 rfl q_rvO ?_
    refine xe_iconst 0 dX11_bargain_17 (by decide) ?_
    refine xf_puti dX11_bargain_18 fX11_264 (fun q hq => Or.inl (by cases hq; rfl)) ⟨rfl, rfl⟩ (fun _ _ => rfl) ?_
    refine xe_aload_n dX11_bargain_21 rfl q_rvO ?_
    refine xe_iconst 0 dX11_bargain_22 (by decide) ?_
    refine xf_puti dX11_bargain_23 fX11_233 (fun q hq => Or.inl (by cases hq; rfl)) ⟨rfl, rfl⟩ (fun _ _ => rfl) ?_
    refine xe_aload_n dX11_bargain_26 rfl q_rvO ?_
    refine xe_getr dX11_bargain_27 fX11_118 (fun _ _ => rfl) (q_sg hS rfl) ?_
    refine xe_bipush 10 dX11_bargain_30 (by decide) ?_
    refine xe_iconst 0 dX11_bargain_32 (by decide) ?_
    refine xf_iast dX11_bargain_33 rfl (by unfold vp_in; decide) ?_
    refine xe_aload_n dX11_bargain_34 rfl q_rvO ?_
    refine xe_cv (y' := mX11_next) dX11_bargain_35 (Or.inl lX11_292) tX11_next rfl rfl (ct_X11_next hS Wq) rfl rfl (Nat.le_of_ble_eq_true rfl) ⟨Nat.le_of_ble_eq_true rfl, Nat.le_of_ble_eq_true rfl⟩ ⟨Nat.le_of_ble_eq_true rfl, Nat.le_of_ble_eq_true rfl⟩ (fun v1 h1 hl1 hk1 hm1 => ?_)
    obtain ⟨a35, rfl, rfl, Wq⟩ := hk1
    obtain ⟨n_38, Wq⟩ := Wq
    refine q_wk (ls := [some (q_O 11 0), none, none]) ⟨rfl, trivial⟩ ?_
    exact el_X11_bargain_38 hS hX n_38  _ Wq
  · replace Wq := Wq.2 c_11
    refine xe_iconst (-1) dX11_bargain_14 (by decide) ?_
    exact xe_iret .int dX11_bargain_15 rfl rfl ⟨_, _, rfl, rfl, Wq⟩
def wl_X11_tries_85 (t p : Nat) (post : qa → Prop) : Nat → Int32 → qa → Prop
  | 0 => fun _ _ => False
  | n + 1 => fun x8 a => (((a 11 0 36) ≤ x8 → post a) ∧ (¬ (a 11 0 36) ≤ x8 → vp_in x8 10 ∧ vp_in x8 10 ∧ ((wl_X11_tries_85 t p post n) (x8 + 1) (qs a 70 0 x8.toNatClampNeg (a 69 0 x8.toNatClampNeg)))))
def wp_X11_tries (t p : Nat) : Nat → Int32 → Int32 → Int32 → Int32 → Int32 → qa → (qa → Prop) → Prop
  | 0 => fun _ _ _ _ _ _ _ => False
  | n + 1 => fun x1 x2 x3 x4 x5 a post => (((x2 + x3) ≤ x5 → ((¬ x1 = (a 11 0 36) → vp_in x1 10 ∧ vp_in (a 68 0 x1.toNatClampNeg) 100 ∧ vp_in x1 10 ∧ wp_X11_tries t p n (x1 + 1) (x2 + (a 56 0 ((a 68 0 x1.toNatClampNeg).toNatClampNeg))) x3 (x4 + 1) x5 (qs a 69 0 x1.toNatClampNeg 0) (fun a150 => vp_in x1 10 ∧ wp_X11_tries t p n (x1 + 1) x2 (x3 + (a 56 0 ((a 68 0 x1.toNatClampNeg).toNatClampNeg))) (x4 + 1) x5 (qs a150 69 0 x1.toNatClampNeg 1) (fun a175 => vp_in x1 10 ∧ wp_X11_tries t p n (x1 + 1) x2 x3 x4 x5 (qs a175 69 0 x1.toNatClampNeg 2) (fun a195 => post a195)))) ∧ (x1 = (a 11 0 36) → (((x2 - x3) < (-10) → post a) ∧ (¬ (x2 - x3) < (-10) → (((x2 - x3) ≤ 10 → (((x2 + x3) < (a 11 0 39) → post a) ∧ (¬ (x2 + x3) < (a 11 0 39) → ((¬ (x2 + x3) = (a 11 0 39) → ∃ n_85, wl_X11_tries_85 t p post n_85 0 (qs (qs a 11 0 39 (x2 + x3)) 11 0 40 x4)) ∧ ((x2 + x3) = (a 11 0 39) → ((x4 < (a 11 0 40) → ∃ n_85, wl_X11_tries_85 t p post n_85 0 (qs (qs a 11 0 39 (x2 + x3)) 11 0 40 x4)) ∧ (¬ x4 < (a 11 0 40) → post a))))))) ∧ (¬ (x2 - x3) ≤ 10 → post a))))))) ∧ (¬ (x2 + x3) ≤ x5 → post a))
set_option maxHeartbeats 4000000 in
theorem el_X11_tries_85 {g : q_G} {R : Room} {s : q_S} {t p : Nat} (hS : q_Sh t p s) {post : qa → Prop} : ∀ (n : Nat) (x8 : Int32) (a : qa), wl_X11_tries_85 t p post n x8 a → q_E g mX11_tries R (q_kV s post) (0, 0) 85 [some (q_O 11 0), none, none, none, none, none, none, none, some (q_I x8)] [] (a, s) := by
  intro n
  induction n with
  | zero =>
    intro x8 a Wq
    exact absurd Wq id
  | succ n ih =>
    intro x8 a Wq
    unfold wl_X11_tries_85 at Wq
    refine xe_iload dX11_tries_85 rfl ?_
    refine xe_aload_n dX11_tries_87 rfl q_rvO ?_
    refine xe_geti dX11_tries_88 fX11_213 (fun _ _ => rfl) ?_
    refine xe_ic_ge 114 dX11_tries_91 (by decide) (fun c_91 => ?_) (fun c_91 => ?_)
    · replace Wq := Wq.1 c_91
      exact xe_vret dX11_tries_114 rfl ⟨_, rfl, rfl, Wq⟩
    · replace Wq := Wq.2 c_91
      refine xe_aload_n dX11_tries_94 rfl q_rvO ?_
      refine xe_getr dX11_tries_95 fX11_105 (fun _ _ => rfl) (q_sg hS rfl) ?_
      refine xe_iload dX11_tries_98 rfl ?_
      refine xe_aload_n dX11_tries_100 rfl q_rvO ?_
      refine xe_getr dX11_tries_101 fX11_102 (fun _ _ => rfl) (q_sg hS rfl) ?_
      refine xe_iload dX11_tries_104 rfl ?_
      obtain ⟨hj_106, Wq⟩ := Wq
      refine xe_iald dX11_tries_106 rfl hj_106 ?_
      obtain ⟨hj_107, Wq⟩ := Wq
      refine xf_iast dX11_tries_107 rfl hj_107 ?_
      refine xe_iinc (_ + 1) dX11_tries_108 (by decide) rfl rfl ?_
      refine xe_goto 85 dX11_tries_111 (by decide) ?_
      refine q_wk (ls := [some (q_O 11 0), none, none, none, none, none, none, none, some (q_I (x8 + 1))]) ⟨rfl, ⟨rfl, trivial⟩⟩ ?_
      exact ih _ _ Wq
set_option maxHeartbeats 4000000 in
theorem ct_X11_tries {g : q_G} {s : q_S} {t p : Nat} (hS : q_Sh t p s) : ∀ (n : Nat) (x1 : Int32) (x2 : Int32) (x3 : Int32) (x4 : Int32) (x5 : Int32) (a : qa) (post : qa → Prop), wp_X11_tries t p n x1 x2 x3 x4 x5 a post → q_Ct g mX11_tries (q_Rm (n + 1) 0 0) [q_O 11 0, q_I x1, q_I x2, q_I x3, q_I x4, q_I x5] (a, s) (q_kV s post) := by
  intro n
  induction n with
  | zero =>
    intro x1 x2 x3 x4 x5 a post Wq
    exact absurd Wq id
  | succ n ih =>
    intro x1 x2 x3 x4 x5 a post Wq
    refine q_mk rfl rfl (Nat.le_of_ble_eq_true rfl) (q_cs rfl (q_cs rfl (q_cs rfl (q_cs rfl (q_cs rfl (q_cs rfl q_nil)))))) (fun hv => ?_)
    unfold wp_X11_tries at Wq
    refine xe_iload_n dX11_tries_0 rfl ?_
    refine xe_iload_n dX11_tries_1 rfl ?_
    refine xe_iadd dX11_tries_2 ?_
    refine xe_iload dX11_tries_3 rfl ?_
    refine xe_ic_le 9 dX11_tries_5 (by decide) (fun c_5 => ?_) (fun c_5 => ?_)
    · replace Wq := Wq.1 c_5
      refine xe_iload_n dX11_tries_9 rfl ?_
      refine xe_aload_n dX11_tries_10 rfl q_rvO ?_
      refine xe_geti dX11_tries_11 fX11_213 (fun _ _ => rfl) ?_
      refine xe_ic_ne 115 dX11_tries_14 (by decide) (fun c_14 => ?_) (fun c_14 => ?_)
      · replace Wq := Wq.1 c_14
        refine xe_aload_n dX11_tries_115 rfl q_rvO ?_
        refine xe_getr dX11_tries_116 fX11_63 (fun _ _ => rfl) (q_sg hS rfl) ?_
        refine xe_aload_n dX11_tries_119 rfl q_rvO ?_
        refine xe_getr dX11_tries_120 fX11_99 (fun _ _ => rfl) (q_sg hS rfl) ?_
        refine xe_iload_n dX11_tries_123 rfl ?_
        obtain ⟨hj_124, Wq⟩ := Wq
        refine xe_iald dX11_tries_124 rfl hj_124 ?_
        obtain ⟨hj_125, Wq⟩ := Wq
        refine xe_iald dX11_tries_125 rfl hj_125 ?_
        refine xe_istore dX11_tries_126 (by decide) ?_
        refine xe_aload_n dX11_tries_128 rfl q_rvO ?_
        refine xe_getr dX11_tries_129 fX11_102 (fun _ _ => rfl) (q_sg hS rfl) ?_
        refine xe_iload_n dX11_tries_132 rfl ?_
        refine xe_iconst 0 dX11_tries_133 (by decide) ?_
        obtain ⟨hj_134, Wq⟩ := Wq
        refine xf_iast dX11_tries_134 rfl hj_134 ?_
        refine xe_aload_n dX11_tries_135 rfl q_rvO ?_
        refine xe_iload_n dX11_tries_136 rfl ?_
        refine xe_iconst 1 dX11_tries_137 (by decide) ?_
        refine xe_iadd dX11_tries_138 ?_
        refine xe_iload_n dX11_tries_139 rfl ?_
        refine xe_iload dX11_tries_140 rfl ?_
        refine xe_iadd dX11_tries_142 ?_
        refine xe_iload_n dX11_tries_143 rfl ?_
        refine xe_iload dX11_tries_144 rfl ?_
        refine xe_iconst 1 dX11_tries_146 (by decide) ?_
        refine xe_iadd dX11_tries_147 ?_
        refine xe_iload dX11_tries_148 rfl ?_
        refine xe_cv (y' := mX11_tries) dX11_tries_150 (Or.inl lX11_222) tX11_tries rfl rfl (ih _ _ _ _ _ _ _ Wq) rfl rfl (Nat.le_of_ble_eq_true rfl) (q_rm1 9 (Nat.le_of_ble_eq_true rfl)) ⟨Nat.le_of_ble_eq_true rfl, Nat.le_of_ble_eq_true rfl⟩ (fun v1 h1 hl1 hk1 hm1 => ?_)
        obtain ⟨a150, rfl, rfl, Wq⟩ := hk1
        refine xe_aload_n dX11_tries_153 rfl q_rvO ?_
        refine xe_getr dX11_tries_154 fX11_102 (fun _ _ => rfl) (q_sg hS rfl) ?_
        refine xe_iload_n dX11_tries_157 rfl ?_
        refine xe_iconst 1 dX11_tries_158 (by decide) ?_
        obtain ⟨hj_159, Wq⟩ := Wq
        refine xf_iast dX11_tries_159 rfl hj_159 ?_
        refine xe_aload_n dX11_tries_160 rfl q_rvO ?_
        refine xe_iload_n dX11_tries_161 rfl ?_
        refine xe_iconst 1 dX11_tries_162 (by decide) ?_
        refine xe_iadd dX11_tries_163 ?_
        refine xe_iload_n dX11_tries_164 rfl ?_
        refine xe_iload_n dX11_tries_165 rfl ?_
        refine xe_iload dX11_tries_166 rfl ?_
        refine xe_iadd dX11_tries_168 ?_
        refine xe_iload dX11_tries_169 rfl ?_
        refine xe_iconst 1 dX11_tries_171 (by decide) ?_
        refine xe_iadd dX11_tries_172 ?_
        refine xe_iload dX11_tries_173 rfl ?_
        refine xe_cv (y' := mX11_tries) dX11_tries_175 (Or.inl lX11_222) tX11_tries rfl rfl (ih _ _ _ _ _ _ _ Wq) rfl rfl (Nat.le_of_ble_eq_true rfl) (q_rm1 9 (Nat.le_of_ble_eq_true rfl)) ⟨Nat.le_of_ble_eq_true rfl, Nat.le_of_ble_eq_true rfl⟩ (fun v1 h1 hl1 hk1 hm1 => ?_)
        obtain ⟨a175, rfl, rfl, Wq⟩ := hk1
        refine xe_aload_n dX11_tries_178 rfl q_rvO ?_
        refine xe_getr dX11_tries_179 fX11_102 (fun _ _ => rfl) (q_sg hS rfl) ?_
        refine xe_iload_n dX11_tries_182 rfl ?_
        refine xe_iconst 2 dX11_tries_183 (by decide) ?_
        obtain ⟨hj_184, Wq⟩ := Wq
        refine xf_iast dX11_tries_184 rfl hj_184 ?_
        refine xe_aload_n dX11_tries_185 rfl q_rvO ?_
        refine xe_iload_n dX11_tries_186 rfl ?_
        refine xe_iconst 1 dX11_tries_187 (by decide) ?_
        refine xe_iadd dX11_tries_188 ?_
        refine xe_iload_n dX11_tries_189 rfl ?_
        refine xe_iload_n dX11_tries_190 rfl ?_
        refine xe_iload dX11_tries_191 rfl ?_
        refine xe_iload dX11_tries_193 rfl ?_
        refine xe_cv (y' := mX11_tries) dX11_tries_195 (Or.inl lX11_222) tX11_tries rfl rfl (ih _ _ _ _ _ _ _ Wq) rfl rfl (Nat.le_of_ble_eq_true rfl) (q_rm1 9 (Nat.le_of_ble_eq_true rfl)) ⟨Nat.le_of_ble_eq_true rfl, Nat.le_of_ble_eq_true rfl⟩ (fun v1 h1 hl1 hk1 hm1 => ?_)
        obtain ⟨a195, rfl, rfl, Wq⟩ := hk1
        exact xe_vret dX11_tries_198 rfl ⟨_, rfl, rfl, Wq⟩
      · replace Wq := Wq.2 c_14
        refine xe_iload_n dX11_tries_17 rfl ?_
        refine xe_iload_n dX11_tries_18 rfl ?_
        refine xe_isub dX11_tries_19 ?_
        refine xe_istore dX11_tries_20 (by decide) ?_
        refine xe_iload dX11_tries_22 rfl ?_
        refine xe_bipush (-10) dX11_tries_24 (by decide) ?_
        refine xe_ic_lt 36 dX11_tries_26 (by decide) (fun c_26 => ?_) (fun c_26 => ?_)
        · replace Wq := Wq.1 c_26
          exact xe_vret dX11_tries_36 rfl ⟨_, rfl, rfl, Wq⟩
        · replace Wq := Wq.2 c_26
          refine xe_iload dX11_tries_29 rfl ?_
          refine xe_bipush 10 dX11_tries_31 (by decide) ?_
          refine xe_ic_le 37 dX11_tries_33 (by decide) (fun c_33 => ?_) (fun c_33 => ?_)
          · replace Wq := Wq.1 c_33
            refine xe_iload_n dX11_tries_37 rfl ?_
            refine xe_iload_n dX11_tries_38 rfl ?_
            refine xe_iadd dX11_tries_39 ?_
            refine xe_istore dX11_tries_40 (by decide) ?_
            refine xe_iload dX11_tries_42 rfl ?_
            refine xe_aload_n dX11_tries_44 rfl q_rvO ?_
            refine xe_geti dX11_tries_45 fX11_216 (fun _ _ => rfl) ?_
            refine xe_ic_lt 69 dX11_tries_48 (by decide) (fun c_48 => ?_) (fun c_48 => ?_)
            · replace Wq := Wq.1 c_48
              exact xe_vret dX11_tries_69 rfl ⟨_, rfl, rfl, Wq⟩
            · replace Wq := Wq.2 c_48
              refine xe_iload dX11_tries_51 rfl ?_
              refine xe_aload_n dX11_tries_53 rfl q_rvO ?_
              refine xe_geti dX11_tries_54 fX11_216 (fun _ _ => rfl) ?_
              refine xe_ic_ne 70 dX11_tries_57 (by decide) (fun c_57 => ?_) (fun c_57 => ?_)
              · replace Wq := Wq.1 c_57
                refine xe_aload_n dX11_tries_70 rfl q_rvO ?_
                refine xe_iload dX11_tries_71 rfl ?_
                refine xf_puti dX11_tries_73 fX11_216 (fun q hq => Or.inl (by cases hq; rfl)) ⟨rfl, rfl⟩ (fun _ _ => rfl) ?_
                refine xe_aload_n dX11_tries_76 rfl q_rvO ?_
                refine xe_iload dX11_tries_77 rfl ?_
                refine xf_puti dX11_tries_79 fX11_219 (fun q hq => Or.inl (by cases hq; rfl)) ⟨rfl, rfl⟩ (fun _ _ => rfl) ?_
                refine xe_iconst 0 dX11_tries_82 (by decide) ?_
                refine xe_istore dX11_tries_83 (by decide) ?_
                obtain ⟨n_85, Wq⟩ := Wq
                refine q_wk (ls := [some (q_O 11 0), none, none, none, none, none, none, none, some (q_I 0)]) ⟨rfl, ⟨rfl, trivial⟩⟩ ?_
                exact el_X11_tries_85 hS n_85 _ _ Wq
              · replace Wq := Wq.2 c_57
                refine xe_iload dX11_tries_60 rfl ?_
                refine xe_aload_n dX11_tries_62 rfl q_rvO ?_
                refine xe_geti dX11_tries_63 fX11_219 (fun _ _ => rfl) ?_
                refine xe_ic_lt 70 dX11_tries_66 (by decide) (fun c_66 => ?_) (fun c_66 => ?_)
                · replace Wq := Wq.1 c_66
                  refine xe_aload_n dX11_tries_70 rfl q_rvO ?_
                  refine xe_iload dX11_tries_71 rfl ?_
                  refine xf_puti dX11_tries_73 fX11_216 (fun q hq => Or.inl (by cases hq; rfl)) ⟨rfl, rfl⟩ (fun _ _ => rfl) ?_
                  refine xe_aload_n dX11_tries_76 rfl q_rvO ?_
                  refine xe_iload dX11_tries_77 rfl ?_
                  refine xf_puti dX11_tries_79 fX11_219 (fun q hq => Or.inl (by cases hq; rfl)) ⟨rfl, rfl⟩ (fun _ _ => rfl) ?_
                  refine xe_iconst 0 dX11_tries_82 (by decide) ?_
                  refine xe_istore dX11_tries_83 (by decide) ?_
                  obtain ⟨n_85, Wq⟩ := Wq
                  refine q_wk (ls := [some (q_O 11 0), none, none, none, none, none, none, none, some (q_I 0)]) ⟨rfl, ⟨rfl, trivial⟩⟩ ?_
                  exact el_X11_tries_85 hS n_85 _ _ Wq
                · replace Wq := Wq.2 c_66
                  exact xe_vret dX11_tries_69 rfl ⟨_, rfl, rfl, Wq⟩
          · replace Wq := Wq.2 c_33
            exact xe_vret dX11_tries_36 rfl ⟨_, rfl, rfl, Wq⟩
    · replace Wq := Wq.2 c_5
      exact xe_vret dX11_tries_8 rfl ⟨_, rfl, rfl, Wq⟩
def wl_X11_finds_116 (t p : Nat) (post : Int32 → qa → Prop) : Int32 → Int32 → qa → Prop := fun x1 x2 a => vp_in ((3 * x1) + x2) 12 ∧ ∃ n_141, n_141 ≤ 14 ∧ wp_X11_tries t p n_141 0 0 0 0 (a 51 0 (((3 * x1) + x2).toNatClampNeg)) (qs (qs a 11 0 39 (-1)) 11 0 40 0) (fun a141 => post 1 a141)
def wl_X11_finds_36 (t p : Nat) (post : Int32 → qa → Prop) : Nat → Int32 → Int32 → Int32 → qa → Prop
  | 0 => fun _ _ _ _ => False
  | n + 1 => fun x1 x2 x3 a => (((a 11 0 20) ≤ x3 → wl_X11_finds_116 t p post x1 x2 a) ∧ (¬ (a 11 0 20) ≤ x3 → ((10 ≤ (a 11 0 36) → wl_X11_finds_116 t p post x1 x2 a) ∧ (¬ 10 ≤ (a 11 0 36) → vp_in x3 100 ∧ ((¬ (a 58 0 x3.toNatClampNeg) = 0 → (wl_X11_finds_36 t p post n) x1 x2 (x3 + 1) a) ∧ ((a 58 0 x3.toNatClampNeg) = 0 → vp_in x3 100 ∧ vp_in x1 4 ∧ ((¬ (a 59 0 x3.toNatClampNeg) = (a 47 0 x1.toNatClampNeg) → (wl_X11_finds_36 t p post n) x1 x2 (x3 + 1) a) ∧ ((a 59 0 x3.toNatClampNeg) = (a 47 0 x1.toNatClampNeg) → vp_in x3 100 ∧ ((¬ (a 55 0 x3.toNatClampNeg) = 3 → vp_in (a 11 0 36) 10 ∧ ((wl_X11_finds_36 t p post n) x1 x2 (x3 + 1) (qs (qs a 68 0 ((a 11 0 36).toNatClampNeg) x3) 11 0 36 ((a 11 0 36) + 1)))) ∧ ((a 55 0 x3.toNatClampNeg) = 3 → (wl_X11_finds_36 t p post n) x1 x2 (x3 + 1) a))))))))))
def wp_X11_finds (t p : Nat) (x1 : Int32) (x2 : Int32) (a : qa) (post : Int32 → qa → Prop) : Prop := wp_X11_isString t p x1 a (fun r2 a2 => ((r2 = 0 → post 0 a2) ∧ (¬ r2 = 0 → wp_X11_within t p x2 0 2 a2 (fun r11 a11 => ((r11 = 0 → post 0 a11) ∧ (¬ r11 = 0 → vp_in x1 4 ∧ ((¬ (a11 47 0 x1.toNatClampNeg) = (-1) → ∃ n_36, wl_X11_finds_36 t p post n_36 x1 x2 0 (qs a11 11 0 36 0)) ∧ ((a11 47 0 x1.toNatClampNeg) = (-1) → post 0 a11))))))))
set_option maxHeartbeats 4000000 in
theorem el_X11_finds_116 {g : q_G} {s : q_S} {t p : Nat} (hS : q_Sh t p s) {post : Int32 → qa → Prop} : ∀ (x1 : Int32) (x2 : Int32) (a : qa), wl_X11_finds_116 t p post x1 x2 a → q_E g mX11_finds (q_Rm 20 0 0) (q_kI s post) (0, 0) 116 [some (q_O 11 0), some (q_I x1), some (q_I x2), none] [] (a, s) := by
  intro x1 x2 a Wq
  unfold wl_X11_finds_116 at Wq
  refine xe_aload_n dX11_finds_116 rfl q_rvO ?_
  refine xe_iconst (-1) dX11_finds_117 (by decide) ?_
  refine xf_puti dX11_finds_118 fX11_216 (fun q hq => Or.inl (by cases hq; rfl)) ⟨rfl, rfl⟩ (fun _ _ => rfl) ?_
  refine xe_aload_n dX11_finds_121 rfl q_rvO ?_
  refine xe_iconst 0 dX11_finds_122 (by decide) ?_
  refine xf_puti dX11_finds_123 fX11_219 (fun q hq => Or.inl (by cases hq; rfl)) ⟨rfl, rfl⟩ (fun _ _ => rfl) ?_
  refine xe_aload_n dX11_finds_126 rfl q_rvO ?_
  refine xe_iconst 0 dX11_finds_127 (by decide) ?_
  refine xe_iconst 0 dX11_finds_128 (by decide) ?_
  refine xe_iconst 0 dX11_finds_129 (by decide) ?_
  refine xe_iconst 0 dX11_finds_130 (by decide) ?_
  refine xe_aload_n dX11_finds_131 rfl q_rvO ?_
  refine xe_getr dX11_finds_132 fX11_48 (fun _ _ => rfl) (q_sg hS rfl) ?_
  refine xe_iconst 3 dX11_finds_135 (by decide) ?_
  refine xe_iload_n dX11_finds_136 rfl ?_
  refine xe_imul dX11_finds_137 ?_
  refine xe_iload_n dX11_finds_138 rfl ?_
  refine xe_iadd dX11_finds_139 ?_
  obtain ⟨hj_140, Wq⟩ := Wq
  refine xe_iald dX11_finds_140 rfl hj_140 ?_
  obtain ⟨n_141, hn_141, Wq⟩ := Wq
  refine xe_cv (y' := mX11_tries) dX11_finds_141 (Or.inl lX11_222) tX11_tries rfl rfl (ct_X11_tries hS n_141 _ _ _ _ _ _ _ Wq) rfl rfl (Nat.le_of_ble_eq_true rfl) (q_rm3 9 ⟨Nat.le_of_ble_eq_true rfl, Nat.le_of_ble_eq_true rfl⟩ hn_141) ⟨Nat.le_of_ble_eq_true rfl, Nat.le_of_ble_eq_true rfl⟩ (fun v1 h1 hl1 hk1 hm1 => ?_)
  obtain ⟨a141, rfl, rfl, Wq⟩ := hk1
  refine xe_iconst 1 dX11_finds_144 (by decide) ?_
  exact xe_iret .boolean dX11_finds_145 rfl (by decide) ⟨_, _, rfl, rfl, Wq⟩
set_option maxHeartbeats 4000000 in
theorem el_X11_finds_36 {g : q_G} {s : q_S} {t p : Nat} (hS : q_Sh t p s) {post : Int32 → qa → Prop} : ∀ (n : Nat) (x1 : Int32) (x2 : Int32) (x3 : Int32) (a : qa), wl_X11_finds_36 t p post n x1 x2 x3 a → q_E g mX11_finds (q_Rm 20 0 0) (q_kI s post) (0, 0) 36 [some (q_O 11 0), some (q_I x1), some (q_I x2), some (q_I x3)] [] (a, s) := by
  intro n
  induction n with
  | zero =>
    intro x1 x2 x3 a Wq
    exact absurd Wq id
  | succ n ih =>
    intro x1 x2 x3 a Wq
    unfold wl_X11_finds_36 at Wq
    refine xe_iload_n dX11_finds_36 rfl ?_
    refine xe_aload_n dX11_finds_37 rfl q_rvO ?_
    refine xe_geti dX11_finds_38 fX11_165 (fun _ _ => rfl) ?_
    refine xe_ic_ge 116 dX11_finds_41 (by decide) (fun c_41 => ?_) (fun c_41 => ?_)
    · replace Wq := Wq.1 c_41
      refine q_wk (ls := [some (q_O 11 0), some (q_I x1), some (q_I x2), none]) ⟨rfl, ⟨rfl, ⟨rfl, trivial⟩⟩⟩ ?_
      exact el_X11_finds_116 hS _ _ _ Wq
    · replace Wq := Wq.2 c_41
      refine xe_aload_n dX11_finds_44 rfl q_rvO ?_
      refine xe_geti dX11_finds_45 fX11_213 (fun _ _ => rfl) ?_
      refine xe_bipush 10 dX11_finds_48 (by decide) ?_
      refine xe_ic_ge 116 dX11_finds_50 (by decide) (fun c_50 => ?_) (fun c_50 => ?_)
      · replace Wq := Wq.1 c_50
        refine q_wk (ls := [some (q_O 11 0), some (q_I x1), some (q_I x2), none]) ⟨rfl, ⟨rfl, ⟨rfl, trivial⟩⟩⟩ ?_
        exact el_X11_finds_116 hS _ _ _ Wq
      · replace Wq := Wq.2 c_50
        refine xe_aload_n dX11_finds_53 rfl q_rvO ?_
        refine xe_getr dX11_finds_54 fX11_69 (fun _ _ => rfl) (q_sg hS rfl) ?_
        refine xe_iload_n dX11_finds_57 rfl ?_
        obtain ⟨hj_58, Wq⟩ := Wq
        refine xe_iald dX11_finds_58 rfl hj_58 ?_
        refine xe_if_ne 110 dX11_finds_59 (by decide) (fun c_59 => ?_) (fun c_59 => ?_)
        · replace Wq := Wq.1 c_59
          refine xe_iinc (_ + 1) dX11_finds_110 (by decide) rfl rfl ?_
          refine xe_goto 36 dX11_finds_113 (by decide) ?_
          refine q_wk (ls := [some (q_O 11 0), some (q_I x1), some (q_I x2), some (q_I (x3 + 1))]) ⟨rfl, ⟨rfl, ⟨rfl, ⟨rfl, trivial⟩⟩⟩⟩ ?_
          exact ih _ _ _ _ Wq
        · replace Wq := Wq.2 c_59
          refine xe_aload_n dX11_finds_62 rfl q_rvO ?_
          refine xe_getr dX11_finds_63 fX11_72 (fun _ _ => rfl) (q_sg hS rfl) ?_
          refine xe_iload_n dX11_finds_66 rfl ?_
          obtain ⟨hj_67, Wq⟩ := Wq
          refine xe_iald dX11_finds_67 rfl hj_67 ?_
          refine xe_aload_n dX11_finds_68 rfl q_rvO ?_
          refine xe_getr dX11_finds_69 fX11_36 (fun _ _ => rfl) (q_sg hS rfl) ?_
          refine xe_iload_n dX11_finds_72 rfl ?_
          obtain ⟨hj_73, Wq⟩ := Wq
          refine xe_iald dX11_finds_73 rfl hj_73 ?_
          refine xe_ic_ne 110 dX11_finds_74 (by decide) (fun c_74 => ?_) (fun c_74 => ?_)
          · replace Wq := Wq.1 c_74
            refine xe_iinc (_ + 1) dX11_finds_110 (by decide) rfl rfl ?_
            refine xe_goto 36 dX11_finds_113 (by decide) ?_
            refine q_wk (ls := [some (q_O 11 0), some (q_I x1), some (q_I x2), some (q_I (x3 + 1))]) ⟨rfl, ⟨rfl, ⟨rfl, ⟨rfl, trivial⟩⟩⟩⟩ ?_
            exact ih _ _ _ _ Wq
          · replace Wq := Wq.2 c_74
            refine xe_aload_n dX11_finds_77 rfl q_rvO ?_
            refine xe_getr dX11_finds_78 fX11_60 (fun _ _ => rfl) (q_sg hS rfl) ?_
            refine xe_iload_n dX11_finds_81 rfl ?_
            obtain ⟨hj_82, Wq⟩ := Wq
            refine xe_iald dX11_finds_82 rfl hj_82 ?_
            refine xe_iconst 3 dX11_finds_83 (by decide) ?_
            refine xe_ic_ne 90 dX11_finds_84 (by decide) (fun c_84 => ?_) (fun c_84 => ?_)
            · replace Wq := Wq.1 c_84
              refine xe_aload_n dX11_finds_90 rfl q_rvO ?_
              refine xe_getr dX11_finds_91 fX11_99 (fun _ _ => rfl) (q_sg hS rfl) ?_
              refine xe_aload_n dX11_finds_94 rfl q_rvO ?_
              refine xe_geti dX11_finds_95 fX11_213 (fun _ _ => rfl) ?_
              refine xe_iload_n dX11_finds_98 rfl ?_
              obtain ⟨hj_99, Wq⟩ := Wq
              refine xf_iast dX11_finds_99 rfl hj_99 ?_
              refine xe_aload_n dX11_finds_100 rfl q_rvO ?_
              refine xe_dup dX11_finds_101 rfl ?_
              refine xe_geti dX11_finds_102 fX11_213 (fun _ _ => rfl) ?_
              refine xe_iconst 1 dX11_finds_105 (by decide) ?_
              refine xe_iadd dX11_finds_106 ?_
              refine xf_puti dX11_finds_107 fX11_213 (fun q hq => Or.inl (by cases hq; rfl)) ⟨rfl, rfl⟩ (fun _ _ => rfl) ?_
              refine xe_iinc (_ + 1) dX11_finds_110 (by decide) rfl rfl ?_
              refine xe_goto 36 dX11_finds_113 (by decide) ?_
              refine q_wk (ls := [some (q_O 11 0), some (q_I x1), some (q_I x2), some (q_I (x3 + 1))]) ⟨rfl, ⟨rfl, ⟨rfl, ⟨rfl, trivial⟩⟩⟩⟩ ?_
              exact ih _ _ _ _ Wq
            · replace Wq := Wq.2 c_84
              refine xe_goto 110 dX11_finds_87 (by decide) ?_
              refine xe_iinc (_ + 1) dX11_finds_110 (by decide) rfl rfl ?_
              refine xe_goto 36 dX11_finds_113 (by decide) ?_
              refine q_wk (ls := [some (q_O 11 0), some (q_I x1), some (q_I x2), some (q_I (x3 + 1))]) ⟨rfl, ⟨rfl, ⟨rfl, ⟨rfl, trivial⟩⟩⟩⟩ ?_
              exact ih _ _ _ _ Wq
set_option maxHeartbeats 4000000 in
theorem ct_X11_finds {g : q_G} {s : q_S} {t p : Nat} (hS : q_Sh t p s) {x1 : Int32} {x2 : Int32} {a : qa} {post : Int32 → qa → Prop} (Wq : wp_X11_finds t p x1 x2 a post) : q_Ct g mX11_finds (q_Rm 20 0 0) [q_O 11 0, q_I x1, q_I x2] (a, s) (q_kI s post) := by
  refine q_mk rfl rfl (Nat.le_of_ble_eq_true rfl) (q_cs rfl (q_cs rfl (q_cs rfl q_nil))) (fun hv => ?_)
  unfold wp_X11_finds at Wq
  refine xe_aload_n dX11_finds_0 rfl q_rvO ?_
  refine xe_iload_n dX11_finds_1 rfl ?_
  refine xe_cv (y' := mX11_isString) dX11_finds_2 (Or.inl lX11_172) tX11_isString rfl rfl (ct_X11_isString hS Wq) rfl rfl (Nat.le_of_ble_eq_true rfl) ⟨Nat.le_of_ble_eq_true rfl, Nat.le_of_ble_eq_true rfl⟩ ⟨Nat.le_of_ble_eq_true rfl, Nat.le_of_ble_eq_true rfl⟩ (fun v1 h1 hl1 hk1 hm1 => ?_)
  obtain ⟨r2, a2, rfl, rfl, Wq⟩ := hk1
  refine xe_if_eq 27 dX11_finds_5 (by decide) (fun c_5 => ?_) (fun c_5 => ?_)
  · replace Wq := Wq.1 c_5
    refine xe_iconst 0 dX11_finds_27 (by decide) ?_
    exact xe_iret .boolean dX11_finds_28 rfl (by decide) ⟨_, _, rfl, rfl, Wq⟩
  · replace Wq := Wq.2 c_5
    refine xe_iload_n dX11_finds_8 rfl ?_
    refine xe_iconst 0 dX11_finds_9 (by decide) ?_
    refine xe_iconst 2 dX11_finds_10 (by decide) ?_
    refine xe_cs (y' := mX11_within) dX11_finds_11 (Or.inl lX11_139) tX11_within (ct_X11_within hS Wq) rfl rfl (Nat.le_of_ble_eq_true rfl) ⟨Nat.le_of_ble_eq_true rfl, Nat.le_of_ble_eq_true rfl⟩ ⟨Nat.le_of_ble_eq_true rfl, Nat.le_of_ble_eq_true rfl⟩ (fun v1 h1 hl1 hk1 hm1 => ?_)
    obtain ⟨r11, a11, rfl, rfl, Wq⟩ := hk1
    refine xe_if_eq 27 dX11_finds_14 (by decide) (fun c_14 => ?_) (fun c_14 => ?_)
    · replace Wq := Wq.1 c_14
      refine xe_iconst 0 dX11_finds_27 (by decide) ?_
      exact xe_iret .boolean dX11_finds_28 rfl (by decide) ⟨_, _, rfl, rfl, Wq⟩
    · replace Wq := Wq.2 c_14
      refine xe_aload_n dX11_finds_17 rfl q_rvO ?_
      refine xe_getr dX11_finds_18 fX11_36 (fun _ _ => rfl) (q_sg hS rfl) ?_
      refine xe_iload_n dX11_finds_21 rfl ?_
      obtain ⟨hj_22, Wq⟩ := Wq
      refine xe_iald dX11_finds_22 rfl hj_22 ?_
      refine xe_iconst (-1) dX11_finds_23 (by decide) ?_
      refine xe_ic_ne 29 dX11_finds_24 (by decide) (fun c_24 => ?_) (fun c_24 => ?_)
      · replace Wq := Wq.1 c_24
        refine xe_aload_n dX11_finds_29 rfl q_rvO ?_
        refine xe_iconst 0 dX11_finds_30 (by decide) ?_
        refine xf_puti dX11_finds_31 fX11_213 (fun q hq => Or.inl (by cases hq; rfl)) ⟨rfl, rfl⟩ (fun _ _ => rfl) ?_
        refine xe_iconst 0 dX11_finds_34 (by decide) ?_
        refine xe_istore_n dX11_finds_35 (by decide) ?_
        obtain ⟨n_36, Wq⟩ := Wq
        refine q_wk (ls := [some (q_O 11 0), some (q_I x1), some (q_I x2), some (q_I 0)]) ⟨rfl, ⟨rfl, ⟨rfl, ⟨rfl, trivial⟩⟩⟩⟩ ?_
        exact el_X11_finds_36 hS n_36 _ _ _ _ Wq
      · replace Wq := Wq.2 c_24
        refine xe_iconst 0 dX11_finds_27 (by decide) ?_
        exact xe_iret .boolean dX11_finds_28 rfl (by decide) ⟨_, _, rfl, rfl, Wq⟩
def wp_X11_best (t p : Nat) (x1 : Int32) (x2 : Int32) (a : qa) (post : Int32 → qa → Prop) : Prop := wp_X11_finds t p x1 x2 (qs a 11 0 0 0) (fun r8 a8 => ((r8 = 0 → post (-1) a8) ∧ (¬ r8 = 0 → post (a8 11 0 39) a8)))
set_option maxHeartbeats 4000000 in
theorem ct_X11_best {g : q_G} {s : q_S} {t p : Nat} (hS : q_Sh t p s) {x1 : Int32} {x2 : Int32} {a : qa} {post : Int32 → qa → Prop} (Wq : wp_X11_best t p x1 x2 a post) : q_Ct g mX11_best (q_Rm 21 0 0) [q_O 11 0, q_I x1, q_I x2] (a, s) (q_kI s post) := by
  refine q_mk rfl rfl (Nat.le_of_ble_eq_true rfl) (q_cs rfl (q_cs rfl (q_cs rfl q_nil))) (fun hv => ?_)
  unfold wp_X11_best at Wq
  refine xe_aload_n dX11_best_0 rfl q_rvO ?_
  refine xe_iconst 0 dX11_best_1 (by decide) ?_
  refine xf_puti dX11_best_2 fX11_1 (fun q hq => Or.inl (by cases hq; rfl)) ⟨rfl, rfl⟩ (fun _ _ => rfl) ?_
  refine xe_aload_n dX11_best_5 rfl q_rvO ?_
  refine xe_iload_n dX11_best_6 rfl ?_
  refine xe_iload_n dX11_best_7 rfl ?_
  refine xe_cv (y' := mX11_finds) dX11_best_8 (Or.inl lX11_226) tX11_finds rfl rfl (ct_X11_finds hS Wq) rfl rfl (Nat.le_of_ble_eq_true rfl) ⟨Nat.le_of_ble_eq_true rfl, Nat.le_of_ble_eq_true rfl⟩ ⟨Nat.le_of_ble_eq_true rfl, Nat.le_of_ble_eq_true rfl⟩ (fun v1 h1 hl1 hk1 hm1 => ?_)
  obtain ⟨r8, a8, rfl, rfl, Wq⟩ := hk1
  refine xe_if_eq 21 dX11_best_11 (by decide) (fun c_11 => ?_) (fun c_11 => ?_)
  · replace Wq := Wq.1 c_11
    refine xe_iconst (-1) dX11_best_21 (by decide) ?_
    exact xe_iret .int dX11_best_22 rfl rfl ⟨_, _, rfl, rfl, Wq⟩
  · replace Wq := Wq.2 c_11
    refine xe_aload_n dX11_best_14 rfl q_rvO ?_
    refine xe_geti dX11_best_15 fX11_216 (fun _ _ => rfl) ?_
    refine xe_goto 22 dX11_best_18 (by decide) ?_
    exact xe_iret .int dX11_best_22 rfl rfl ⟨_, _, rfl, rfl, Wq⟩
def wl_X11_bestOf_19 (t p : Nat) (post : Int32 → qa → Prop) : Nat → Int32 → Int32 → qa → Prop
  | 0 => fun _ _ _ => False
  | n + 1 => fun x3 x4 a => (((a 11 0 36) ≤ x4 → post (-1) a) ∧ (¬ (a 11 0 36) ≤ x4 → vp_in x4 10 ∧ ((¬ (a 68 0 x4.toNatClampNeg) = x3 → (wl_X11_bestOf_19 t p post n) x3 (x4 + 1) a) ∧ ((a 68 0 x4.toNatClampNeg) = x3 → vp_in x4 10 ∧ post (a 70 0 x4.toNatClampNeg) a))))
def wp_X11_bestOf (t p : Nat) (x1 : Int32) (x2 : Int32) (x3 : Int32) (a : qa) (post : Int32 → qa → Prop) : Prop := wp_X11_finds t p x1 x2 (qs a 11 0 0 0) (fun r8 a8 => ((¬ r8 = 0 → ∃ n_19, wl_X11_bestOf_19 t p post n_19 x3 0 a8) ∧ (r8 = 0 → post (-1) a8)))
set_option maxHeartbeats 4000000 in
theorem el_X11_bestOf_19 {g : q_G} {s : q_S} {t p : Nat} (hS : q_Sh t p s) {post : Int32 → qa → Prop} : ∀ (n : Nat) (x3 : Int32) (x4 : Int32) (a : qa), wl_X11_bestOf_19 t p post n x3 x4 a → q_E g mX11_bestOf (q_Rm 21 0 0) (q_kI s post) (0, 0) 19 [some (q_O 11 0), none, none, some (q_I x3), some (q_I x4)] [] (a, s) := by
  intro n
  induction n with
  | zero =>
    intro x3 x4 a Wq
    exact absurd Wq id
  | succ n ih =>
    intro x3 x4 a Wq
    unfold wl_X11_bestOf_19 at Wq
    refine xe_iload dX11_bestOf_19 rfl ?_
    refine xe_aload_n dX11_bestOf_21 rfl q_rvO ?_
    refine xe_geti dX11_bestOf_22 fX11_213 (fun _ _ => rfl) ?_
    refine xe_ic_ge 53 dX11_bestOf_25 (by decide) (fun c_25 => ?_) (fun c_25 => ?_)
    · replace Wq := Wq.1 c_25
      refine xe_iconst (-1) dX11_bestOf_53 (by decide) ?_
      exact xe_iret .int dX11_bestOf_54 rfl rfl ⟨_, _, rfl, rfl, Wq⟩
    · replace Wq := Wq.2 c_25
      refine xe_aload_n dX11_bestOf_28 rfl q_rvO ?_
      refine xe_getr dX11_bestOf_29 fX11_99 (fun _ _ => rfl) (q_sg hS rfl) ?_
      refine xe_iload dX11_bestOf_32 rfl ?_
      obtain ⟨hj_34, Wq⟩ := Wq
      refine xe_iald dX11_bestOf_34 rfl hj_34 ?_
      refine xe_iload_n dX11_bestOf_35 rfl ?_
      refine xe_ic_ne 47 dX11_bestOf_36 (by decide) (fun c_36 => ?_) (fun c_36 => ?_)
      · replace Wq := Wq.1 c_36
        refine xe_iinc (_ + 1) dX11_bestOf_47 (by decide) rfl rfl ?_
        refine xe_goto 19 dX11_bestOf_50 (by decide) ?_
        refine q_wk (ls := [some (q_O 11 0), none, none, some (q_I x3), some (q_I (x4 + 1))]) ⟨rfl, ⟨rfl, ⟨rfl, trivial⟩⟩⟩ ?_
        exact ih _ _ _ Wq
      · replace Wq := Wq.2 c_36
        refine xe_aload_n dX11_bestOf_39 rfl q_rvO ?_
        refine xe_getr dX11_bestOf_40 fX11_105 (fun _ _ => rfl) (q_sg hS rfl) ?_
        refine xe_iload dX11_bestOf_43 rfl ?_
        obtain ⟨hj_45, Wq⟩ := Wq
        refine xe_iald dX11_bestOf_45 rfl hj_45 ?_
        exact xe_iret .int dX11_bestOf_46 rfl rfl ⟨_, _, rfl, rfl, Wq⟩
set_option maxHeartbeats 4000000 in
theorem ct_X11_bestOf {g : q_G} {s : q_S} {t p : Nat} (hS : q_Sh t p s) {x1 : Int32} {x2 : Int32} {x3 : Int32} {a : qa} {post : Int32 → qa → Prop} (Wq : wp_X11_bestOf t p x1 x2 x3 a post) : q_Ct g mX11_bestOf (q_Rm 21 0 0) [q_O 11 0, q_I x1, q_I x2, q_I x3] (a, s) (q_kI s post) := by
  refine q_mk rfl rfl (Nat.le_of_ble_eq_true rfl) (q_cs rfl (q_cs rfl (q_cs rfl (q_cs rfl q_nil)))) (fun hv => ?_)
  unfold wp_X11_bestOf at Wq
  refine xe_aload_n dX11_bestOf_0 rfl q_rvO ?_
  refine xe_iconst 0 dX11_bestOf_1 (by decide) ?_
  refine xf_puti dX11_bestOf_2 fX11_1 (fun q hq => Or.inl (by cases hq; rfl)) ⟨rfl, rfl⟩ (fun _ _ => rfl) ?_
  refine xe_aload_n dX11_bestOf_5 rfl q_rvO ?_
  refine xe_iload_n dX11_bestOf_6 rfl ?_
  refine xe_iload_n dX11_bestOf_7 rfl ?_
  refine xe_cv (y' := mX11_finds) dX11_bestOf_8 (Or.inl lX11_226) tX11_finds rfl rfl (ct_X11_finds hS Wq) rfl rfl (Nat.le_of_ble_eq_true rfl) ⟨Nat.le_of_ble_eq_true rfl, Nat.le_of_ble_eq_true rfl⟩ ⟨Nat.le_of_ble_eq_true rfl, Nat.le_of_ble_eq_true rfl⟩ (fun v1 h1 hl1 hk1 hm1 => ?_)
  obtain ⟨r8, a8, rfl, rfl, Wq⟩ := hk1
  refine xe_if_ne 16 dX11_bestOf_11 (by decide) (fun c_11 => ?_) (fun c_11 => ?_)
  · replace Wq := Wq.1 c_11
    refine xe_iconst 0 dX11_bestOf_16 (by decide) ?_
    refine xe_istore dX11_bestOf_17 (by decide) ?_
    obtain ⟨n_19, Wq⟩ := Wq
    refine q_wk (ls := [some (q_O 11 0), none, none, some (q_I x3), some (q_I 0)]) ⟨rfl, ⟨rfl, ⟨rfl, trivial⟩⟩⟩ ?_
    exact el_X11_bestOf_19 hS n_19 _ _ _ Wq
  · replace Wq := Wq.2 c_11
    refine xe_iconst (-1) dX11_bestOf_14 (by decide) ?_
    exact xe_iret .int dX11_bestOf_15 rfl rfl ⟨_, _, rfl, rfl, Wq⟩
