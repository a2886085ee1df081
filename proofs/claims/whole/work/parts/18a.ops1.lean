theorem q_ib {x : Int32} (h : q_isb x) : vp_nar .boolean x = x := by
  rcases h with rfl | rfl <;> rfl
theorem nI_s1 (n : Nat) : nI n + 1 - 1 = nI n := by
  rw [nI_1]
  exact nI_pred n
theorem q_lti {x y : Int32} : x < y ↔ x.toInt < y.toInt := Int32.lt_iff_toInt_lt
theorem q_lei {x y : Int32} : x ≤ y ↔ x.toInt ≤ y.toInt := Int32.le_iff_toInt_le
theorem q_eqi {x y : Int32} : x = y ↔ x.toInt = y.toInt := Int32.toInt_inj.symm
theorem i0 : (0 : Int32).toInt = 0 := by decide
theorem i1 : (1 : Int32).toInt = 1 := by decide
theorem i2 : (2 : Int32).toInt = 2 := by decide
theorem i3 : (3 : Int32).toInt = 3 := by decide
theorem i4 : (4 : Int32).toInt = 4 := by decide
theorem i6 : (6 : Int32).toInt = 6 := by decide
theorem i9 : (9 : Int32).toInt = 9 := by decide
theorem i60 : (60 : Int32).toInt = 60 := by decide
theorem i9999 : (9999 : Int32).toInt = 9999 := by decide
theorem im1 : (-1 : Int32).toInt = -1 := by decide
theorem pr_end : ob_end Inv := by
  intro t p k a x1 hk ht hp hI
  obtain ⟨I, S, Hh, B, T, M, hA, hB, hC, hD, hE, hF, hG, hH, ⟨t1, t2, t3, t4⟩, hJ⟩ := id hI
  unfold wp_X10_end wp_X11_end
  have no : Inv t p (k + 1) (qs a 11 0 0 0) := hI.th 0
  rw [t2]
  refine ⟨fun c1 => ⟨fun _ => ⟨rfl, no⟩, fun c => absurd c1 c⟩, fun c1 => ⟨fun c2 => ?_, fun c2 => ?_⟩⟩
  · refine ⟨fun c => absurd c c1, fun _ => ⟨fun _ => ⟨rfl, ?_⟩, fun c => absurd (show x1 ≤ a 11 0 42 by rw [t3]; exact c2) c⟩⟩
    obtain ⟨j, hj, rfl⟩ := nI_of2 (M := nI T) (n := T) (nI_toInt (by omega)) c1 c2
    exact ⟨I, S, Hh, B, j, M, hA, hB, hC, hD, hE, hF, ⟨Nat.le_succ_of_le hG.1, hG.2⟩, hH, ⟨by omega, rfl, rfl, fun i hi => t4 i (by omega)⟩, hJ⟩
  · refine ⟨fun c => absurd c c1, fun _ => ⟨fun c => absurd (show x1 ≤ nI T by rw [← t3]; exact c) c2, fun _ => ⟨rfl, no⟩⟩⟩
set_option maxHeartbeats 4000000 in
theorem pr_inn : ob_inn Inv := by
  intro t p k a x1 x2 x3 hk ht hp hb hI
  obtain ⟨I, S, Hh, B, T, M, ⟨a1, a2, a3, a4, a5, a6, a7, a8, a9⟩, hB, hC, hD, hE, hF, hG, hH, hT, hJ⟩ := id hI
  have no : Inv t p (k + 1) (qs a 11 0 0 0) := hI.th 0
  have e0 : (nI I).toInt = I := nI_toInt (by omega)
  have h0 : 0 ≤ (I : Int) := by omega
  clear hI hB hC hD hE hF hG hH hT hJ a4 a5 a6 a7 a8 a9
  simp only [wp_X10_inn, wp_X6_addInn, wl_X6_addInn_91, wp_X11_inn, wp_X11_within, wl_X11_inn_67, wl_X11_inn_39, wl_X11_inn_68, wl_X11_inn_120, a2, a3]
  repeat' (first
    | exact no
    | exact rfl
    | refine And.intro ?_ ?_
    | (intro c; (try simp only [q_lti, q_lei, q_eqi, i0, i1, i6, i9, e0, qs, a2, a3] at c); first | omega | skip))
  done
