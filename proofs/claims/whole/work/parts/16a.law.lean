def q_gL (g : q_G) (sb L : Nat) (xs : Nat → Int32) : Prop := ∀ U : State, g.2.2.2.2 U → va_X sb L xs U U.heap ∧ sb < g.2.2.2.1 ∧ sb < U.heap.size
abbrev lw_ls (sb : Nat) (i : Int32) : List (Option q_V) := [some (.inl (.ref sb)), some (q_O 10 0), some (q_O 11 0), some (q_O 79 0), some (q_I i), none, none]
def q_bz (x : Int32) : Int32 := if x = 0 then 0 else 1
section QLW
variable {g : q_G} {y : q_M} {R : Room} {K : List q_V → q_H → Prop} {u : Nat × Nat} {pc : Nat} {ls : List (Option q_V)} {st : List q_V} {h : q_H} {sb L : Nat} {xs : Nat → Int32}
theorem xe_slen (hX : q_gL g sb L xs) (hd : decode y.2.1 pc = .ok (.arraylength, 1)) (kk : q_E g y R K u (pc + 1) ls (q_I (nI L) :: st) h) : q_E g y R K u pc ls (.inl (.ref sb) :: st) h := by
  intro p e s m args below meth c Q ad0 n0 ad H locs Lo C F D hL hv h1 h2
  have k2 := kk p e s m args below meth c Q ad0 n0 ad H locs Lo C F D hL (q_cs trivial (q_tl hv)) h1 h2
  obtain ⟨a1, a2, a3⟩ := hX s C.2.2.2.2.2.2.2.2.1.2.2.2.2.1
  exact va_slen C.1 C.2.1 a1 a3 (fun z => Nat.not_le.mpr a2 z) D.2.1 hd k2
theorem xe_sld {x : Int32} (hX : q_gL g sb L xs) (hd : decode y.2.1 pc = .ok (.iaload, 1)) (hin : vp_in x L) (kk : q_E g y R K u (pc + 1) ls (q_I (xs x.toNatClampNeg) :: st) h) : q_E g y R K u pc ls (q_I x :: .inl (.ref sb) :: st) h := by
  intro p e s m args below meth c Q ad0 n0 ad H locs Lo C F D hL hv h1 h2
  have k2 := kk p e s m args below meth c Q ad0 n0 ad H locs Lo C F D hL (q_cs trivial (q_tl (q_tl hv))) h1 h2
  obtain ⟨a1, a2, a3⟩ := hX s C.2.2.2.2.2.2.2.2.1.2.2.2.2.1
  exact va_sld C.1 C.2.1 a1 a3 (fun z => Nat.not_le.mpr a2 z) D.2.1 hin hd k2
end QLW
def lw_in (i : Int32) (L : Nat) : Prop := ∀ k : Nat, k < 6 → vp_in (i + nI k) L
set_option maxHeartbeats 4000000 in
theorem lw_c0 {g : q_G} {K : List q_V → q_H → Prop} {u : Nat × Nat} {sb L : Nat} {xs : Nat → Int32} (hXL : q_gL g sb L xs) {t p : Nat} {s : q_S} {a : qa} (hS : q_Sh t p s) (hu : u.1 ≤ room_1.cells ∧ u.2 ≤ room_1.slots) {i : Int32} (hj : lw_in i L) {N : qa → Prop} (Wq : wp_X10_inn t p (xs (i + 1).toNatClampNeg) (xs (i + 2).toNatClampNeg) (q_bz (xs (i + 3).toNatClampNeg)) a (fun r a1 => wp_X11_inn t p (xs (i + 1).toNatClampNeg) (xs (i + 2).toNatClampNeg) (q_bz (xs (i + 3).toNatClampNeg)) a1 (fun r' a2 => r = r' ∧ N a2))) (hN : ∀ a2, N a2 → q_E g mL_law room_1 K u 1040 (lw_ls sb i) [] (a2, s)) : q_E g mL_law room_1 K u 140 (lw_ls sb i) [] (a, s) := by
  refine xe_aload_n dL_law_140 rfl q_rvO ?_
  refine xe_aload_n dL_law_141 rfl q_rvA ?_
  refine xe_iload dL_law_142 rfl ?_
  refine xe_iconst 1 dL_law_144 (by decide) ?_
  refine xe_iadd dL_law_145 ?_
  refine xe_sld hXL dL_law_146 (hj 1 (by decide)) ?_
  refine xe_aload_n dL_law_147 rfl q_rvA ?_
  refine xe_iload dL_law_148 rfl ?_
  refine xe_iconst 2 dL_law_150 (by decide) ?_
  refine xe_iadd dL_law_151 ?_
  refine xe_sld hXL dL_law_152 (hj 2 (by decide)) ?_
  refine xe_aload_n dL_law_153 rfl q_rvA ?_
  refine xe_iload dL_law_154 rfl ?_
  refine xe_iconst 3 dL_law_156 (by decide) ?_
  refine xe_iadd dL_law_157 ?_
  refine xe_sld hXL dL_law_158 (hj 3 (by decide)) ?_
  refine xe_if_eq 166 dL_law_159 (by decide) (fun c1 => ?_) (fun c1 => ?_)
  · refine xe_iconst 0 dL_law_166 (by decide) ?_
    rw [show q_bz (xs (i + 3).toNatClampNeg) = 0 from if_pos c1] at Wq
    refine xe_cv (y' := mX10_inn) dL_law_167 (Or.inl lL_19) tX10_inn rfl rfl (ct_X10_inn hS Wq) rfl rfl (Nat.le_of_ble_eq_true rfl) ⟨Nat.le_of_ble_eq_true rfl, Nat.le_of_ble_eq_true rfl⟩ ⟨hu.1, hu.2⟩ (fun v1 h1 hl1 hk1 hm1 => ?_)
    obtain ⟨r, a1, rfl, rfl, Wq⟩ := hk1
    refine xe_aload_n dL_law_170 rfl q_rvO ?_
    refine xe_aload_n dL_law_171 rfl q_rvA ?_
    refine xe_iload dL_law_172 rfl ?_
    refine xe_iconst 1 dL_law_174 (by decide) ?_
    refine xe_iadd dL_law_175 ?_
    refine xe_sld hXL dL_law_176 (hj 1 (by decide)) ?_
    refine xe_aload_n dL_law_177 rfl q_rvA ?_
    refine xe_iload dL_law_178 rfl ?_
    refine xe_iconst 2 dL_law_180 (by decide) ?_
    refine xe_iadd dL_law_181 ?_
    refine xe_sld hXL dL_law_182 (hj 2 (by decide)) ?_
    refine xe_aload_n dL_law_183 rfl q_rvA ?_
    refine xe_iload dL_law_184 rfl ?_
    refine xe_iconst 3 dL_law_186 (by decide) ?_
    refine xe_iadd dL_law_187 ?_
    refine xe_sld hXL dL_law_188 (hj 3 (by decide)) ?_
    refine xe_if_eq 196 dL_law_189 (by decide) (fun c2 => ?_) (fun c2 => ?_)
    · refine xe_iconst 0 dL_law_196 (by decide) ?_
      refine xe_cv (y' := mX11_inn) dL_law_197 (Or.inl lL_23) tX11_inn rfl rfl (ct_X11_inn hS Wq) rfl rfl (Nat.le_of_ble_eq_true rfl) ⟨Nat.le_of_ble_eq_true rfl, Nat.le_of_ble_eq_true rfl⟩ ⟨hu.1, hu.2⟩ (fun v1 h1 hl1 hk1 hm1 => ?_)
      obtain ⟨r', a2, rfl, rfl, he, Wq⟩ := hk1
      refine xe_ic_eq 1040 dL_law_200 (by decide) (fun c9 => ?_) (fun c9 => absurd he c9)
      exact hN _ Wq
    · exact absurd c1 c2
  · refine xe_iconst 1 dL_law_162 (by decide) ?_
    refine xe_goto 167 dL_law_163 (by decide) ?_
    rw [show q_bz (xs (i + 3).toNatClampNeg) = 1 from if_neg c1] at Wq
    refine xe_cv (y' := mX10_inn) dL_law_167 (Or.inl lL_19) tX10_inn rfl rfl (ct_X10_inn hS Wq) rfl rfl (Nat.le_of_ble_eq_true rfl) ⟨Nat.le_of_ble_eq_true rfl, Nat.le_of_ble_eq_true rfl⟩ ⟨hu.1, hu.2⟩ (fun v1 h1 hl1 hk1 hm1 => ?_)
    obtain ⟨r, a1, rfl, rfl, Wq⟩ := hk1
    refine xe_aload_n dL_law_170 rfl q_rvO ?_
    refine xe_aload_n dL_law_171 rfl q_rvA ?_
    refine xe_iload dL_law_172 rfl ?_
    refine xe_iconst 1 dL_law_174 (by decide) ?_
    refine xe_iadd dL_law_175 ?_
    refine xe_sld hXL dL_law_176 (hj 1 (by decide)) ?_
    refine xe_aload_n dL_law_177 rfl q_rvA ?_
    refine xe_iload dL_law_178 rfl ?_
    refine xe_iconst 2 dL_law_180 (by decide) ?_
    refine xe_iadd dL_law_181 ?_
    refine xe_sld hXL dL_law_182 (hj 2 (by decide)) ?_
    refine xe_aload_n dL_law_183 rfl q_rvA ?_
    refine xe_iload dL_law_184 rfl ?_
    refine xe_iconst 3 dL_law_186 (by decide) ?_
    refine xe_iadd dL_law_187 ?_
    refine xe_sld hXL dL_law_188 (hj 3 (by decide)) ?_
    refine xe_if_eq 196 dL_law_189 (by decide) (fun c2 => ?_) (fun c2 => ?_)
    · exact absurd c2 c1
    · refine xe_iconst 1 dL_law_192 (by decide) ?_
      refine xe_goto 197 dL_law_193 (by decide) ?_
      refine xe_cv (y' := mX11_inn) dL_law_197 (Or.inl lL_23) tX11_inn rfl rfl (ct_X11_inn hS Wq) rfl rfl (Nat.le_of_ble_eq_true rfl) ⟨Nat.le_of_ble_eq_true rfl, Nat.le_of_ble_eq_true rfl⟩ ⟨hu.1, hu.2⟩ (fun v1 h1 hl1 hk1 hm1 => ?_)
      obtain ⟨r', a2, rfl, rfl, he, Wq⟩ := hk1
      refine xe_ic_eq 1040 dL_law_200 (by decide) (fun c9 => ?_) (fun c9 => absurd he c9)
      exact hN _ Wq
set_option maxHeartbeats 4000000 in
theorem lw_c1 {g : q_G} {K : List q_V → q_H → Prop} {u : Nat × Nat} {sb L : Nat} {xs : Nat → Int32} (hXL : q_gL g sb L xs) {t p : Nat} {s : q_S} {a : qa} (hS : q_Sh t p s) (hu : u.1 + 5 ≤ room_1.cells ∧ u.2 + 33 ≤ room_1.slots) {i : Int32} (hj : lw_in i L) {N : Nat → Nat → qa → Prop} (Wq : wp_X10_string t p s (xs (i + 1).toNatClampNeg) (xs (i + 2).toNatClampNeg) (xs (i + 3).toNatClampNeg) (xs (i + 4).toNatClampNeg) a (fun r h1 => ∃ a1 s1 t1 p1, h1 = (a1, s1) ∧ q_Sh t1 p1 s1 ∧ wp_X11_string t1 p1 (xs (i + 1).toNatClampNeg) (xs (i + 2).toNatClampNeg) (xs (i + 3).toNatClampNeg) (xs (i + 4).toNatClampNeg) a1 (fun r' a2 => r = r' ∧ N t1 p1 a2))) (hN : ∀ t1 p1 s1 a2, q_Sh t1 p1 s1 → N t1 p1 a2 → q_E g mL_law room_1 K (u.1 + 5, u.2 + 33) 1040 (lw_ls sb i) [] (a2, s1)) : q_E g mL_law room_1 K u 205 (lw_ls sb i) [] (a, s) := by
  refine xe_aload_n dL_law_205 rfl q_rvO ?_
  refine xe_aload_n dL_law_206 rfl q_rvA ?_
  refine xe_iload dL_law_207 rfl ?_
  refine xe_iconst 1 dL_law_209 (by decide) ?_
  refine xe_iadd dL_law_210 ?_
  refine xe_sld hXL dL_law_211 (hj 1 (by decide)) ?_
  refine xe_aload_n dL_law_212 rfl q_rvA ?_
  refine xe_iload dL_law_213 rfl ?_
  refine xe_iconst 2 dL_law_215 (by decide) ?_
  refine xe_iadd dL_law_216 ?_
  refine xe_sld hXL dL_law_217 (hj 2 (by decide)) ?_
  refine xe_aload_n dL_law_218 rfl q_rvA ?_
  refine xe_iload dL_law_219 rfl ?_
  refine xe_iconst 3 dL_law_221 (by decide) ?_
  refine xe_iadd dL_law_222 ?_
  refine xe_sld hXL dL_law_223 (hj 3 (by decide)) ?_
  refine xe_aload_n dL_law_224 rfl q_rvA ?_
  refine xe_iload dL_law_225 rfl ?_
  refine xe_iconst 4 dL_law_227 (by decide) ?_
  refine xe_iadd dL_law_228 ?_
  refine xe_sld hXL dL_law_229 (hj 4 (by decide)) ?_
  refine xe_cv (y' := mX10_string) dL_law_230 (Or.inl lL_24) tX10_string rfl rfl (cm_X10_string hS Wq) rfl rfl (Nat.le_of_ble_eq_true rfl) ⟨Nat.le_of_ble_eq_true rfl, Nat.le_of_ble_eq_true rfl⟩ ⟨hu.1, hu.2⟩ (fun v1 h1 hl1 hk1 hm1 => ?_)
  obtain ⟨r, rfl, a1, s1, t1, p1, rfl, hS1, Wq⟩ := hk1
  refine xe_aload_n dL_law_233 rfl q_rvO ?_
  refine xe_aload_n dL_law_234 rfl q_rvA ?_
  refine xe_iload dL_law_235 rfl ?_
  refine xe_iconst 1 dL_law_237 (by decide) ?_
  refine xe_iadd dL_law_238 ?_
  refine xe_sld hXL dL_law_239 (hj 1 (by decide)) ?_
  refine xe_aload_n dL_law_240 rfl q_rvA ?_
  refine xe_iload dL_law_241 rfl ?_
  refine xe_iconst 2 dL_law_243 (by decide) ?_
  refine xe_iadd dL_law_244 ?_
  refine xe_sld hXL dL_law_245 (hj 2 (by decide)) ?_
  refine xe_aload_n dL_law_246 rfl q_rvA ?_
  refine xe_iload dL_law_247 rfl ?_
  refine xe_iconst 3 dL_law_249 (by decide) ?_
  refine xe_iadd dL_law_250 ?_
  refine xe_sld hXL dL_law_251 (hj 3 (by decide)) ?_
  refine xe_aload_n dL_law_252 rfl q_rvA ?_
  refine xe_iload dL_law_253 rfl ?_
  refine xe_iconst 4 dL_law_255 (by decide) ?_
  refine xe_iadd dL_law_256 ?_
  refine xe_sld hXL dL_law_257 (hj 4 (by decide)) ?_
  refine xe_cv (y' := mX11_string) dL_law_258 (Or.inl lL_28) tX11_string rfl rfl (ct_X11_string hS1 Wq) rfl rfl (Nat.le_of_ble_eq_true rfl) ⟨Nat.le_of_ble_eq_true rfl, Nat.le_of_ble_eq_true rfl⟩ ⟨hu.1, hu.2⟩ (fun v1 h1 hl1 hk1 hm1 => ?_)
  obtain ⟨r', a2, rfl, rfl, he, Wq⟩ := hk1
  refine xe_ic_eq 1040 dL_law_261 (by decide) (fun c9 => ?_) (fun c9 => absurd he c9)
  exact hN _ _ _ _ hS1 Wq
set_option maxHeartbeats 4000000 in
theorem lw_c2 {g : q_G} {K : List q_V → q_H → Prop} {u : Nat × Nat} {sb L : Nat} {xs : Nat → Int32} (hXL : q_gL g sb L xs) {t p : Nat} {s : q_S} {a : qa} (hS : q_Sh t p s) (hu : u.1 ≤ room_1.cells ∧ u.2 ≤ room_1.slots) {i : Int32} (hj : lw_in i L) {N : qa → Prop} (Wq : wp_X10_snow t p (xs (i + 1).toNatClampNeg) (xs (i + 2).toNatClampNeg) (xs (i + 3).toNatClampNeg) a (fun r a1 => wp_X11_snow t p (xs (i + 1).toNatClampNeg) (xs (i + 2).toNatClampNeg) (xs (i + 3).toNatClampNeg) a1 (fun r' a2 => r = r' ∧ N a2))) (hN : ∀ a2, N a2 → q_E g mL_law room_1 K u 1040 (lw_ls sb i) [] (a2, s)) : q_E g mL_law room_1 K u 266 (lw_ls sb i) [] (a, s) := by
  refine xe_aload_n dL_law_266 rfl q_rvO ?_
  refine xe_aload_n dL_law_267 rfl q_rvA ?_
  refine xe_iload dL_law_268 rfl ?_
  refine xe_iconst 1 dL_law_270 (by decide) ?_
  refine xe_iadd dL_law_271 ?_
  refine xe_sld hXL dL_law_272 (hj 1 (by decide)) ?_
  refine xe_aload_n dL_law_273 rfl q_rvA ?_
  refine xe_iload dL_law_274 rfl ?_
  refine xe_iconst 2 dL_law_276 (by decide) ?_
  refine xe_iadd dL_law_277 ?_
  refine xe_sld hXL dL_law_278 (hj 2 (by decide)) ?_
  refine xe_aload_n dL_law_279 rfl q_rvA ?_
  refine xe_iload dL_law_280 rfl ?_
  refine xe_iconst 3 dL_law_282 (by decide) ?_
  refine xe_iadd dL_law_283 ?_
  refine xe_sld hXL dL_law_284 (hj 3 (by decide)) ?_
  refine xe_cv (y' := mX10_snow) dL_law_285 (Or.inl lL_29) tX10_snow rfl rfl (ct_X10_snow hS Wq) rfl rfl (Nat.le_of_ble_eq_true rfl) ⟨Nat.le_of_ble_eq_true rfl, Nat.le_of_ble_eq_true rfl⟩ ⟨hu.1, hu.2⟩ (fun v1 h1 hl1 hk1 hm1 => ?_)
  obtain ⟨r, a1, rfl, rfl, Wq⟩ := hk1
  refine xe_aload_n dL_law_288 rfl q_rvO ?_
  refine xe_aload_n dL_law_289 rfl q_rvA ?_
  refine xe_iload dL_law_290 rfl ?_
  refine xe_iconst 1 dL_law_292 (by decide) ?_
  refine xe_iadd dL_law_293 ?_
  refine xe_sld hXL dL_law_294 (hj 1 (by decide)) ?_
  refine xe_aload_n dL_law_295 rfl q_rvA ?_
  refine xe_iload dL_law_296 rfl ?_
  refine xe_iconst 2 dL_law_298 (by decide) ?_
  refine xe_iadd dL_law_299 ?_
  refine xe_sld hXL dL_law_300 (hj 2 (by decide)) ?_
  refine xe_aload_n dL_law_301 rfl q_rvA ?_
  refine xe_iload dL_law_302 rfl ?_
  refine xe_iconst 3 dL_law_304 (by decide) ?_
  refine xe_iadd dL_law_305 ?_
  refine xe_sld hXL dL_law_306 (hj 3 (by decide)) ?_
  refine xe_cv (y' := mX11_snow) dL_law_307 (Or.inl lL_33) tX11_snow rfl rfl (ct_X11_snow hS Wq) rfl rfl (Nat.le_of_ble_eq_true rfl) ⟨Nat.le_of_ble_eq_true rfl, Nat.le_of_ble_eq_true rfl⟩ ⟨hu.1, hu.2⟩ (fun v1 h1 hl1 hk1 hm1 => ?_)
  obtain ⟨r', a2, rfl, rfl, he, Wq⟩ := hk1
  refine xe_ic_eq 1040 dL_law_310 (by decide) (fun c9 => ?_) (fun c9 => absurd he c9)
  exact hN _ Wq
set_option maxHeartbeats 4000000 in
theorem lw_c3 {g : q_G} {K : List q_V → q_H → Prop} {u : Nat × Nat} {sb L : Nat} {xs : Nat → Int32} (hXL : q_gL g sb L xs) {t p : Nat} {s : q_S} {a : qa} (hS : q_Sh t p s) (hu : u.1 ≤ room_1.cells ∧ u.2 ≤ room_1.slots) {i : Int32} (hj : lw_in i L) {N : qa → Prop} (Wq : wp_X10_shut t p (xs (i + 1).toNatClampNeg) (xs (i + 2).toNatClampNeg) (xs (i + 3).toNatClampNeg) a (fun r a1 => wp_X11_shut t p (xs (i + 1).toNatClampNeg) (xs (i + 2).toNatClampNeg) (xs (i + 3).toNatClampNeg) a1 (fun r' a2 => r = r' ∧ N a2))) (hN : ∀ a2, N a2 → q_E g mL_law room_1 K u 1040 (lw_ls sb i) [] (a2, s)) : q_E g mL_law room_1 K u 315 (lw_ls sb i) [] (a, s) := by
  refine xe_aload_n dL_law_315 rfl q_rvO ?_
  refine xe_aload_n dL_law_316 rfl q_rvA ?_
  refine xe_iload dL_law_317 rfl ?_
  refine xe_iconst 1 dL_law_319 (by decide) ?_
  refine xe_iadd dL_law_320 ?_
  refine xe_sld hXL dL_law_321 (hj 1 (by decide)) ?_
  refine xe_aload_n dL_law_322 rfl q_rvA ?_
  refine xe_iload dL_law_323 rfl ?_
  refine xe_iconst 2 dL_law_325 (by decide) ?_
  refine xe_iadd dL_law_326 ?_
  refine xe_sld hXL dL_law_327 (hj 2 (by decide)) ?_
  refine xe_aload_n dL_law_328 rfl q_rvA ?_
  refine xe_iload dL_law_329 rfl ?_
  refine xe_iconst 3 dL_law_331 (by decide) ?_
  refine xe_iadd dL_law_332 ?_
  refine xe_sld hXL dL_law_333 (hj 3 (by decide)) ?_
  refine xe_cv (y' := mX10_shut) dL_law_334 (Or.inl lL_34) tX10_shut rfl rfl (ct_X10_shut hS Wq) rfl rfl (Nat.le_of_ble_eq_true rfl) ⟨Nat.le_of_ble_eq_true rfl, Nat.le_of_ble_eq_true rfl⟩ ⟨hu.1, hu.2⟩ (fun v1 h1 hl1 hk1 hm1 => ?_)
  obtain ⟨r, a1, rfl, rfl, Wq⟩ := hk1
  refine xe_aload_n dL_law_337 rfl q_rvO ?_
  refine xe_aload_n dL_law_338 rfl q_rvA ?_
  refine xe_iload dL_law_339 rfl ?_
  refine xe_iconst 1 dL_law_341 (by decide) ?_
  refine xe_iadd dL_law_342 ?_
  refine xe_sld hXL dL_law_343 (hj 1 (by decide)) ?_
  refine xe_aload_n dL_law_344 rfl q_rvA ?_
  refine xe_iload dL_law_345 rfl ?_
  refine xe_iconst 2 dL_law_347 (by decide) ?_
  refine xe_iadd dL_law_348 ?_
  refine xe_sld hXL dL_law_349 (hj 2 (by decide)) ?_
  refine xe_aload_n dL_law_350 rfl q_rvA ?_
  refine xe_iload dL_law_351 rfl ?_
  refine xe_iconst 3 dL_law_353 (by decide) ?_
  refine xe_iadd dL_law_354 ?_
  refine xe_sld hXL dL_law_355 (hj 3 (by decide)) ?_
  refine xe_cv (y' := mX11_shut) dL_law_356 (Or.inl lL_37) tX11_shut rfl rfl (ct_X11_shut hS Wq) rfl rfl (Nat.le_of_ble_eq_true rfl) ⟨Nat.le_of_ble_eq_true rfl, Nat.le_of_ble_eq_true rfl⟩ ⟨hu.1, hu.2⟩ (fun v1 h1 hl1 hk1 hm1 => ?_)
  obtain ⟨r', a2, rfl, rfl, he, Wq⟩ := hk1
  refine xe_ic_eq 1040 dL_law_359 (by decide) (fun c9 => ?_) (fun c9 => absurd he c9)
  exact hN _ Wq
set_option maxHeartbeats 4000000 in
theorem lw_c4 {g : q_G} {K : List q_V → q_H → Prop} {u : Nat × Nat} {sb L : Nat} {xs : Nat → Int32} (hXL : q_gL g sb L xs) {t p : Nat} {s : q_S} {a : qa} (hS : q_Sh t p s) (hu : u.1 + 1 ≤ room_1.cells ∧ u.2 + 10 ≤ room_1.slots) {i : Int32} (hj : lw_in i L) {N : Nat → Nat → qa → Prop} (Wq : wp_X10_pack t p s (xs (i + 1).toNatClampNeg) (xs (i + 2).toNatClampNeg) (xs (i + 3).toNatClampNeg) (xs (i + 4).toNatClampNeg) a (fun r h1 => ∃ a1 s1 t1 p1, h1 = (a1, s1) ∧ q_Sh t1 p1 s1 ∧ wp_X11_pack t1 p1 (xs (i + 1).toNatClampNeg) (xs (i + 2).toNatClampNeg) (xs (i + 3).toNatClampNeg) (xs (i + 4).toNatClampNeg) a1 (fun r' a2 => r = r' ∧ N t1 p1 a2))) (hN : ∀ t1 p1 s1 a2, q_Sh t1 p1 s1 → N t1 p1 a2 → q_E g mL_law room_1 K (u.1 + 1, u.2 + 10) 1040 (lw_ls sb i) [] (a2, s1)) : q_E g mL_law room_1 K u 364 (lw_ls sb i) [] (a, s) := by
  refine xe_aload_n dL_law_364 rfl q_rvO ?_
  refine xe_aload_n dL_law_365 rfl q_rvA ?_
  refine xe_iload dL_law_366 rfl ?_
  refine xe_iconst 1 dL_law_368 (by decide) ?_
  refine xe_iadd dL_law_369 ?_
  refine xe_sld hXL dL_law_370 (hj 1 (by decide)) ?_
  refine xe_aload_n dL_law_371 rfl q_rvA ?_
  refine xe_iload dL_law_372 rfl ?_
  refine xe_iconst 2 dL_law_374 (by decide) ?_
  refine xe_iadd dL_law_375 ?_
  refine xe_sld hXL dL_law_376 (hj 2 (by decide)) ?_
  refine xe_aload_n dL_law_377 rfl q_rvA ?_
  refine xe_iload dL_law_378 rfl ?_
  refine xe_iconst 3 dL_law_380 (by decide) ?_
  refine xe_iadd dL_law_381 ?_
  refine xe_sld hXL dL_law_382 (hj 3 (by decide)) ?_
  refine xe_aload_n dL_law_383 rfl q_rvA ?_
  refine xe_iload dL_law_384 rfl ?_
  refine xe_iconst 4 dL_law_386 (by decide) ?_
  refine xe_iadd dL_law_387 ?_
  refine xe_sld hXL dL_law_388 (hj 4 (by decide)) ?_
  refine xe_cv (y' := mX10_pack) dL_law_389 (Or.inl lL_38) tX10_pack rfl rfl (cm_X10_pack hS Wq) rfl rfl (Nat.le_of_ble_eq_true rfl) ⟨Nat.le_of_ble_eq_true rfl, Nat.le_of_ble_eq_true rfl⟩ ⟨hu.1, hu.2⟩ (fun v1 h1 hl1 hk1 hm1 => ?_)
  obtain ⟨r, rfl, a1, s1, t1, p1, rfl, hS1, Wq⟩ := hk1
  refine xe_aload_n dL_law_392 rfl q_rvO ?_
  refine xe_aload_n dL_law_393 rfl q_rvA ?_
  refine xe_iload dL_law_394 rfl ?_
  refine xe_iconst 1 dL_law_396 (by decide) ?_
  refine xe_iadd dL_law_397 ?_
  refine xe_sld hXL dL_law_398 (hj 1 (by decide)) ?_
  refine xe_aload_n dL_law_399 rfl q_rvA ?_
  refine xe_iload dL_law_400 rfl ?_
  refine xe_iconst 2 dL_law_402 (by decide) ?_
  refine xe_iadd dL_law_403 ?_
  refine xe_sld hXL dL_law_404 (hj 2 (by decide)) ?_
  refine xe_aload_n dL_law_405 rfl q_rvA ?_
  refine xe_iload dL_law_406 rfl ?_
  refine xe_iconst 3 dL_law_408 (by decide) ?_
  refine xe_iadd dL_law_409 ?_
  refine xe_sld hXL dL_law_410 (hj 3 (by decide)) ?_
  refine xe_aload_n dL_law_411 rfl q_rvA ?_
  refine xe_iload dL_law_412 rfl ?_
  refine xe_iconst 4 dL_law_414 (by decide) ?_
  refine xe_iadd dL_law_415 ?_
  refine xe_sld hXL dL_law_416 (hj 4 (by decide)) ?_
  refine xe_cv (y' := mX11_pack) dL_law_417 (Or.inl lL_41) tX11_pack rfl rfl (ct_X11_pack hS1 Wq) rfl rfl (Nat.le_of_ble_eq_true rfl) ⟨Nat.le_of_ble_eq_true rfl, Nat.le_of_ble_eq_true rfl⟩ ⟨hu.1, hu.2⟩ (fun v1 h1 hl1 hk1 hm1 => ?_)
  obtain ⟨r', a2, rfl, rfl, he, Wq⟩ := hk1
  refine xe_ic_eq 1040 dL_law_420 (by decide) (fun c9 => ?_) (fun c9 => absurd he c9)
  exact hN _ _ _ _ hS1 Wq
set_option maxHeartbeats 4000000 in
theorem lw_c5 {g : q_G} {K : List q_V → q_H → Prop} {u : Nat × Nat} {sb L : Nat} {xs : Nat → Int32} (hXL : q_gL g sb L xs) {t p : Nat} {s : q_S} {a : qa} (hS : q_Sh t p s) (hu : u.1 ≤ room_1.cells ∧ u.2 ≤ room_1.slots) {i : Int32} (hj : lw_in i L) {N : qa → Prop} (Wq : wp_X10_lay t p (xs (i + 1).toNatClampNeg) (xs (i + 2).toNatClampNeg) (xs (i + 3).toNatClampNeg) (xs (i + 4).toNatClampNeg) a (fun r a1 => wp_X11_lay t p (xs (i + 1).toNatClampNeg) (xs (i + 2).toNatClampNeg) (xs (i + 3).toNatClampNeg) (xs (i + 4).toNatClampNeg) a1 (fun r' a2 => r = r' ∧ N a2))) (hN : ∀ a2, N a2 → q_E g mL_law room_1 K u 1040 (lw_ls sb i) [] (a2, s)) : q_E g mL_law room_1 K u 425 (lw_ls sb i) [] (a, s) := by
  refine xe_aload_n dL_law_425 rfl q_rvO ?_
  refine xe_aload_n dL_law_426 rfl q_rvA ?_
  refine xe_iload dL_law_427 rfl ?_
  refine xe_iconst 1 dL_law_429 (by decide) ?_
  refine xe_iadd dL_law_430 ?_
  refine xe_sld hXL dL_law_431 (hj 1 (by decide)) ?_
  refine xe_aload_n dL_law_432 rfl q_rvA ?_
  refine xe_iload dL_law_433 rfl ?_
  refine xe_iconst 2 dL_law_435 (by decide) ?_
  refine xe_iadd dL_law_436 ?_
  refine xe_sld hXL dL_law_437 (hj 2 (by decide)) ?_
  refine xe_aload_n dL_law_438 rfl q_rvA ?_
  refine xe_iload dL_law_439 rfl ?_
  refine xe_iconst 3 dL_law_441 (by decide) ?_
  refine xe_iadd dL_law_442 ?_
  refine xe_sld hXL dL_law_443 (hj 3 (by decide)) ?_
  refine xe_aload_n dL_law_444 rfl q_rvA ?_
  refine xe_iload dL_law_445 rfl ?_
  refine xe_iconst 4 dL_law_447 (by decide) ?_
  refine xe_iadd dL_law_448 ?_
  refine xe_sld hXL dL_law_449 (hj 4 (by decide)) ?_
  refine xe_cv (y' := mX10_lay) dL_law_450 (Or.inl lL_42) tX10_lay rfl rfl (ct_X10_lay hS Wq) rfl rfl (Nat.le_of_ble_eq_true rfl) ⟨Nat.le_of_ble_eq_true rfl, Nat.le_of_ble_eq_true rfl⟩ ⟨hu.1, hu.2⟩ (fun v1 h1 hl1 hk1 hm1 => ?_)
  obtain ⟨r, a1, rfl, rfl, Wq⟩ := hk1
  refine xe_aload_n dL_law_453 rfl q_rvO ?_
  refine xe_aload_n dL_law_454 rfl q_rvA ?_
  refine xe_iload dL_law_455 rfl ?_
  refine xe_iconst 1 dL_law_457 (by decide) ?_
  refine xe_iadd dL_law_458 ?_
  refine xe_sld hXL dL_law_459 (hj 1 (by decide)) ?_
  refine xe_aload_n dL_law_460 rfl q_rvA ?_
  refine xe_iload dL_law_461 rfl ?_
  refine xe_iconst 2 dL_law_463 (by decide) ?_
  refine xe_iadd dL_law_464 ?_
  refine xe_sld hXL dL_law_465 (hj 2 (by decide)) ?_
  refine xe_aload_n dL_law_466 rfl q_rvA ?_
  refine xe_iload dL_law_467 rfl ?_
  refine xe_iconst 3 dL_law_469 (by decide) ?_
  refine xe_iadd dL_law_470 ?_
  refine xe_sld hXL dL_law_471 (hj 3 (by decide)) ?_
  refine xe_aload_n dL_law_472 rfl q_rvA ?_
  refine xe_iload dL_law_473 rfl ?_
  refine xe_iconst 4 dL_law_475 (by decide) ?_
  refine xe_iadd dL_law_476 ?_
  refine xe_sld hXL dL_law_477 (hj 4 (by decide)) ?_
  refine xe_cv (y' := mX11_lay) dL_law_478 (Or.inl lL_45) tX11_lay rfl rfl (ct_X11_lay hS Wq) rfl rfl (Nat.le_of_ble_eq_true rfl) ⟨Nat.le_of_ble_eq_true rfl, Nat.le_of_ble_eq_true rfl⟩ ⟨hu.1, hu.2⟩ (fun v1 h1 hl1 hk1 hm1 => ?_)
  obtain ⟨r', a2, rfl, rfl, he, Wq⟩ := hk1
  refine xe_ic_eq 1040 dL_law_481 (by decide) (fun c9 => ?_) (fun c9 => absurd he c9)
  exact hN _ Wq
set_option maxHeartbeats 4000000 in
theorem lw_c6 {g : q_G} {K : List q_V → q_H → Prop} {u : Nat × Nat} {sb L : Nat} {xs : Nat → Int32} (hXL : q_gL g sb L xs) {t p : Nat} {s : q_S} {a : qa} (hS : q_Sh t p s) (hu : u.1 ≤ room_1.cells ∧ u.2 ≤ room_1.slots) {i : Int32} (hj : lw_in i L) {N : qa → Prop} (Wq : wp_X10_down t p (xs (i + 1).toNatClampNeg) a (fun r a1 => wp_X11_down t p (xs (i + 1).toNatClampNeg) a1 (fun r' a2 => r = r' ∧ N a2))) (hN : ∀ a2, N a2 → q_E g mL_law room_1 K u 1040 (lw_ls sb i) [] (a2, s)) : q_E g mL_law room_1 K u 486 (lw_ls sb i) [] (a, s) := by
  refine xe_aload_n dL_law_486 rfl q_rvO ?_
  refine xe_aload_n dL_law_487 rfl q_rvA ?_
  refine xe_iload dL_law_488 rfl ?_
  refine xe_iconst 1 dL_law_490 (by decide) ?_
  refine xe_iadd dL_law_491 ?_
  refine xe_sld hXL dL_law_492 (hj 1 (by decide)) ?_
  refine xe_cv (y' := mX10_down) dL_law_493 (Or.inl lL_46) tX10_down rfl rfl (ct_X10_down hS Wq) rfl rfl (Nat.le_of_ble_eq_true rfl) ⟨Nat.le_of_ble_eq_true rfl, Nat.le_of_ble_eq_true rfl⟩ ⟨hu.1, hu.2⟩ (fun v1 h1 hl1 hk1 hm1 => ?_)
  obtain ⟨r, a1, rfl, rfl, Wq⟩ := hk1
  refine xe_aload_n dL_law_496 rfl q_rvO ?_
  refine xe_aload_n dL_law_497 rfl q_rvA ?_
  refine xe_iload dL_law_498 rfl ?_
  refine xe_iconst 1 dL_law_500 (by decide) ?_
  refine xe_iadd dL_law_501 ?_
  refine xe_sld hXL dL_law_502 (hj 1 (by decide)) ?_
  refine xe_cv (y' := mX11_down) dL_law_503 (Or.inl lL_49) tX11_down rfl rfl (ct_X11_down hS Wq) rfl rfl (Nat.le_of_ble_eq_true rfl) ⟨Nat.le_of_ble_eq_true rfl, Nat.le_of_ble_eq_true rfl⟩ ⟨hu.1, hu.2⟩ (fun v1 h1 hl1 hk1 hm1 => ?_)
  obtain ⟨r', a2, rfl, rfl, he, Wq⟩ := hk1
  refine xe_ic_eq 1040 dL_law_506 (by decide) (fun c9 => ?_) (fun c9 => absurd he c9)
  exact hN _ Wq
set_option maxHeartbeats 4000000 in
theorem lw_c7 {g : q_G} {K : List q_V → q_H → Prop} {u : Nat × Nat} {sb L : Nat} {xs : Nat → Int32} (hXL : q_gL g sb L xs) {t p : Nat} {s : q_S} {a : qa} (hS : q_Sh t p s) (hu : u.1 ≤ room_1.cells ∧ u.2 ≤ room_1.slots) {i : Int32} (hj : lw_in i L) {N : qa → Prop} (Wq : wp_X10_go t p (xs (i + 1).toNatClampNeg) (q_bz (xs (i + 2).toNatClampNeg)) a (fun r a1 => wp_X11_go t p (xs (i + 1).toNatClampNeg) (q_bz (xs (i + 2).toNatClampNeg)) a1 (fun r' a2 => r = r' ∧ N a2))) (hN : ∀ a2, N a2 → q_E g mL_law room_1 K u 1040 (lw_ls sb i) [] (a2, s)) : q_E g mL_law room_1 K u 511 (lw_ls sb i) [] (a, s) := by
  refine xe_aload_n dL_law_511 rfl q_rvO ?_
  refine xe_aload_n dL_law_512 rfl q_rvA ?_
  refine xe_iload dL_law_513 rfl ?_
  refine xe_iconst 1 dL_law_515 (by decide) ?_
  refine xe_iadd dL_law_516 ?_
  refine xe_sld hXL dL_law_517 (hj 1 (by decide)) ?_
  refine xe_aload_n dL_law_518 rfl q_rvA ?_
  refine xe_iload dL_law_519 rfl ?_
  refine xe_iconst 2 dL_law_521 (by decide) ?_
  refine xe_iadd dL_law_522 ?_
  refine xe_sld hXL dL_law_523 (hj 2 (by decide)) ?_
  refine xe_if_eq 531 dL_law_524 (by decide) (fun c1 => ?_) (fun c1 => ?_)
  · refine xe_iconst 0 dL_law_531 (by decide) ?_
    rw [show q_bz (xs (i + 2).toNatClampNeg) = 0 from if_pos c1] at Wq
    refine xe_cv (y' := mX10_go) dL_law_532 (Or.inl lL_50) tX10_go rfl rfl (ct_X10_go hS Wq) rfl rfl (Nat.le_of_ble_eq_true rfl) ⟨Nat.le_of_ble_eq_true rfl, Nat.le_of_ble_eq_true rfl⟩ ⟨hu.1, hu.2⟩ (fun v1 h1 hl1 hk1 hm1 => ?_)
    obtain ⟨r, a1, rfl, rfl, Wq⟩ := hk1
    refine xe_aload_n dL_law_535 rfl q_rvO ?_
    refine xe_aload_n dL_law_536 rfl q_rvA ?_
    refine xe_iload dL_law_537 rfl ?_
    refine xe_iconst 1 dL_law_539 (by decide) ?_
    refine xe_iadd dL_law_540 ?_
    refine xe_sld hXL dL_law_541 (hj 1 (by decide)) ?_
    refine xe_aload_n dL_law_542 rfl q_rvA ?_
    refine xe_iload dL_law_543 rfl ?_
    refine xe_iconst 2 dL_law_545 (by decide) ?_
    refine xe_iadd dL_law_546 ?_
    refine xe_sld hXL dL_law_547 (hj 2 (by decide)) ?_
    refine xe_if_eq 555 dL_law_548 (by decide) (fun c2 => ?_) (fun c2 => ?_)
    · refine xe_iconst 0 dL_law_555 (by decide) ?_
      refine xe_cv (y' := mX11_go) dL_law_556 (Or.inl lL_54) tX11_go rfl rfl (ct_X11_go hS Wq) rfl rfl (Nat.le_of_ble_eq_true rfl) ⟨Nat.le_of_ble_eq_true rfl, Nat.le_of_ble_eq_true rfl⟩ ⟨hu.1, hu.2⟩ (fun v1 h1 hl1 hk1 hm1 => ?_)
      obtain ⟨r', a2, rfl, rfl, he, Wq⟩ := hk1
      refine xe_ic_eq 1040 dL_law_559 (by decide) (fun c9 => ?_) (fun c9 => absurd he c9)
      exact hN _ Wq
    · exact absurd c1 c2
  · refine xe_iconst 1 dL_law_527 (by decide) ?_
    refine xe_goto 532 dL_law_528 (by decide) ?_
    rw [show q_bz (xs (i + 2).toNatClampNeg) = 1 from if_neg c1] at Wq
    refine xe_cv (y' := mX10_go) dL_law_532 (Or.inl lL_50) tX10_go rfl rfl (ct_X10_go hS Wq) rfl rfl (Nat.le_of_ble_eq_true rfl) ⟨Nat.le_of_ble_eq_true rfl, Nat.le_of_ble_eq_true rfl⟩ ⟨hu.1, hu.2⟩ (fun v1 h1 hl1 hk1 hm1 => ?_)
    obtain ⟨r, a1, rfl, rfl, Wq⟩ := hk1
    refine xe_aload_n dL_law_535 rfl q_rvO ?_
    refine xe_aload_n dL_law_536 rfl q_rvA ?_
    refine xe_iload dL_law_537 rfl ?_
    refine xe_iconst 1 dL_law_539 (by decide) ?_
    refine xe_iadd dL_law_540 ?_
    refine xe_sld hXL dL_law_541 (hj 1 (by decide)) ?_
    refine xe_aload_n dL_law_542 rfl q_rvA ?_
    refine xe_iload dL_law_543 rfl ?_
    refine xe_iconst 2 dL_law_545 (by decide) ?_
    refine xe_iadd dL_law_546 ?_
    refine xe_sld hXL dL_law_547 (hj 2 (by decide)) ?_
    refine xe_if_eq 555 dL_law_548 (by decide) (fun c2 => ?_) (fun c2 => ?_)
    · exact absurd c2 c1
    · refine xe_iconst 1 dL_law_551 (by decide) ?_
      refine xe_goto 556 dL_law_552 (by decide) ?_
      refine xe_cv (y' := mX11_go) dL_law_556 (Or.inl lL_54) tX11_go rfl rfl (ct_X11_go hS Wq) rfl rfl (Nat.le_of_ble_eq_true rfl) ⟨Nat.le_of_ble_eq_true rfl, Nat.le_of_ble_eq_true rfl⟩ ⟨hu.1, hu.2⟩ (fun v1 h1 hl1 hk1 hm1 => ?_)
      obtain ⟨r', a2, rfl, rfl, he, Wq⟩ := hk1
      refine xe_ic_eq 1040 dL_law_559 (by decide) (fun c9 => ?_) (fun c9 => absurd he c9)
      exact hN _ Wq
set_option maxHeartbeats 4000000 in
theorem lw_c8 {g : q_G} {K : List q_V → q_H → Prop} {u : Nat × Nat} {sb L : Nat} {xs : Nat → Int32} (hXL : q_gL g sb L xs) {t p : Nat} {s : q_S} {a : qa} (hS : q_Sh t p s) (hu : u.1 ≤ room_1.cells ∧ u.2 ≤ room_1.slots) {i : Int32} (hj : lw_in i L) {N : qa → Prop} (Wq : wp_X10_hours t p (xs (i + 1).toNatClampNeg) a (fun r a1 => wp_X11_hours t p (xs (i + 1).toNatClampNeg) a1 (fun r' a2 => r = r' ∧ N a2))) (hN : ∀ a2, N a2 → q_E g mL_law room_1 K u 1040 (lw_ls sb i) [] (a2, s)) : q_E g mL_law room_1 K u 564 (lw_ls sb i) [] (a, s) := by
  refine xe_aload_n dL_law_564 rfl q_rvO ?_
  refine xe_aload_n dL_law_565 rfl q_rvA ?_
  refine xe_iload dL_law_566 rfl ?_
  refine xe_iconst 1 dL_law_568 (by decide) ?_
  refine xe_iadd dL_law_569 ?_
  refine xe_sld hXL dL_law_570 (hj 1 (by decide)) ?_
  refine xe_cv (y' := mX10_hours) dL_law_571 (Or.inl lL_55) tX10_hours rfl rfl (ct_X10_hours hS Wq) rfl rfl (Nat.le_of_ble_eq_true rfl) ⟨Nat.le_of_ble_eq_true rfl, Nat.le_of_ble_eq_true rfl⟩ ⟨hu.1, hu.2⟩ (fun v1 h1 hl1 hk1 hm1 => ?_)
  obtain ⟨r, a1, rfl, rfl, Wq⟩ := hk1
  refine xe_aload_n dL_law_574 rfl q_rvO ?_
  refine xe_aload_n dL_law_575 rfl q_rvA ?_
  refine xe_iload dL_law_576 rfl ?_
  refine xe_iconst 1 dL_law_578 (by decide) ?_
  refine xe_iadd dL_law_579 ?_
  refine xe_sld hXL dL_law_580 (hj 1 (by decide)) ?_
  refine xe_cv (y' := mX11_hours) dL_law_581 (Or.inl lL_58) tX11_hours rfl rfl (ct_X11_hours hS Wq) rfl rfl (Nat.le_of_ble_eq_true rfl) ⟨Nat.le_of_ble_eq_true rfl, Nat.le_of_ble_eq_true rfl⟩ ⟨hu.1, hu.2⟩ (fun v1 h1 hl1 hk1 hm1 => ?_)
  obtain ⟨r', a2, rfl, rfl, he, Wq⟩ := hk1
  refine xe_ic_eq 1040 dL_law_584 (by decide) (fun c9 => ?_) (fun c9 => absurd he c9)
  exact hN _ Wq
set_option maxHeartbeats 4000000 in
theorem lw_c9 {g : q_G} {K : List q_V → q_H → Prop} {u : Nat × Nat} {sb L : Nat} {xs : Nat → Int32} (hXL : q_gL g sb L xs) {t p : Nat} {s : q_S} {a : qa} (hS : q_Sh t p s) (hu : u.1 ≤ room_1.cells ∧ u.2 ≤ room_1.slots) {i : Int32} (hj : lw_in i L) {N : qa → Prop} (Wq : wp_X10_best t p (xs (i + 1).toNatClampNeg) (xs (i + 2).toNatClampNeg) a (fun r a1 => wp_X11_best t p (xs (i + 1).toNatClampNeg) (xs (i + 2).toNatClampNeg) a1 (fun r' a2 => r = r' ∧ N a2))) (hN : ∀ a2, N a2 → q_E g mL_law room_1 K u 1040 (lw_ls sb i) [] (a2, s)) : q_E g mL_law room_1 K u 589 (lw_ls sb i) [] (a, s) := by
  refine xe_aload_n dL_law_589 rfl q_rvO ?_
  refine xe_aload_n dL_law_590 rfl q_rvA ?_
  refine xe_iload dL_law_591 rfl ?_
  refine xe_iconst 1 dL_law_593 (by decide) ?_
  refine xe_iadd dL_law_594 ?_
  refine xe_sld hXL dL_law_595 (hj 1 (by decide)) ?_
  refine xe_aload_n dL_law_596 rfl q_rvA ?_
  refine xe_iload dL_law_597 rfl ?_
  refine xe_iconst 2 dL_law_599 (by decide) ?_
  refine xe_iadd dL_law_600 ?_
  refine xe_sld hXL dL_law_601 (hj 2 (by decide)) ?_
  refine xe_cv (y' := mX10_best) dL_law_602 (Or.inl lL_59) tX10_best rfl rfl (ct_X10_best hS Wq) rfl rfl (Nat.le_of_ble_eq_true rfl) ⟨Nat.le_of_ble_eq_true rfl, Nat.le_of_ble_eq_true rfl⟩ ⟨hu.1, hu.2⟩ (fun v1 h1 hl1 hk1 hm1 => ?_)
  obtain ⟨r, a1, rfl, rfl, Wq⟩ := hk1
  refine xe_aload_n dL_law_605 rfl q_rvO ?_
  refine xe_aload_n dL_law_606 rfl q_rvA ?_
  refine xe_iload dL_law_607 rfl ?_
  refine xe_iconst 1 dL_law_609 (by decide) ?_
  refine xe_iadd dL_law_610 ?_
  refine xe_sld hXL dL_law_611 (hj 1 (by decide)) ?_
  refine xe_aload_n dL_law_612 rfl q_rvA ?_
  refine xe_iload dL_law_613 rfl ?_
  refine xe_iconst 2 dL_law_615 (by decide) ?_
  refine xe_iadd dL_law_616 ?_
  refine xe_sld hXL dL_law_617 (hj 2 (by decide)) ?_
  refine xe_cv (y' := mX11_best) dL_law_618 (Or.inl lL_63) tX11_best rfl rfl (ct_X11_best hS Wq) rfl rfl (Nat.le_of_ble_eq_true rfl) ⟨Nat.le_of_ble_eq_true rfl, Nat.le_of_ble_eq_true rfl⟩ ⟨hu.1, hu.2⟩ (fun v1 h1 hl1 hk1 hm1 => ?_)
  obtain ⟨r', a2, rfl, rfl, he, Wq⟩ := hk1
  refine xe_ic_eq 1040 dL_law_621 (by decide) (fun c9 => ?_) (fun c9 => absurd he c9)
  exact hN _ Wq
set_option maxHeartbeats 4000000 in
theorem lw_c10 {g : q_G} {K : List q_V → q_H → Prop} {u : Nat × Nat} {sb L : Nat} {xs : Nat → Int32} (hXL : q_gL g sb L xs) {t p : Nat} {s : q_S} {a : qa} (hS : q_Sh t p s) (hu : u.1 ≤ room_1.cells ∧ u.2 ≤ room_1.slots) {i : Int32} (hj : lw_in i L) {N : qa → Prop} (Wq : wp_X10_bestOf t p (xs (i + 1).toNatClampNeg) (xs (i + 2).toNatClampNeg) (xs (i + 3).toNatClampNeg) a (fun r a1 => wp_X11_bestOf t p (xs (i + 1).toNatClampNeg) (xs (i + 2).toNatClampNeg) (xs (i + 3).toNatClampNeg) a1 (fun r' a2 => r = r' ∧ N a2))) (hN : ∀ a2, N a2 → q_E g mL_law room_1 K u 1040 (lw_ls sb i) [] (a2, s)) : q_E g mL_law room_1 K u 626 (lw_ls sb i) [] (a, s) := by
  refine xe_aload_n dL_law_626 rfl q_rvO ?_
  refine xe_aload_n dL_law_627 rfl q_rvA ?_
  refine xe_iload dL_law_628 rfl ?_
  refine xe_iconst 1 dL_law_630 (by decide) ?_
  refine xe_iadd dL_law_631 ?_
  refine xe_sld hXL dL_law_632 (hj 1 (by decide)) ?_
  refine xe_aload_n dL_law_633 rfl q_rvA ?_
  refine xe_iload dL_law_634 rfl ?_
  refine xe_iconst 2 dL_law_636 (by decide) ?_
  refine xe_iadd dL_law_637 ?_
  refine xe_sld hXL dL_law_638 (hj 2 (by decide)) ?_
  refine xe_aload_n dL_law_639 rfl q_rvA ?_
  refine xe_iload dL_law_640 rfl ?_
  refine xe_iconst 3 dL_law_642 (by decide) ?_
  refine xe_iadd dL_law_643 ?_
  refine xe_sld hXL dL_law_644 (hj 3 (by decide)) ?_
  refine xe_cv (y' := mX10_bestOf) dL_law_645 (Or.inl lL_64) tX10_bestOf rfl rfl (ct_X10_bestOf hS Wq) rfl rfl (Nat.le_of_ble_eq_true rfl) ⟨Nat.le_of_ble_eq_true rfl, Nat.le_of_ble_eq_true rfl⟩ ⟨hu.1, hu.2⟩ (fun v1 h1 hl1 hk1 hm1 => ?_)
  obtain ⟨r, a1, rfl, rfl, Wq⟩ := hk1
  refine xe_aload_n dL_law_648 rfl q_rvO ?_
  refine xe_aload_n dL_law_649 rfl q_rvA ?_
  refine xe_iload dL_law_650 rfl ?_
  refine xe_iconst 1 dL_law_652 (by decide) ?_
  refine xe_iadd dL_law_653 ?_
  refine xe_sld hXL dL_law_654 (hj 1 (by decide)) ?_
  refine xe_aload_n dL_law_655 rfl q_rvA ?_
  refine xe_iload dL_law_656 rfl ?_
  refine xe_iconst 2 dL_law_658 (by decide) ?_
  refine xe_iadd dL_law_659 ?_
  refine xe_sld hXL dL_law_660 (hj 2 (by decide)) ?_
  refine xe_aload_n dL_law_661 rfl q_rvA ?_
  refine xe_iload dL_law_662 rfl ?_
  refine xe_iconst 3 dL_law_664 (by decide) ?_
  refine xe_iadd dL_law_665 ?_
  refine xe_sld hXL dL_law_666 (hj 3 (by decide)) ?_
  refine xe_cv (y' := mX11_bestOf) dL_law_667 (Or.inl lL_67) tX11_bestOf rfl rfl (ct_X11_bestOf hS Wq) rfl rfl (Nat.le_of_ble_eq_true rfl) ⟨Nat.le_of_ble_eq_true rfl, Nat.le_of_ble_eq_true rfl⟩ ⟨hu.1, hu.2⟩ (fun v1 h1 hl1 hk1 hm1 => ?_)
  obtain ⟨r', a2, rfl, rfl, he, Wq⟩ := hk1
  refine xe_ic_eq 1040 dL_law_670 (by decide) (fun c9 => ?_) (fun c9 => absurd he c9)
  exact hN _ Wq
set_option maxHeartbeats 4000000 in
theorem lw_c11 {g : q_G} {K : List q_V → q_H → Prop} {u : Nat × Nat} {sb L : Nat} {xs : Nat → Int32} (hXL : q_gL g sb L xs) {t p : Nat} {s : q_S} {a : qa} (hS : q_Sh t p s) (hu : u.1 ≤ room_1.cells ∧ u.2 ≤ room_1.slots) {i : Int32} (hj : lw_in i L) {N : qa → Prop} (Wq : wp_X10_feed t p (xs (i + 1).toNatClampNeg) (xs (i + 2).toNatClampNeg) (xs (i + 3).toNatClampNeg) (xs (i + 4).toNatClampNeg) (xs (i + 5).toNatClampNeg) a (fun r a1 => wp_X11_feed t p (xs (i + 1).toNatClampNeg) (xs (i + 2).toNatClampNeg) (xs (i + 3).toNatClampNeg) (xs (i + 4).toNatClampNeg) (xs (i + 5).toNatClampNeg) a1 (fun r' a2 => r = r' ∧ N a2))) (hN : ∀ a2, N a2 → q_E g mL_law room_1 K u 1040 (lw_ls sb i) [] (a2, s)) : q_E g mL_law room_1 K u 675 (lw_ls sb i) [] (a, s) := by
  refine xe_aload_n dL_law_675 rfl q_rvO ?_
  refine xe_aload_n dL_law_676 rfl q_rvA ?_
  refine xe_iload dL_law_677 rfl ?_
  refine xe_iconst 1 dL_law_679 (by decide) ?_
  refine xe_iadd dL_law_680 ?_
  refine xe_sld hXL dL_law_681 (hj 1 (by decide)) ?_
  refine xe_aload_n dL_law_682 rfl q_rvA ?_
  refine xe_iload dL_law_683 rfl ?_
  refine xe_iconst 2 dL_law_685 (by decide) ?_
  refine xe_iadd dL_law_686 ?_
  refine xe_sld hXL dL_law_687 (hj 2 (by decide)) ?_
  refine xe_aload_n dL_law_688 rfl q_rvA ?_
  refine xe_iload dL_law_689 rfl ?_
  refine xe_iconst 3 dL_law_691 (by decide) ?_
  refine xe_iadd dL_law_692 ?_
  refine xe_sld hXL dL_law_693 (hj 3 (by decide)) ?_
  refine xe_aload_n dL_law_694 rfl q_rvA ?_
  refine xe_iload dL_law_695 rfl ?_
  refine xe_iconst 4 dL_law_697 (by decide) ?_
  refine xe_iadd dL_law_698 ?_
  refine xe_sld hXL dL_law_699 (hj 4 (by decide)) ?_
  refine xe_aload_n dL_law_700 rfl q_rvA ?_
  refine xe_iload dL_law_701 rfl ?_
  refine xe_iconst 5 dL_law_703 (by decide) ?_
  refine xe_iadd dL_law_704 ?_
  refine xe_sld hXL dL_law_705 (hj 5 (by decide)) ?_
  refine xe_cv (y' := mX10_feed) dL_law_706 (Or.inl lL_68) tX10_feed rfl rfl (ct_X10_feed hS Wq) rfl rfl (Nat.le_of_ble_eq_true rfl) ⟨Nat.le_of_ble_eq_true rfl, Nat.le_of_ble_eq_true rfl⟩ ⟨hu.1, hu.2⟩ (fun v1 h1 hl1 hk1 hm1 => ?_)
  obtain ⟨r, a1, rfl, rfl, Wq⟩ := hk1
  refine xe_aload_n dL_law_709 rfl q_rvO ?_
  refine xe_aload_n dL_law_710 rfl q_rvA ?_
  refine xe_iload dL_law_711 rfl ?_
  refine xe_iconst 1 dL_law_713 (by decide) ?_
  refine xe_iadd dL_law_714 ?_
  refine xe_sld hXL dL_law_715 (hj 1 (by decide)) ?_
  refine xe_aload_n dL_law_716 rfl q_rvA ?_
  refine xe_iload dL_law_717 rfl ?_
  refine xe_iconst 2 dL_law_719 (by decide) ?_
  refine xe_iadd dL_law_720 ?_
  refine xe_sld hXL dL_law_721 (hj 2 (by decide)) ?_
  refine xe_aload_n dL_law_722 rfl q_rvA ?_
  refine xe_iload dL_law_723 rfl ?_
  refine xe_iconst 3 dL_law_725 (by decide) ?_
  refine xe_iadd dL_law_726 ?_
  refine xe_sld hXL dL_law_727 (hj 3 (by decide)) ?_
  refine xe_aload_n dL_law_728 rfl q_rvA ?_
  refine xe_iload dL_law_729 rfl ?_
  refine xe_iconst 4 dL_law_731 (by decide) ?_
  refine xe_iadd dL_law_732 ?_
  refine xe_sld hXL dL_law_733 (hj 4 (by decide)) ?_
  refine xe_aload_n dL_law_734 rfl q_rvA ?_
  refine xe_iload dL_law_735 rfl ?_
  refine xe_iconst 5 dL_law_737 (by decide) ?_
  refine xe_iadd dL_law_738 ?_
  refine xe_sld hXL dL_law_739 (hj 5 (by decide)) ?_
  refine xe_cv (y' := mX11_feed) dL_law_740 (Or.inl lL_72) tX11_feed rfl rfl (ct_X11_feed hS Wq) rfl rfl (Nat.le_of_ble_eq_true rfl) ⟨Nat.le_of_ble_eq_true rfl, Nat.le_of_ble_eq_true rfl⟩ ⟨hu.1, hu.2⟩ (fun v1 h1 hl1 hk1 hm1 => ?_)
  obtain ⟨r', a2, rfl, rfl, he, Wq⟩ := hk1
  refine xe_ic_eq 1040 dL_law_743 (by decide) (fun c9 => ?_) (fun c9 => absurd he c9)
  exact hN _ Wq
set_option maxHeartbeats 4000000 in
theorem lw_c12 {g : q_G} {K : List q_V → q_H → Prop} {u : Nat × Nat} {sb L : Nat} {xs : Nat → Int32} (hXL : q_gL g sb L xs) {t p : Nat} {s : q_S} {a : qa} (hS : q_Sh t p s) (hu : u.1 ≤ room_1.cells ∧ u.2 ≤ room_1.slots) {i : Int32} (hj : lw_in i L) {N : qa → Prop} (Wq : wp_X10_end t p (xs (i + 1).toNatClampNeg) a (fun r a1 => wp_X11_end t p (xs (i + 1).toNatClampNeg) a1 (fun r' a2 => r = r' ∧ N a2))) (hN : ∀ a2, N a2 → q_E g mL_law room_1 K u 1040 (lw_ls sb i) [] (a2, s)) : q_E g mL_law room_1 K u 748 (lw_ls sb i) [] (a, s) := by
  refine xe_aload_n dL_law_748 rfl q_rvO ?_
  refine xe_aload_n dL_law_749 rfl q_rvA ?_
  refine xe_iload dL_law_750 rfl ?_
  refine xe_iconst 1 dL_law_752 (by decide) ?_
  refine xe_iadd dL_law_753 ?_
  refine xe_sld hXL dL_law_754 (hj 1 (by decide)) ?_
  refine xe_cv (y' := mX10_end) dL_law_755 (Or.inl lL_73) tX10_end rfl rfl (ct_X10_end hS Wq) rfl rfl (Nat.le_of_ble_eq_true rfl) ⟨Nat.le_of_ble_eq_true rfl, Nat.le_of_ble_eq_true rfl⟩ ⟨hu.1, hu.2⟩ (fun v1 h1 hl1 hk1 hm1 => ?_)
  obtain ⟨r, a1, rfl, rfl, Wq⟩ := hk1
  refine xe_aload_n dL_law_758 rfl q_rvO ?_
  refine xe_aload_n dL_law_759 rfl q_rvA ?_
  refine xe_iload dL_law_760 rfl ?_
  refine xe_iconst 1 dL_law_762 (by decide) ?_
  refine xe_iadd dL_law_763 ?_
  refine xe_sld hXL dL_law_764 (hj 1 (by decide)) ?_
  refine xe_cv (y' := mX11_end) dL_law_765 (Or.inl lL_76) tX11_end rfl rfl (ct_X11_end hS Wq) rfl rfl (Nat.le_of_ble_eq_true rfl) ⟨Nat.le_of_ble_eq_true rfl, Nat.le_of_ble_eq_true rfl⟩ ⟨hu.1, hu.2⟩ (fun v1 h1 hl1 hk1 hm1 => ?_)
  obtain ⟨r', a2, rfl, rfl, he, Wq⟩ := hk1
  refine xe_ic_eq 1040 dL_law_768 (by decide) (fun c9 => ?_) (fun c9 => absurd he c9)
  exact hN _ Wq
set_option maxHeartbeats 4000000 in
theorem lw_c13 {g : q_G} {K : List q_V → q_H → Prop} {u : Nat × Nat} {sb L : Nat} {xs : Nat → Int32} (hXL : q_gL g sb L xs) (hX : q_gX g) {t p : Nat} {s : q_S} {a : qa} (hS : q_Sh t p s) (hu : u.1 ≤ room_1.cells ∧ u.2 ≤ room_1.slots) {i : Int32} (hj : lw_in i L) {N : qa → Prop} (Wq : wp_X10_bargain t p  a (fun r a1 => wp_X11_bargain t p  a1 (fun r' a2 => r = r' ∧ N a2))) (hN : ∀ a2, N a2 → q_E g mL_law room_1 K u 1040 (lw_ls sb i) [] (a2, s)) : q_E g mL_law room_1 K u 773 (lw_ls sb i) [] (a, s) := by
  refine xe_aload_n dL_law_773 rfl q_rvO ?_
  refine xe_cv (y' := mX10_bargain) dL_law_774 (Or.inl lL_77) tX10_bargain rfl rfl (ct_X10_bargain hS hX Wq) rfl rfl (Nat.le_of_ble_eq_true rfl) ⟨Nat.le_of_ble_eq_true rfl, Nat.le_of_ble_eq_true rfl⟩ ⟨hu.1, hu.2⟩ (fun v1 h1 hl1 hk1 hm1 => ?_)
  obtain ⟨r, a1, rfl, rfl, Wq⟩ := hk1
  refine xe_aload_n dL_law_777 rfl q_rvO ?_
  refine xe_cv (y' := mX11_bargain) dL_law_778 (Or.inl lL_81) tX11_bargain rfl rfl (ct_X11_bargain hS hX Wq) rfl rfl (Nat.le_of_ble_eq_true rfl) ⟨Nat.le_of_ble_eq_true rfl, Nat.le_of_ble_eq_true rfl⟩ ⟨hu.1, hu.2⟩ (fun v1 h1 hl1 hk1 hm1 => ?_)
  obtain ⟨r', a2, rfl, rfl, he, Wq⟩ := hk1
  refine xe_ic_eq 1040 dL_law_781 (by decide) (fun c9 => ?_) (fun c9 => absurd he c9)
  exact hN _ Wq
set_option maxHeartbeats 4000000 in
theorem lw_c14 {g : q_G} {K : List q_V → q_H → Prop} {u : Nat × Nat} {sb L : Nat} {xs : Nat → Int32} (hXL : q_gL g sb L xs) {t p : Nat} {s : q_S} {a : qa} (hS : q_Sh t p s) (hu : u.1 ≤ room_1.cells ∧ u.2 ≤ room_1.slots) {i : Int32} (hj : lw_in i L) {N : qa → Prop} (Wq : wp_X10_place t p  a (fun r a1 => wp_X11_place t p  a1 (fun r' a2 => r = r' ∧ N a2))) (hN : ∀ a2, N a2 → q_E g mL_law room_1 K u 1040 (lw_ls sb i) [] (a2, s)) : q_E g mL_law room_1 K u 786 (lw_ls sb i) [] (a, s) := by
  refine xe_aload_n dL_law_786 rfl q_rvO ?_
  refine xe_cv (y' := mX10_place) dL_law_787 (Or.inl lL_82) tX10_place rfl rfl (ct_X10_place hS Wq) rfl rfl (Nat.le_of_ble_eq_true rfl) ⟨Nat.le_of_ble_eq_true rfl, Nat.le_of_ble_eq_true rfl⟩ ⟨hu.1, hu.2⟩ (fun v1 h1 hl1 hk1 hm1 => ?_)
  obtain ⟨r, a1, rfl, rfl, Wq⟩ := hk1
  refine xe_aload_n dL_law_790 rfl q_rvO ?_
  refine xe_cv (y' := mX11_place) dL_law_791 (Or.inl lL_85) tX11_place rfl rfl (ct_X11_place hS Wq) rfl rfl (Nat.le_of_ble_eq_true rfl) ⟨Nat.le_of_ble_eq_true rfl, Nat.le_of_ble_eq_true rfl⟩ ⟨hu.1, hu.2⟩ (fun v1 h1 hl1 hk1 hm1 => ?_)
  obtain ⟨r', a2, rfl, rfl, he, Wq⟩ := hk1
  refine xe_ic_eq 1040 dL_law_794 (by decide) (fun c9 => ?_) (fun c9 => absurd he c9)
  exact hN _ Wq
set_option maxHeartbeats 4000000 in
theorem lw_c15 {g : q_G} {K : List q_V → q_H → Prop} {u : Nat × Nat} {sb L : Nat} {xs : Nat → Int32} (hXL : q_gL g sb L xs) {t p : Nat} {s : q_S} {a : qa} (hS : q_Sh t p s) (hu : u.1 ≤ room_1.cells ∧ u.2 ≤ room_1.slots) {i : Int32} (hj : lw_in i L) {N : qa → Prop} (Wq : wp_X10_stringOf t p (xs (i + 1).toNatClampNeg) (xs (i + 2).toNatClampNeg) a (fun r a1 => wp_X11_stringOf t p (xs (i + 1).toNatClampNeg) (xs (i + 2).toNatClampNeg) a1 (fun r' a2 => r = r' ∧ N a2))) (hN : ∀ a2, N a2 → q_E g mL_law room_1 K u 1040 (lw_ls sb i) [] (a2, s)) : q_E g mL_law room_1 K u 799 (lw_ls sb i) [] (a, s) := by
  refine xe_aload_n dL_law_799 rfl q_rvO ?_
  refine xe_aload_n dL_law_800 rfl q_rvA ?_
  refine xe_iload dL_law_801 rfl ?_
  refine xe_iconst 1 dL_law_803 (by decide) ?_
  refine xe_iadd dL_law_804 ?_
  refine xe_sld hXL dL_law_805 (hj 1 (by decide)) ?_
  refine xe_aload_n dL_law_806 rfl q_rvA ?_
  refine xe_iload dL_law_807 rfl ?_
  refine xe_iconst 2 dL_law_809 (by decide) ?_
  refine xe_iadd dL_law_810 ?_
  refine xe_sld hXL dL_law_811 (hj 2 (by decide)) ?_
  refine xe_cv (y' := mX10_stringOf) dL_law_812 (Or.inl lL_86) tX10_stringOf rfl rfl (ct_X10_stringOf hS Wq) rfl rfl (Nat.le_of_ble_eq_true rfl) ⟨Nat.le_of_ble_eq_true rfl, Nat.le_of_ble_eq_true rfl⟩ ⟨hu.1, hu.2⟩ (fun v1 h1 hl1 hk1 hm1 => ?_)
  obtain ⟨r, a1, rfl, rfl, Wq⟩ := hk1
  refine xe_aload_n dL_law_815 rfl q_rvO ?_
  refine xe_aload_n dL_law_816 rfl q_rvA ?_
  refine xe_iload dL_law_817 rfl ?_
  refine xe_iconst 1 dL_law_819 (by decide) ?_
  refine xe_iadd dL_law_820 ?_
  refine xe_sld hXL dL_law_821 (hj 1 (by decide)) ?_
  refine xe_aload_n dL_law_822 rfl q_rvA ?_
  refine xe_iload dL_law_823 rfl ?_
  refine xe_iconst 2 dL_law_825 (by decide) ?_
  refine xe_iadd dL_law_826 ?_
  refine xe_sld hXL dL_law_827 (hj 2 (by decide)) ?_
  refine xe_cv (y' := mX11_stringOf) dL_law_828 (Or.inl lL_89) tX11_stringOf rfl rfl (ct_X11_stringOf hS Wq) rfl rfl (Nat.le_of_ble_eq_true rfl) ⟨Nat.le_of_ble_eq_true rfl, Nat.le_of_ble_eq_true rfl⟩ ⟨hu.1, hu.2⟩ (fun v1 h1 hl1 hk1 hm1 => ?_)
  obtain ⟨r', a2, rfl, rfl, he, Wq⟩ := hk1
  refine xe_ic_eq 1040 dL_law_831 (by decide) (fun c9 => ?_) (fun c9 => absurd he c9)
  exact hN _ Wq
set_option maxHeartbeats 4000000 in
theorem lw_c16 {g : q_G} {K : List q_V → q_H → Prop} {u : Nat × Nat} {sb L : Nat} {xs : Nat → Int32} (hXL : q_gL g sb L xs) {t p : Nat} {s : q_S} {a : qa} (hS : q_Sh t p s) (hu : u.1 ≤ room_1.cells ∧ u.2 ≤ room_1.slots) {i : Int32} (hj : lw_in i L) {N : qa → Prop} (Wq : wp_X10_muleOf t p (xs (i + 1).toNatClampNeg) (xs (i + 2).toNatClampNeg) (xs (i + 3).toNatClampNeg) a (fun r a1 => wp_X11_muleOf t p (xs (i + 1).toNatClampNeg) (xs (i + 2).toNatClampNeg) (xs (i + 3).toNatClampNeg) a1 (fun r' a2 => r = r' ∧ N a2))) (hN : ∀ a2, N a2 → q_E g mL_law room_1 K u 1040 (lw_ls sb i) [] (a2, s)) : q_E g mL_law room_1 K u 836 (lw_ls sb i) [] (a, s) := by
  refine xe_aload_n dL_law_836 rfl q_rvO ?_
  refine xe_aload_n dL_law_837 rfl q_rvA ?_
  refine xe_iload dL_law_838 rfl ?_
  refine xe_iconst 1 dL_law_840 (by decide) ?_
  refine xe_iadd dL_law_841 ?_
  refine xe_sld hXL dL_law_842 (hj 1 (by decide)) ?_
  refine xe_aload_n dL_law_843 rfl q_rvA ?_
  refine xe_iload dL_law_844 rfl ?_
  refine xe_iconst 2 dL_law_846 (by decide) ?_
  refine xe_iadd dL_law_847 ?_
  refine xe_sld hXL dL_law_848 (hj 2 (by decide)) ?_
  refine xe_aload_n dL_law_849 rfl q_rvA ?_
  refine xe_iload dL_law_850 rfl ?_
  refine xe_iconst 3 dL_law_852 (by decide) ?_
  refine xe_iadd dL_law_853 ?_
  refine xe_sld hXL dL_law_854 (hj 3 (by decide)) ?_
  refine xe_cv (y' := mX10_muleOf) dL_law_855 (Or.inl lL_90) tX10_muleOf rfl rfl (ct_X10_muleOf hS Wq) rfl rfl (Nat.le_of_ble_eq_true rfl) ⟨Nat.le_of_ble_eq_true rfl, Nat.le_of_ble_eq_true rfl⟩ ⟨hu.1, hu.2⟩ (fun v1 h1 hl1 hk1 hm1 => ?_)
  obtain ⟨r, a1, rfl, rfl, Wq⟩ := hk1
  refine xe_aload_n dL_law_858 rfl q_rvO ?_
  refine xe_aload_n dL_law_859 rfl q_rvA ?_
  refine xe_iload dL_law_860 rfl ?_
  refine xe_iconst 1 dL_law_862 (by decide) ?_
  refine xe_iadd dL_law_863 ?_
  refine xe_sld hXL dL_law_864 (hj 1 (by decide)) ?_
  refine xe_aload_n dL_law_865 rfl q_rvA ?_
  refine xe_iload dL_law_866 rfl ?_
  refine xe_iconst 2 dL_law_868 (by decide) ?_
  refine xe_iadd dL_law_869 ?_
  refine xe_sld hXL dL_law_870 (hj 2 (by decide)) ?_
  refine xe_aload_n dL_law_871 rfl q_rvA ?_
  refine xe_iload dL_law_872 rfl ?_
  refine xe_iconst 3 dL_law_874 (by decide) ?_
  refine xe_iadd dL_law_875 ?_
  refine xe_sld hXL dL_law_876 (hj 3 (by decide)) ?_
  refine xe_cv (y' := mX11_muleOf) dL_law_877 (Or.inl lL_93) tX11_muleOf rfl rfl (ct_X11_muleOf hS Wq) rfl rfl (Nat.le_of_ble_eq_true rfl) ⟨Nat.le_of_ble_eq_true rfl, Nat.le_of_ble_eq_true rfl⟩ ⟨hu.1, hu.2⟩ (fun v1 h1 hl1 hk1 hm1 => ?_)
  obtain ⟨r', a2, rfl, rfl, he, Wq⟩ := hk1
  refine xe_ic_eq 1040 dL_law_880 (by decide) (fun c9 => ?_) (fun c9 => absurd he c9)
  exact hN _ Wq
set_option maxHeartbeats 4000000 in
theorem lw_c17 {g : q_G} {K : List q_V → q_H → Prop} {u : Nat × Nat} {sb L : Nat} {xs : Nat → Int32} (hXL : q_gL g sb L xs) {t p : Nat} {s : q_S} {a : qa} (hS : q_Sh t p s) (hu : u.1 ≤ room_1.cells ∧ u.2 ≤ room_1.slots) {i : Int32} (hj : lw_in i L) {N : qa → Prop} (Wq : wp_X10_of t p (xs (i + 1).toNatClampNeg) (xs (i + 2).toNatClampNeg) a (fun r a1 => wp_X11_of t p (xs (i + 1).toNatClampNeg) (xs (i + 2).toNatClampNeg) a1 (fun r' a2 => r = r' ∧ N a2))) (hN : ∀ a2, N a2 → q_E g mL_law room_1 K u 1040 (lw_ls sb i) [] (a2, s)) : q_E g mL_law room_1 K u 885 (lw_ls sb i) [] (a, s) := by
  refine xe_aload_n dL_law_885 rfl q_rvO ?_
  refine xe_aload_n dL_law_886 rfl q_rvA ?_
  refine xe_iload dL_law_887 rfl ?_
  refine xe_iconst 1 dL_law_889 (by decide) ?_
  refine xe_iadd dL_law_890 ?_
  refine xe_sld hXL dL_law_891 (hj 1 (by decide)) ?_
  refine xe_aload_n dL_law_892 rfl q_rvA ?_
  refine xe_iload dL_law_893 rfl ?_
  refine xe_iconst 2 dL_law_895 (by decide) ?_
  refine xe_iadd dL_law_896 ?_
  refine xe_sld hXL dL_law_897 (hj 2 (by decide)) ?_
  refine xe_cv (y' := mX10_of) dL_law_898 (Or.inl lL_94) tX10_of rfl rfl (ct_X10_of hS Wq) rfl rfl (Nat.le_of_ble_eq_true rfl) ⟨Nat.le_of_ble_eq_true rfl, Nat.le_of_ble_eq_true rfl⟩ ⟨hu.1, hu.2⟩ (fun v1 h1 hl1 hk1 hm1 => ?_)
  obtain ⟨r, a1, rfl, rfl, Wq⟩ := hk1
  refine xe_aload_n dL_law_901 rfl q_rvO ?_
  refine xe_aload_n dL_law_902 rfl q_rvA ?_
  refine xe_iload dL_law_903 rfl ?_
  refine xe_iconst 1 dL_law_905 (by decide) ?_
  refine xe_iadd dL_law_906 ?_
  refine xe_sld hXL dL_law_907 (hj 1 (by decide)) ?_
  refine xe_aload_n dL_law_908 rfl q_rvA ?_
  refine xe_iload dL_law_909 rfl ?_
  refine xe_iconst 2 dL_law_911 (by decide) ?_
  refine xe_iadd dL_law_912 ?_
  refine xe_sld hXL dL_law_913 (hj 2 (by decide)) ?_
  refine xe_cv (y' := mX11_of) dL_law_914 (Or.inl lL_97) tX11_of rfl rfl (ct_X11_of hS Wq) rfl rfl (Nat.le_of_ble_eq_true rfl) ⟨Nat.le_of_ble_eq_true rfl, Nat.le_of_ble_eq_true rfl⟩ ⟨hu.1, hu.2⟩ (fun v1 h1 hl1 hk1 hm1 => ?_)
  obtain ⟨r', a2, rfl, rfl, he, Wq⟩ := hk1
  refine xe_ic_eq 1040 dL_law_917 (by decide) (fun c9 => ?_) (fun c9 => absurd he c9)
  exact hN _ Wq
set_option maxHeartbeats 4000000 in
theorem lw_c19 {g : q_G} {K : List q_V → q_H → Prop} {u : Nat × Nat} {sb L : Nat} {xs : Nat → Int32} (hXL : q_gL g sb L xs) {t p : Nat} {s : q_S} {a : qa} (hS : q_Sh t p s) (hu : u.1 ≤ room_1.cells ∧ u.2 ≤ room_1.slots) {i : Int32} (hj : lw_in i L) {N : qa → Prop} (Wq : wp_X10_was t p (xs (i + 1).toNatClampNeg) (xs (i + 2).toNatClampNeg) a (fun r a1 => wp_X11_was t p (xs (i + 1).toNatClampNeg) (xs (i + 2).toNatClampNeg) a1 (fun r' a2 => r = r' ∧ N a2))) (hN : ∀ a2, N a2 → q_E g mL_law room_1 K u 1040 (lw_ls sb i) [] (a2, s)) : q_E g mL_law room_1 K u 978 (lw_ls sb i) [] (a, s) := by
  refine xe_aload_n dL_law_978 rfl q_rvO ?_
  refine xe_aload_n dL_law_979 rfl q_rvA ?_
  refine xe_iload dL_law_980 rfl ?_
  refine xe_iconst 1 dL_law_982 (by decide) ?_
  refine xe_iadd dL_law_983 ?_
  refine xe_sld hXL dL_law_984 (hj 1 (by decide)) ?_
  refine xe_aload_n dL_law_985 rfl q_rvA ?_
  refine xe_iload dL_law_986 rfl ?_
  refine xe_iconst 2 dL_law_988 (by decide) ?_
  refine xe_iadd dL_law_989 ?_
  refine xe_sld hXL dL_law_990 (hj 2 (by decide)) ?_
  refine xe_cv (y' := mX10_was) dL_law_991 (Or.inl lL_107) tX10_was rfl rfl (ct_X10_was hS Wq) rfl rfl (Nat.le_of_ble_eq_true rfl) ⟨Nat.le_of_ble_eq_true rfl, Nat.le_of_ble_eq_true rfl⟩ ⟨hu.1, hu.2⟩ (fun v1 h1 hl1 hk1 hm1 => ?_)
  obtain ⟨r, a1, rfl, rfl, Wq⟩ := hk1
  refine xe_aload_n dL_law_994 rfl q_rvO ?_
  refine xe_aload_n dL_law_995 rfl q_rvA ?_
  refine xe_iload dL_law_996 rfl ?_
  refine xe_iconst 1 dL_law_998 (by decide) ?_
  refine xe_iadd dL_law_999 ?_
  refine xe_sld hXL dL_law_1000 (hj 1 (by decide)) ?_
  refine xe_aload_n dL_law_1001 rfl q_rvA ?_
  refine xe_iload dL_law_1002 rfl ?_
  refine xe_iconst 2 dL_law_1004 (by decide) ?_
  refine xe_iadd dL_law_1005 ?_
  refine xe_sld hXL dL_law_1006 (hj 2 (by decide)) ?_
  refine xe_cv (y' := mX11_was) dL_law_1007 (Or.inl lL_110) tX11_was rfl rfl (ct_X11_was hS Wq) rfl rfl (Nat.le_of_ble_eq_true rfl) ⟨Nat.le_of_ble_eq_true rfl, Nat.le_of_ble_eq_true rfl⟩ ⟨hu.1, hu.2⟩ (fun v1 h1 hl1 hk1 hm1 => ?_)
  obtain ⟨r', a2, rfl, rfl, he, Wq⟩ := hk1
  refine xe_ic_eq 1040 dL_law_1010 (by decide) (fun c9 => ?_) (fun c9 => absurd he c9)
  exact hN _ Wq
set_option maxHeartbeats 4000000 in
theorem lw_c20 {g : q_G} {K : List q_V → q_H → Prop} {u : Nat × Nat} {sb L : Nat} {xs : Nat → Int32} (hXL : q_gL g sb L xs) {t p : Nat} {s : q_S} {a : qa} (hS : q_Sh t p s) (hu : u.1 ≤ room_1.cells ∧ u.2 ≤ room_1.slots) {i : Int32} (hj : lw_in i L) {N : qa → Prop} (Wq : wp_X10_count t p (xs (i + 1).toNatClampNeg) a (fun r a1 => wp_X11_count t p (xs (i + 1).toNatClampNeg) a1 (fun r' a2 => r = r' ∧ N a2))) (hN : ∀ a2, N a2 → q_E g mL_law room_1 K u 1040 (lw_ls sb i) [] (a2, s)) : q_E g mL_law room_1 K u 1015 (lw_ls sb i) [] (a, s) := by
  refine xe_aload_n dL_law_1015 rfl q_rvO ?_
  refine xe_aload_n dL_law_1016 rfl q_rvA ?_
  refine xe_iload dL_law_1017 rfl ?_
  refine xe_iconst 1 dL_law_1019 (by decide) ?_
  refine xe_iadd dL_law_1020 ?_
  refine xe_sld hXL dL_law_1021 (hj 1 (by decide)) ?_
  refine xe_cv (y' := mX10_count) dL_law_1022 (Or.inl lL_111) tX10_count rfl rfl (ct_X10_count hS Wq) rfl rfl (Nat.le_of_ble_eq_true rfl) ⟨Nat.le_of_ble_eq_true rfl, Nat.le_of_ble_eq_true rfl⟩ ⟨hu.1, hu.2⟩ (fun v1 h1 hl1 hk1 hm1 => ?_)
  obtain ⟨r, a1, rfl, rfl, Wq⟩ := hk1
  refine xe_aload_n dL_law_1025 rfl q_rvO ?_
  refine xe_aload_n dL_law_1026 rfl q_rvA ?_
  refine xe_iload dL_law_1027 rfl ?_
  refine xe_iconst 1 dL_law_1029 (by decide) ?_
  refine xe_iadd dL_law_1030 ?_
  refine xe_sld hXL dL_law_1031 (hj 1 (by decide)) ?_
  refine xe_cv (y' := mX11_count) dL_law_1032 (Or.inl lL_114) tX11_count rfl rfl (ct_X11_count hS Wq) rfl rfl (Nat.le_of_ble_eq_true rfl) ⟨Nat.le_of_ble_eq_true rfl, Nat.le_of_ble_eq_true rfl⟩ ⟨hu.1, hu.2⟩ (fun v1 h1 hl1 hk1 hm1 => ?_)
  obtain ⟨r', a2, rfl, rfl, he, Wq⟩ := hk1
  refine xe_ic_eq 1040 dL_law_1035 (by decide) (fun c9 => ?_) (fun c9 => absurd he c9)
  exact hN _ Wq
