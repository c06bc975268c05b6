/-! the law's cases: from a call's first place to the next round -/
def lLV (t : Nat) : List (Nat × mw_V) := [(0, .inr (.inr 1000)), (1, .inr (.inr 0)), (2, .inr (.inr 69)), (3, .inr (.inr 91)), (4, .inl (nI (3 + 6 * t)))]
section LAW
variable {p : Program} {l : Launch} {e : Env} {s : State} {m : MethodId} {args : Array Value} {below : List Frame} {meth : Method} {c : Code} {Q : State → Prop} {cells slots : Nat}
variable {b0 : Cond} {D : va_G} {cA : Nat → ClassId} {A : Nat → Prop} {ad : Nat → Nat} {b L t : Nat} {xs : Nat → Int32} {S : mw_S} {σ τ : aS} {cn fv : Int32} {fy : Nat}
def x3w (a b : Int32) : Int64 := a.toInt64 <<< ((nI 32).toInt64 &&& 63) ||| b.toInt64 &&& 4294967295
set_option maxHeartbeats 4000000 in
set_option maxRecDepth 100000 in
theorem law_transfer (C : mw_C p m c s args code 7 "WaveLedgerLaw" b0 lw_tbl D vCl cA A ad 92 true) (hX : va_X b L xs s s.heap) (hbl : b < s.heap.size) (hbA : ¬ A b) (hkb : ad 1000 = b) (hi : 3 + 6 * t + 6 ≤ L) (hL : L < 2 ^ 31) (hc : cells + 1 ≤ room_1.cells ∧ slots + 6 ≤ room_1.slots) (hZ : mh_X s.heap.size s) (hA : ∀ q, A q → s.heap.size ≤ q) {kk z : Nat} {pH pM : Int32 → mw_S → Prop} (hm : mR cn fv σ (mw_rs S ixM)) (hkk : kk ≤ 2) (h00 : τ.1 0 0 = kk) (hH : mh_M l lw_tbl y_La_transfer b_La_transfer 7 (some .int) [(0, 14, 17, 13), (0, 14, 21, 15)] { frames := 7, cells := 1, slots := 6, locals := 107 } D vCl cA sh_He 70 [.inr (.inr 0), .inl (xs (3 + 6 * t + 1)), .inl (xs (3 + 6 * t + 2)), .inl (xs (3 + 6 * t + 3)), .inl (xs (3 + 6 * t + 4)), .inr (.inr 69)] (mw_rs S ixH) s.heap.size (mw_Pi pH)) (hpH : ∀ r S', pH r S' → r = nI kk ∧ (kk = 0 → S'.2 69 0 = (nI z).toInt64) ∧ cR cn fy τ S') (hM : ∀ S', mR cn fv σ S' → mw_M true l lw_tbl y_Mo_transfer b_Mo_transfer 5 (some .int) { frames := 2, cells := 0, slots := 0, locals := 42 } D vCl cA sh_Mo 22 [.inr (.inr 0), .inl (xs (3 + 6 * t + 1)), .inl (xs (3 + 6 * t + 2)), .inl (xs (3 + 6 * t + 3)), .inl (xs (3 + 6 * t + 4))] S' (mw_Pi pM)) (hpM : ∀ r S', pM r S' → r = nI z ∧ mR cn fv τ S') (next : ∀ S', cR cn fy τ (mw_rs S' ixW) → mR cn fv τ (mw_rs S' ixM) → mw p l e room_1 s m args below meth c Q (cells + 1) (slots + 6) D vCl cA A ad sh_La 92 7 733 (lLV t) [] S') : mw p l e room_1 s m args below meth c Q cells slots D vCl cA A ad sh_La 92 7 132 (lLV t) [] S := by
  refine mw_aload_n C 1 d_La_law_132 rfl rfl ?_
  refine mw_aload_n C 0 d_La_law_133 rfl rfl ?_
  refine mw_iload C d_La_law_134 rfl ?_
  refine mw_iconst C (v := nI 1) d_La_law_136 (by decide) ?_
  refine mw_iaddN C d_La_law_137 ?_
  refine mw_sld C hX hbl hbA hkb (by omega) hL d_La_law_138 ?_
  refine mw_aload_n C 0 d_La_law_139 rfl rfl ?_
  refine mw_iload C d_La_law_140 rfl ?_
  refine mw_iconst C (v := nI 2) d_La_law_142 (by decide) ?_
  refine mw_iaddN C d_La_law_143 ?_
  refine mw_sld C hX hbl hbA hkb (by omega) hL d_La_law_144 ?_
  refine mw_aload_n C 0 d_La_law_145 rfl rfl ?_
  refine mw_iload C d_La_law_146 rfl ?_
  refine mw_iconst C (v := nI 3) d_La_law_148 (by decide) ?_
  refine mw_iaddN C d_La_law_149 ?_
  refine mw_sld C hX hbl hbA hkb (by omega) hL d_La_law_150 ?_
  refine mw_aload_n C 0 d_La_law_151 rfl rfl ?_
  refine mw_iload C d_La_law_152 rfl ?_
  refine mw_iconst C (v := nI 4) d_La_law_154 (by decide) ?_
  refine mw_iaddN C d_La_law_155 ?_
  refine mw_sld C hX hbl hbA hkb (by omega) hL d_La_law_156 ?_
  refine mw_aload_n C 3 d_La_law_157 rfl rfl ?_
  refine mh_callS C (ix := ixH) (np := 6) hH ix_H_La wcw_La_transfer wi_La (by decide +kernel) (mw_G_in 495 (by decide +kernel) rfl) ws_La_transfer d_La_law_158 rfl rfl (Nat.le_of_ble_eq_true rfl) rfl rfl ⟨by decide, by decide⟩ hc hZ (Nat.le_refl _) hA (fun r1 S1 e1 => ?_)
  obtain ⟨rfl, e1o, e1c⟩ := hpH r1 S1 e1
  refine mw_istore C d_La_law_161 (by decide) ?_
  refine mw_aload_n C 2 d_La_law_163 rfl rfl ?_
  refine mw_aload_n C 0 d_La_law_164 rfl rfl ?_
  refine mw_iload C d_La_law_165 rfl ?_
  refine mw_iconst C (v := nI 1) d_La_law_167 (by decide) ?_
  refine mw_iaddN C d_La_law_168 ?_
  refine mw_sld C hX hbl hbA hkb (by omega) hL d_La_law_169 ?_
  refine mw_aload_n C 0 d_La_law_170 rfl rfl ?_
  refine mw_iload C d_La_law_171 rfl ?_
  refine mw_iconst C (v := nI 2) d_La_law_173 (by decide) ?_
  refine mw_iaddN C d_La_law_174 ?_
  refine mw_sld C hX hbl hbA hkb (by omega) hL d_La_law_175 ?_
  refine mw_aload_n C 0 d_La_law_176 rfl rfl ?_
  refine mw_iload C d_La_law_177 rfl ?_
  refine mw_iconst C (v := nI 3) d_La_law_179 (by decide) ?_
  refine mw_iaddN C d_La_law_180 ?_
  refine mw_sld C hX hbl hbA hkb (by omega) hL d_La_law_181 ?_
  refine mw_aload_n C 0 d_La_law_182 rfl rfl ?_
  refine mw_iload C d_La_law_183 rfl ?_
  refine mw_iconst C (v := nI 4) d_La_law_185 (by decide) ?_
  refine mw_iaddN C d_La_law_186 ?_
  refine mw_sld C hX hbl hbA hkb (by omega) hL d_La_law_187 ?_
  refine mw_runi C ix_M_La rfl (mw_invV C (kk := 0) (hM _ (lM_H hm)) ix_M_La kb_La_44 wm_Mo_transfer wv_Mo_transfer (by decide) rfl rfl d_La_law_188 rfl rfl (Nat.le_of_ble_eq_true rfl) rfl rfl ⟨by decide, by decide⟩ hc) (fun r2 S2 e2 => ?_)
  obtain ⟨rfl, e2m⟩ := hpM r2 S2 e2
  refine mw_istore C d_La_law_191 (by decide) ?_
  refine mw_aload_n C 2 d_La_law_193 rfl rfl ?_
  refine mw_run0i C ix_M_La (mw_invV C (kk := 0) (m_Mo_thrown l D cA cn fv τ _ (lM_M e2m)) ix_M_La kb_La_45 wm_Mo_thrown wv_Mo_thrown (by decide) rfl rfl d_La_law_194 rfl rfl (Nat.le_of_ble_eq_true rfl) rfl rfl ⟨by decide, by decide⟩ hc) (fun r3 e3 => ?_)
  rw [h00] at e3
  subst e3
  refine mw_iload C d_La_law_197 rfl ?_
  refine mw_icmp_eq C 204 d_La_law_199 (by decide) (fun _ => ?_) (fun h9 => absurd rfl h9)
  refine mw_iload C d_La_law_204 rfl ?_
  have done : mw p l e room_1 s m args below meth c Q (cells + 1) (slots + 6) D vCl cA A ad sh_La 92 7 221 (mw_s1 (mw_s1 (lLV t) 5 (.inl (nI kk))) 6 (.inl (nI z))) [] (mw_mg (mw_mg S ixH S1) ixM S2) := by
    refine mw_goto C 733 d_La_law_221 (by decide) ?_
    refine mw_to (lLV t) (by exact And.intro rfl (And.intro rfl (And.intro rfl (And.intro rfl (And.intro rfl trivial))))) ?_
    exact next _ (lW_M (lW_H e1c)) (lM_M e2m)
  refine mw_if_ne C 221 d_La_law_206 (by decide) (fun _ => done) (fun h9 => ?_)
  have hk0 : kk = 0 := by
    have h3 : kk = 0 ∨ kk = 1 ∨ kk = 2 := by omega
    rcases h3 with rfl | rfl | rfl
    · rfl
    · exact absurd h9 (by decide)
    · exact absurd h9 (by decide)
  refine mw_aload_n C 3 d_La_law_209 rfl rfl ?_
  refine mw_iconst C (v := nI 0) d_La_law_210 (by decide) ?_
  refine mw_laldN C d_La_law_211 (by decide) rfl (by omega) (by decide) ?_
  refine mw_iload C d_La_law_212 rfl ?_
  refine mw_i2l C d_La_law_214 ?_
  refine mw_lcmp C d_La_law_215 ?_
  refine mw_if_eq C 221 d_La_law_216 (by decide) (fun _ => done) (fun h8 => absurd ?_ h8)
  show lg_cmp ((mw_mg (mw_mg S ixH S1) ixM S2).2 91 0) (nI z).toInt64 = 0
  rw [o_91, e1o hk0, cmp_self]
set_option maxHeartbeats 4000000 in
set_option maxRecDepth 100000 in
theorem law_run (C : mw_C p m c s args code 7 "WaveLedgerLaw" b0 lw_tbl D vCl cA A ad 92 true) (hX : va_X b L xs s s.heap) (hbl : b < s.heap.size) (hbA : ¬ A b) (hkb : ad 1000 = b) (hi : 3 + 6 * t + 6 ≤ L) (hL : L < 2 ^ 31) (hc : cells + 1 ≤ room_1.cells ∧ slots + 6 ≤ room_1.slots) (hZ : mh_X s.heap.size s) (hA : ∀ q, A q → s.heap.size ≤ q) {kk z : Nat} {pH pM : Int32 → mw_S → Prop} (hm : mR cn fv σ (mw_rs S ixM)) (hkk : kk ≤ 2) (h00 : τ.1 0 0 = kk) (hH : mh_M l lw_tbl y_La_run b_La_run 4 (some .int) [(0, 9, 12, 13)] { frames := 7, cells := 1, slots := 6, locals := 170 } D vCl cA sh_He 70 [.inr (.inr 0), .inl (xs (3 + 6 * t + 1)), .inr (.inr 69)] (mw_rs S ixH) s.heap.size (mw_Pi pH)) (hpH : ∀ r S', pH r S' → r = nI kk ∧ (kk = 0 → S'.2 69 0 = (nI z).toInt64) ∧ cR cn fy τ S') (hM : ∀ S', mR cn fv σ S' → mw_M true l lw_tbl y_Mo_run b_Mo_run 4 (some .int) { frames := 7, cells := 0, slots := 0, locals := 168 } D vCl cA sh_Mo 22 [.inr (.inr 0), .inl (xs (3 + 6 * t + 1))] S' (mw_Pi pM)) (hpM : ∀ r S', pM r S' → r = nI z ∧ mR cn fv τ S') (next : ∀ S', cR cn fy τ (mw_rs S' ixW) → mR cn fv τ (mw_rs S' ixM) → mw p l e room_1 s m args below meth c Q (cells + 1) (slots + 6) D vCl cA A ad sh_La 92 7 733 (lLV t) [] S') : mw p l e room_1 s m args below meth c Q cells slots D vCl cA A ad sh_La 92 7 237 (lLV t) [] S := by
  refine mw_aload_n C 1 d_La_law_237 rfl rfl ?_
  refine mw_aload_n C 0 d_La_law_238 rfl rfl ?_
  refine mw_iload C d_La_law_239 rfl ?_
  refine mw_iconst C (v := nI 1) d_La_law_241 (by decide) ?_
  refine mw_iaddN C d_La_law_242 ?_
  refine mw_sld C hX hbl hbA hkb (by omega) hL d_La_law_243 ?_
  refine mw_aload_n C 3 d_La_law_244 rfl rfl ?_
  refine mh_callS C (ix := ixH) (np := 3) hH ix_H_La wcw_La_run wi_La (by decide +kernel) (mw_G_in 599 (by decide +kernel) rfl) ws_La_run d_La_law_245 rfl rfl (Nat.le_of_ble_eq_true rfl) rfl rfl ⟨by decide, by decide⟩ hc hZ (Nat.le_refl _) hA (fun r1 S1 e1 => ?_)
  obtain ⟨rfl, e1o, e1c⟩ := hpH r1 S1 e1
  refine mw_istore C d_La_law_248 (by decide) ?_
  refine mw_aload_n C 2 d_La_law_250 rfl rfl ?_
  refine mw_aload_n C 0 d_La_law_251 rfl rfl ?_
  refine mw_iload C d_La_law_252 rfl ?_
  refine mw_iconst C (v := nI 1) d_La_law_254 (by decide) ?_
  refine mw_iaddN C d_La_law_255 ?_
  refine mw_sld C hX hbl hbA hkb (by omega) hL d_La_law_256 ?_
  refine mw_runi C ix_M_La rfl (mw_invV C (kk := 0) (hM _ (lM_H hm)) ix_M_La kb_La_57 wm_Mo_run wv_Mo_run (by decide) rfl rfl d_La_law_257 rfl rfl (Nat.le_of_ble_eq_true rfl) rfl rfl ⟨by decide, by decide⟩ hc) (fun r2 S2 e2 => ?_)
  obtain ⟨rfl, e2m⟩ := hpM r2 S2 e2
  refine mw_istore C d_La_law_260 (by decide) ?_
  refine mw_aload_n C 2 d_La_law_262 rfl rfl ?_
  refine mw_run0i C ix_M_La (mw_invV C (kk := 0) (m_Mo_thrown l D cA cn fv τ _ (lM_M e2m)) ix_M_La kb_La_45 wm_Mo_thrown wv_Mo_thrown (by decide) rfl rfl d_La_law_263 rfl rfl (Nat.le_of_ble_eq_true rfl) rfl rfl ⟨by decide, by decide⟩ hc) (fun r3 e3 => ?_)
  rw [h00] at e3
  subst e3
  refine mw_iload C d_La_law_266 rfl ?_
  refine mw_icmp_eq C 273 d_La_law_268 (by decide) (fun _ => ?_) (fun h9 => absurd rfl h9)
  refine mw_iload C d_La_law_273 rfl ?_
  have done : mw p l e room_1 s m args below meth c Q (cells + 1) (slots + 6) D vCl cA A ad sh_La 92 7 290 (mw_s1 (mw_s1 (lLV t) 5 (.inl (nI kk))) 6 (.inl (nI z))) [] (mw_mg (mw_mg S ixH S1) ixM S2) := by
    refine mw_goto C 733 d_La_law_290 (by decide) ?_
    refine mw_to (lLV t) (by exact And.intro rfl (And.intro rfl (And.intro rfl (And.intro rfl (And.intro rfl trivial))))) ?_
    exact next _ (lW_M (lW_H e1c)) (lM_M e2m)
  refine mw_if_ne C 290 d_La_law_275 (by decide) (fun _ => done) (fun h9 => ?_)
  have hk0 : kk = 0 := by
    have h3 : kk = 0 ∨ kk = 1 ∨ kk = 2 := by omega
    rcases h3 with rfl | rfl | rfl
    · rfl
    · exact absurd h9 (by decide)
    · exact absurd h9 (by decide)
  refine mw_aload_n C 3 d_La_law_278 rfl rfl ?_
  refine mw_iconst C (v := nI 0) d_La_law_279 (by decide) ?_
  refine mw_laldN C d_La_law_280 (by decide) rfl (by omega) (by decide) ?_
  refine mw_iload C d_La_law_281 rfl ?_
  refine mw_i2l C d_La_law_283 ?_
  refine mw_lcmp C d_La_law_284 ?_
  refine mw_if_eq C 290 d_La_law_285 (by decide) (fun _ => done) (fun h8 => absurd ?_ h8)
  show lg_cmp ((mw_mg (mw_mg S ixH S1) ixM S2).2 91 0) (nI z).toInt64 = 0
  rw [o_91, e1o hk0, cmp_self]
set_option maxHeartbeats 4000000 in
set_option maxRecDepth 100000 in
theorem law_forge (C : mw_C p m c s args code 7 "WaveLedgerLaw" b0 lw_tbl D vCl cA A ad 92 true) (hX : va_X b L xs s s.heap) (hbl : b < s.heap.size) (hbA : ¬ A b) (hkb : ad 1000 = b) (hi : 3 + 6 * t + 6 ≤ L) (hL : L < 2 ^ 31) (hc : cells + 1 ≤ room_1.cells ∧ slots + 6 ≤ room_1.slots) (hZ : mh_X s.heap.size s) (hA : ∀ q, A q → s.heap.size ≤ q) {kk z : Nat} {pH pM : Int32 → mw_S → Prop} (hm : mR cn fv σ (mw_rs S ixM)) (hkk : kk ≤ 2) (h00 : τ.1 0 0 = kk) (hH : mh_M l lw_tbl y_La_forge b_La_forge 8 (some .int) [(0, 14, 17, 13), (0, 14, 21, 15)] { frames := 7, cells := 1, slots := 6, locals := 107 } D vCl cA sh_He 70 [.inr (.inr 0), .inl (xs (3 + 6 * t + 1)), .inl (xs (3 + 6 * t + 2)), .inr (.inl (x3w (xs (3 + 6 * t + 3)) (xs (3 + 6 * t + 4)))), .inl (xs (3 + 6 * t + 5)), .inr (.inr 69)] (mw_rs S ixH) s.heap.size (mw_Pi pH)) (hpH : ∀ r S', pH r S' → r = nI kk ∧ (kk = 0 → S'.2 69 0 = (nI z).toInt64) ∧ cR cn fy τ S') (hM : ∀ S', mR cn fv σ S' → mw_M true l lw_tbl y_Mo_forge b_Mo_forge 7 (some .int) { frames := 2, cells := 0, slots := 0, locals := 42 } D vCl cA sh_Mo 22 [.inr (.inr 0), .inl (xs (3 + 6 * t + 1)), .inl (xs (3 + 6 * t + 2)), .inr (.inl (x3w (xs (3 + 6 * t + 3)) (xs (3 + 6 * t + 4)))), .inl (xs (3 + 6 * t + 5))] S' (mw_Pi pM)) (hpM : ∀ r S', pM r S' → r = nI z ∧ mR cn fv τ S') (next : ∀ S', cR cn fy τ (mw_rs S' ixW) → mR cn fv τ (mw_rs S' ixM) → mw p l e room_1 s m args below meth c Q (cells + 1) (slots + 6) D vCl cA A ad sh_La 92 7 733 (lLV t) [] S') : mw p l e room_1 s m args below meth c Q cells slots D vCl cA A ad sh_La 92 7 318 (lLV t) [] S := by
  refine mw_aload_n C 1 d_La_law_318 rfl rfl ?_
  refine mw_aload_n C 0 d_La_law_319 rfl rfl ?_
  refine mw_iload C d_La_law_320 rfl ?_
  refine mw_iconst C (v := nI 1) d_La_law_322 (by decide) ?_
  refine mw_iaddN C d_La_law_323 ?_
  refine mw_sld C hX hbl hbA hkb (by omega) hL d_La_law_324 ?_
  refine mw_aload_n C 0 d_La_law_325 rfl rfl ?_
  refine mw_iload C d_La_law_326 rfl ?_
  refine mw_iconst C (v := nI 2) d_La_law_328 (by decide) ?_
  refine mw_iaddN C d_La_law_329 ?_
  refine mw_sld C hX hbl hbA hkb (by omega) hL d_La_law_330 ?_
  refine mw_aload_n C 0 d_La_law_331 rfl rfl ?_
  refine mw_iload C d_La_law_332 rfl ?_
  refine mw_iconst C (v := nI 3) d_La_law_334 (by decide) ?_
  refine mw_iaddN C d_La_law_335 ?_
  refine mw_sld C hX hbl hbA hkb (by omega) hL d_La_law_336 ?_
  refine mw_i2l C d_La_law_337 ?_
  refine mw_bipush C (v := nI 32) d_La_law_338 (by decide) ?_
  refine mw_lshl C d_La_law_340 ?_
  refine mw_aload_n C 0 d_La_law_341 rfl rfl ?_
  refine mw_iload C d_La_law_342 rfl ?_
  refine mw_iconst C (v := nI 4) d_La_law_344 (by decide) ?_
  refine mw_iaddN C d_La_law_345 ?_
  refine mw_sld C hX hbl hbA hkb (by omega) hL d_La_law_346 ?_
  refine mw_i2l C d_La_law_347 ?_
  refine mw_ldc2 C kc_La_63 d_La_law_348 ?_
  refine mw_land C d_La_law_351 ?_
  refine mw_lor C d_La_law_352 ?_
  refine mw_aload_n C 0 d_La_law_353 rfl rfl ?_
  refine mw_iload C d_La_law_354 rfl ?_
  refine mw_iconst C (v := nI 5) d_La_law_356 (by decide) ?_
  refine mw_iaddN C d_La_law_357 ?_
  refine mw_sld C hX hbl hbA hkb (by omega) hL d_La_law_358 ?_
  refine mw_aload_n C 3 d_La_law_359 rfl rfl ?_
  refine mh_callS C (ix := ixH) (np := 6) hH ix_H_La wcw_La_forge wi_La (by decide +kernel) (mw_G_in 608 (by decide +kernel) rfl) ws_La_forge d_La_law_360 rfl rfl (Nat.le_of_ble_eq_true rfl) rfl rfl ⟨by decide, by decide⟩ hc hZ (Nat.le_refl _) hA (fun r1 S1 e1 => ?_)
  obtain ⟨rfl, e1o, e1c⟩ := hpH r1 S1 e1
  refine mw_istore C d_La_law_363 (by decide) ?_
  refine mw_aload_n C 2 d_La_law_365 rfl rfl ?_
  refine mw_aload_n C 0 d_La_law_366 rfl rfl ?_
  refine mw_iload C d_La_law_367 rfl ?_
  refine mw_iconst C (v := nI 1) d_La_law_369 (by decide) ?_
  refine mw_iaddN C d_La_law_370 ?_
  refine mw_sld C hX hbl hbA hkb (by omega) hL d_La_law_371 ?_
  refine mw_aload_n C 0 d_La_law_372 rfl rfl ?_
  refine mw_iload C d_La_law_373 rfl ?_
  refine mw_iconst C (v := nI 2) d_La_law_375 (by decide) ?_
  refine mw_iaddN C d_La_law_376 ?_
  refine mw_sld C hX hbl hbA hkb (by omega) hL d_La_law_377 ?_
  refine mw_aload_n C 0 d_La_law_378 rfl rfl ?_
  refine mw_iload C d_La_law_379 rfl ?_
  refine mw_iconst C (v := nI 3) d_La_law_381 (by decide) ?_
  refine mw_iaddN C d_La_law_382 ?_
  refine mw_sld C hX hbl hbA hkb (by omega) hL d_La_law_383 ?_
  refine mw_i2l C d_La_law_384 ?_
  refine mw_bipush C (v := nI 32) d_La_law_385 (by decide) ?_
  refine mw_lshl C d_La_law_387 ?_
  refine mw_aload_n C 0 d_La_law_388 rfl rfl ?_
  refine mw_iload C d_La_law_389 rfl ?_
  refine mw_iconst C (v := nI 4) d_La_law_391 (by decide) ?_
  refine mw_iaddN C d_La_law_392 ?_
  refine mw_sld C hX hbl hbA hkb (by omega) hL d_La_law_393 ?_
  refine mw_i2l C d_La_law_394 ?_
  refine mw_ldc2 C kc_La_63 d_La_law_395 ?_
  refine mw_land C d_La_law_398 ?_
  refine mw_lor C d_La_law_399 ?_
  refine mw_aload_n C 0 d_La_law_400 rfl rfl ?_
  refine mw_iload C d_La_law_401 rfl ?_
  refine mw_iconst C (v := nI 5) d_La_law_403 (by decide) ?_
  refine mw_iaddN C d_La_law_404 ?_
  refine mw_sld C hX hbl hbA hkb (by omega) hL d_La_law_405 ?_
  refine mw_runi C ix_M_La rfl (mw_invV C (kk := 0) (hM _ (lM_H hm)) ix_M_La kb_La_68 wm_Mo_forge wv_Mo_forge (by decide) rfl rfl d_La_law_406 rfl rfl (Nat.le_of_ble_eq_true rfl) rfl rfl ⟨by decide, by decide⟩ hc) (fun r2 S2 e2 => ?_)
  obtain ⟨rfl, e2m⟩ := hpM r2 S2 e2
  refine mw_istore C d_La_law_409 (by decide) ?_
  refine mw_aload_n C 2 d_La_law_411 rfl rfl ?_
  refine mw_run0i C ix_M_La (mw_invV C (kk := 0) (m_Mo_thrown l D cA cn fv τ _ (lM_M e2m)) ix_M_La kb_La_45 wm_Mo_thrown wv_Mo_thrown (by decide) rfl rfl d_La_law_412 rfl rfl (Nat.le_of_ble_eq_true rfl) rfl rfl ⟨by decide, by decide⟩ hc) (fun r3 e3 => ?_)
  rw [h00] at e3
  subst e3
  refine mw_iload C d_La_law_415 rfl ?_
  refine mw_icmp_eq C 422 d_La_law_417 (by decide) (fun _ => ?_) (fun h9 => absurd rfl h9)
  refine mw_iload C d_La_law_422 rfl ?_
  have done : mw p l e room_1 s m args below meth c Q (cells + 1) (slots + 6) D vCl cA A ad sh_La 92 7 439 (mw_s1 (mw_s1 (lLV t) 5 (.inl (nI kk))) 6 (.inl (nI z))) [] (mw_mg (mw_mg S ixH S1) ixM S2) := by
    refine mw_goto C 733 d_La_law_439 (by decide) ?_
    refine mw_to (lLV t) (by exact And.intro rfl (And.intro rfl (And.intro rfl (And.intro rfl (And.intro rfl trivial))))) ?_
    exact next _ (lW_M (lW_H e1c)) (lM_M e2m)
  refine mw_if_ne C 439 d_La_law_424 (by decide) (fun _ => done) (fun h9 => ?_)
  have hk0 : kk = 0 := by
    have h3 : kk = 0 ∨ kk = 1 ∨ kk = 2 := by omega
    rcases h3 with rfl | rfl | rfl
    · rfl
    · exact absurd h9 (by decide)
    · exact absurd h9 (by decide)
  refine mw_aload_n C 3 d_La_law_427 rfl rfl ?_
  refine mw_iconst C (v := nI 0) d_La_law_428 (by decide) ?_
  refine mw_laldN C d_La_law_429 (by decide) rfl (by omega) (by decide) ?_
  refine mw_iload C d_La_law_430 rfl ?_
  refine mw_i2l C d_La_law_432 ?_
  refine mw_lcmp C d_La_law_433 ?_
  refine mw_if_eq C 439 d_La_law_434 (by decide) (fun _ => done) (fun h8 => absurd ?_ h8)
  show lg_cmp ((mw_mg (mw_mg S ixH S1) ixM S2).2 91 0) (nI z).toInt64 = 0
  rw [o_91, e1o hk0, cmp_self]
set_option maxHeartbeats 4000000 in
set_option maxRecDepth 100000 in
theorem law_whisper (C : mw_C p m c s args code 7 "WaveLedgerLaw" b0 lw_tbl D vCl cA A ad 92 true) (hX : va_X b L xs s s.heap) (hbl : b < s.heap.size) (hbA : ¬ A b) (hkb : ad 1000 = b) (hi : 3 + 6 * t + 6 ≤ L) (hL : L < 2 ^ 31) (hc : cells + 1 ≤ room_1.cells ∧ slots + 6 ≤ room_1.slots) (hZ : mh_X s.heap.size s) (hA : ∀ q, A q → s.heap.size ≤ q) {kk z : Nat} {pH pM : Int32 → mw_S → Prop} (hm : mR cn fv σ (mw_rs S ixM)) (hkk : kk ≤ 2) (h00 : τ.1 0 0 = kk) (hH : mh_M l lw_tbl y_La_whisper b_La_whisper 6 (some .int) [(0, 12, 15, 13), (0, 12, 19, 15)] { frames := 7, cells := 1, slots := 6, locals := 105 } D vCl cA sh_He 70 [.inr (.inr 0), .inl (xs (3 + 6 * t + 1)), .inl (xs (3 + 6 * t + 2)), .inl (xs (3 + 6 * t + 3)), .inr (.inr 69)] (mw_rs S ixH) s.heap.size (mw_Pi pH)) (hpH : ∀ r S', pH r S' → r = nI kk ∧ (kk = 0 → S'.2 69 0 = (nI z).toInt64) ∧ cR cn fy τ S') (hM : ∀ S', mR cn fv σ S' → mw_M true l lw_tbl y_Mo_whisper b_Mo_whisper 4 (some .int) { frames := 3, cells := 0, slots := 0, locals := 65 } D vCl cA sh_Mo 22 [.inr (.inr 0), .inl (xs (3 + 6 * t + 1)), .inl (xs (3 + 6 * t + 2)), .inl (xs (3 + 6 * t + 3))] S' (mw_Pi pM)) (hpM : ∀ r S', pM r S' → r = nI z ∧ mR cn fv τ S') (next : ∀ S', cR cn fy τ (mw_rs S' ixW) → mR cn fv τ (mw_rs S' ixM) → mw p l e room_1 s m args below meth c Q (cells + 1) (slots + 6) D vCl cA A ad sh_La 92 7 733 (lLV t) [] S') : mw p l e room_1 s m args below meth c Q cells slots D vCl cA A ad sh_La 92 7 442 (lLV t) [] S := by
  refine mw_aload_n C 1 d_La_law_442 rfl rfl ?_
  refine mw_aload_n C 0 d_La_law_443 rfl rfl ?_
  refine mw_iload C d_La_law_444 rfl ?_
  refine mw_iconst C (v := nI 1) d_La_law_446 (by decide) ?_
  refine mw_iaddN C d_La_law_447 ?_
  refine mw_sld C hX hbl hbA hkb (by omega) hL d_La_law_448 ?_
  refine mw_aload_n C 0 d_La_law_449 rfl rfl ?_
  refine mw_iload C d_La_law_450 rfl ?_
  refine mw_iconst C (v := nI 2) d_La_law_452 (by decide) ?_
  refine mw_iaddN C d_La_law_453 ?_
  refine mw_sld C hX hbl hbA hkb (by omega) hL d_La_law_454 ?_
  refine mw_aload_n C 0 d_La_law_455 rfl rfl ?_
  refine mw_iload C d_La_law_456 rfl ?_
  refine mw_iconst C (v := nI 3) d_La_law_458 (by decide) ?_
  refine mw_iaddN C d_La_law_459 ?_
  refine mw_sld C hX hbl hbA hkb (by omega) hL d_La_law_460 ?_
  refine mw_aload_n C 3 d_La_law_461 rfl rfl ?_
  refine mh_callS C (ix := ixH) (np := 5) hH ix_H_La wcw_La_whisper wi_La (by decide +kernel) (mw_G_in 626 (by decide +kernel) rfl) ws_La_whisper d_La_law_462 rfl rfl (Nat.le_of_ble_eq_true rfl) rfl rfl ⟨by decide, by decide⟩ hc hZ (Nat.le_refl _) hA (fun r1 S1 e1 => ?_)
  obtain ⟨rfl, e1o, e1c⟩ := hpH r1 S1 e1
  refine mw_istore C d_La_law_465 (by decide) ?_
  refine mw_aload_n C 2 d_La_law_467 rfl rfl ?_
  refine mw_aload_n C 0 d_La_law_468 rfl rfl ?_
  refine mw_iload C d_La_law_469 rfl ?_
  refine mw_iconst C (v := nI 1) d_La_law_471 (by decide) ?_
  refine mw_iaddN C d_La_law_472 ?_
  refine mw_sld C hX hbl hbA hkb (by omega) hL d_La_law_473 ?_
  refine mw_aload_n C 0 d_La_law_474 rfl rfl ?_
  refine mw_iload C d_La_law_475 rfl ?_
  refine mw_iconst C (v := nI 2) d_La_law_477 (by decide) ?_
  refine mw_iaddN C d_La_law_478 ?_
  refine mw_sld C hX hbl hbA hkb (by omega) hL d_La_law_479 ?_
  refine mw_aload_n C 0 d_La_law_480 rfl rfl ?_
  refine mw_iload C d_La_law_481 rfl ?_
  refine mw_iconst C (v := nI 3) d_La_law_483 (by decide) ?_
  refine mw_iaddN C d_La_law_484 ?_
  refine mw_sld C hX hbl hbA hkb (by omega) hL d_La_law_485 ?_
  refine mw_runi C ix_M_La rfl (mw_invV C (kk := 0) (hM _ (lM_H hm)) ix_M_La kb_La_72 wm_Mo_whisper wv_Mo_whisper (by decide) rfl rfl d_La_law_486 rfl rfl (Nat.le_of_ble_eq_true rfl) rfl rfl ⟨by decide, by decide⟩ hc) (fun r2 S2 e2 => ?_)
  obtain ⟨rfl, e2m⟩ := hpM r2 S2 e2
  refine mw_istore C d_La_law_489 (by decide) ?_
  refine mw_aload_n C 2 d_La_law_491 rfl rfl ?_
  refine mw_run0i C ix_M_La (mw_invV C (kk := 0) (m_Mo_thrown l D cA cn fv τ _ (lM_M e2m)) ix_M_La kb_La_45 wm_Mo_thrown wv_Mo_thrown (by decide) rfl rfl d_La_law_492 rfl rfl (Nat.le_of_ble_eq_true rfl) rfl rfl ⟨by decide, by decide⟩ hc) (fun r3 e3 => ?_)
  rw [h00] at e3
  subst e3
  refine mw_iload C d_La_law_495 rfl ?_
  refine mw_icmp_eq C 502 d_La_law_497 (by decide) (fun _ => ?_) (fun h9 => absurd rfl h9)
  refine mw_iload C d_La_law_502 rfl ?_
  have done : mw p l e room_1 s m args below meth c Q (cells + 1) (slots + 6) D vCl cA A ad sh_La 92 7 519 (mw_s1 (mw_s1 (lLV t) 5 (.inl (nI kk))) 6 (.inl (nI z))) [] (mw_mg (mw_mg S ixH S1) ixM S2) := by
    refine mw_goto C 733 d_La_law_519 (by decide) ?_
    refine mw_to (lLV t) (by exact And.intro rfl (And.intro rfl (And.intro rfl (And.intro rfl (And.intro rfl trivial))))) ?_
    exact next _ (lW_M (lW_H e1c)) (lM_M e2m)
  refine mw_if_ne C 519 d_La_law_504 (by decide) (fun _ => done) (fun h9 => ?_)
  have hk0 : kk = 0 := by
    have h3 : kk = 0 ∨ kk = 1 ∨ kk = 2 := by omega
    rcases h3 with rfl | rfl | rfl
    · rfl
    · exact absurd h9 (by decide)
    · exact absurd h9 (by decide)
  refine mw_aload_n C 3 d_La_law_507 rfl rfl ?_
  refine mw_iconst C (v := nI 0) d_La_law_508 (by decide) ?_
  refine mw_laldN C d_La_law_509 (by decide) rfl (by omega) (by decide) ?_
  refine mw_iload C d_La_law_510 rfl ?_
  refine mw_i2l C d_La_law_512 ?_
  refine mw_lcmp C d_La_law_513 ?_
  refine mw_if_eq C 519 d_La_law_514 (by decide) (fun _ => done) (fun h8 => absurd ?_ h8)
  show lg_cmp ((mw_mg (mw_mg S ixH S1) ixM S2).2 91 0) (nI z).toInt64 = 0
  rw [o_91, e1o hk0, cmp_self]
set_option maxHeartbeats 4000000 in
set_option maxRecDepth 100000 in
theorem law_begin (C : mw_C p m c s args code 7 "WaveLedgerLaw" b0 lw_tbl D vCl cA A ad 92 true) (hX : va_X b L xs s s.heap) (hbl : b < s.heap.size) (hbA : ¬ A b) (hkb : ad 1000 = b) (hi : 3 + 6 * t + 6 ≤ L) (hL : L < 2 ^ 31) (hc : cells + 1 ≤ room_1.cells ∧ slots + 6 ≤ room_1.slots) (hm : mR cn fv σ (mw_rs S ixM)) {z : Int32} {pW pM : Int32 → mw_S → Prop} (hW : mw_M true l lw_tbl y_Wl_begin b_Wl_begin 2 (some .boolean) { frames := 5, cells := 0, slots := 0, locals := 123 } D vCl cA sh_Wl 69 [.inr (.inr 0)] (mw_rs S ixW) (mw_Pi pW)) (hpW : ∀ r S', pW r S' → r = z ∧ cR cn fy τ S') (hM : ∀ S', mR cn fv σ S' → mw_M true l lw_tbl y_Mo_begin b_Mo_begin 2 (some .boolean) { frames := 6, cells := 0, slots := 0, locals := 141 } D vCl cA sh_Mo 22 [.inr (.inr 0)] S' (mw_Pi pM)) (hpM : ∀ r S', pM r S' → r = z ∧ mR cn fv τ S') (next : ∀ S', cR cn fy τ (mw_rs S' ixW) → mR cn fv τ (mw_rs S' ixM) → mw p l e room_1 s m args below meth c Q (cells + 1) (slots + 6) D vCl cA A ad sh_La 92 7 733 (lLV t) [] S') : mw p l e room_1 s m args below meth c Q cells slots D vCl cA A ad sh_La 92 7 224 (lLV t) [] S := by
  refine mw_aload_n C 1 d_La_law_224 rfl rfl ?_
  refine mw_runi C ix_W_La rfl (mw_invV C (kk := 0) hW ix_W_La kb_La_49 wm_Wl_begin wv_Wl_begin (by decide) rfl rfl d_La_law_225 rfl rfl (Nat.le_of_ble_eq_true rfl) rfl rfl ⟨by decide, by decide⟩ ⟨by omega, by omega⟩) (fun r1 S1 e1 => ?_)
  obtain ⟨rfl, e1c⟩ := hpW r1 S1 e1
  refine mw_aload_n C 2 d_La_law_228 rfl rfl ?_
  refine mw_runi C ix_M_La rfl (mw_invV C (kk := 0) (hM _ (lM_W hm)) ix_M_La kb_La_53 wm_Mo_begin wv_Mo_begin (by decide) rfl rfl d_La_law_229 rfl rfl (Nat.le_of_ble_eq_true rfl) rfl rfl ⟨by decide, by decide⟩ ⟨by omega, by omega⟩) (fun r2 S2 e2 => ?_)
  obtain ⟨rfl, e2m⟩ := hpM r2 S2 e2
  refine mw_icmp_eq C 733 d_La_law_232 (by decide) (fun _ => ?_) (fun h8 => absurd rfl h8)
  refine mw_widen (Nat.le_succ cells) (Nat.le_add_right slots 6) ?_
  exact next _ (lW_M (lW_W e1c)) (lM_M e2m)
set_option maxHeartbeats 4000000 in
set_option maxRecDepth 100000 in
theorem law_deliver (C : mw_C p m c s args code 7 "WaveLedgerLaw" b0 lw_tbl D vCl cA A ad 92 true) (hX : va_X b L xs s s.heap) (hbl : b < s.heap.size) (hbA : ¬ A b) (hkb : ad 1000 = b) (hi : 3 + 6 * t + 6 ≤ L) (hL : L < 2 ^ 31) (hc : cells + 1 ≤ room_1.cells ∧ slots + 6 ≤ room_1.slots) (hm : mR cn fv σ (mw_rs S ixM)) {z : Int32} {pW pM : Int32 → mw_S → Prop} (hW : mw_M true l lw_tbl y_Wl_deliver b_Wl_deliver 2 (some .boolean) { frames := 6, cells := 0, slots := 0, locals := 148 } D vCl cA sh_Wl 69 [.inr (.inr 0), .inl (xs (3 + 6 * t + 1))] (mw_rs S ixW) (mw_Pi pW)) (hpW : ∀ r S', pW r S' → r = z ∧ cR cn fy τ S') (hM : ∀ S', mR cn fv σ S' → mw_M true l lw_tbl y_Mo_deliver b_Mo_deliver 2 (some .boolean) { frames := 7, cells := 0, slots := 0, locals := 168 } D vCl cA sh_Mo 22 [.inr (.inr 0), .inl (xs (3 + 6 * t + 1))] S' (mw_Pi pM)) (hpM : ∀ r S', pM r S' → r = z ∧ mR cn fv τ S') (next : ∀ S', cR cn fy τ (mw_rs S' ixW) → mR cn fv τ (mw_rs S' ixM) → mw p l e room_1 s m args below meth c Q (cells + 1) (slots + 6) D vCl cA A ad sh_La 92 7 733 (lLV t) [] S') : mw p l e room_1 s m args below meth c Q cells slots D vCl cA A ad sh_La 92 7 293 (lLV t) [] S := by
  refine mw_aload_n C 1 d_La_law_293 rfl rfl ?_
  refine mw_aload_n C 0 d_La_law_294 rfl rfl ?_
  refine mw_iload C d_La_law_295 rfl ?_
  refine mw_iconst C (v := nI 1) d_La_law_297 (by decide) ?_
  refine mw_iaddN C d_La_law_298 ?_
  refine mw_sld C hX hbl hbA hkb (by omega) hL d_La_law_299 ?_
  refine mw_runi C ix_W_La rfl (mw_invV C (kk := 0) hW ix_W_La kb_La_58 wm_Wl_deliver wv_Wl_deliver (by decide) rfl rfl d_La_law_300 rfl rfl (Nat.le_of_ble_eq_true rfl) rfl rfl ⟨by decide, by decide⟩ ⟨by omega, by omega⟩) (fun r1 S1 e1 => ?_)
  obtain ⟨rfl, e1c⟩ := hpW r1 S1 e1
  refine mw_aload_n C 2 d_La_law_303 rfl rfl ?_
  refine mw_aload_n C 0 d_La_law_304 rfl rfl ?_
  refine mw_iload C d_La_law_305 rfl ?_
  refine mw_iconst C (v := nI 1) d_La_law_307 (by decide) ?_
  refine mw_iaddN C d_La_law_308 ?_
  refine mw_sld C hX hbl hbA hkb (by omega) hL d_La_law_309 ?_
  refine mw_runi C ix_M_La rfl (mw_invV C (kk := 0) (hM _ (lM_W hm)) ix_M_La kb_La_62 wm_Mo_deliver wv_Mo_deliver (by decide) rfl rfl d_La_law_310 rfl rfl (Nat.le_of_ble_eq_true rfl) rfl rfl ⟨by decide, by decide⟩ ⟨by omega, by omega⟩) (fun r2 S2 e2 => ?_)
  obtain ⟨rfl, e2m⟩ := hpM r2 S2 e2
  refine mw_icmp_eq C 733 d_La_law_313 (by decide) (fun _ => ?_) (fun h8 => absurd rfl h8)
  refine mw_widen (Nat.le_succ cells) (Nat.le_add_right slots 6) ?_
  exact next _ (lW_M (lW_W e1c)) (lM_M e2m)
set_option maxHeartbeats 4000000 in
set_option maxRecDepth 100000 in
theorem law_message (C : mw_C p m c s args code 7 "WaveLedgerLaw" b0 lw_tbl D vCl cA A ad 92 true) (hX : va_X b L xs s s.heap) (hbl : b < s.heap.size) (hbA : ¬ A b) (hkb : ad 1000 = b) (hi : 3 + 6 * t + 6 ≤ L) (hL : L < 2 ^ 31) (hc : cells + 1 ≤ room_1.cells ∧ slots + 6 ≤ room_1.slots) (hm : mR cn fv σ (mw_rs S ixM)) {z : Int32} {pW : Int32 → Prop} {pM : Int32 → mw_S → Prop} (hw : cR cn fy τ (mw_rs S ixW)) (hW : mw_M false l lw_tbl y_Wl_message b_Wl_message 4 (some .int) { frames := 1, cells := 0, slots := 0, locals := 21 } D vCl cA sh_Wl 69 [.inr (.inr 0), .inl (xs (3 + 6 * t + 1)), .inl (xs (3 + 6 * t + 2))] (mw_rs S ixW) (mw_Pi (fun x _ => pW x))) (hpW : ∀ r, pW r → r = z) (hM : ∀ S', mR cn fv σ S' → mw_M true l lw_tbl y_Mo_message b_Mo_message 4 (some .int) { frames := 0, cells := 0, slots := 0, locals := 0 } D vCl cA sh_Mo 22 [.inr (.inr 0), .inl (xs (3 + 6 * t + 1)), .inl (xs (3 + 6 * t + 2))] S' (mw_Pi pM)) (hpM : ∀ r S', pM r S' → r = z ∧ mR cn fv τ S') (next : ∀ S', cR cn fy τ (mw_rs S' ixW) → mR cn fv τ (mw_rs S' ixM) → mw p l e room_1 s m args below meth c Q (cells + 1) (slots + 6) D vCl cA A ad sh_La 92 7 733 (lLV t) [] S') : mw p l e room_1 s m args below meth c Q cells slots D vCl cA A ad sh_La 92 7 522 (lLV t) [] S := by
  refine mw_aload_n C 1 d_La_law_522 rfl rfl ?_
  refine mw_aload_n C 0 d_La_law_523 rfl rfl ?_
  refine mw_iload C d_La_law_524 rfl ?_
  refine mw_iconst C (v := nI 1) d_La_law_526 (by decide) ?_
  refine mw_iaddN C d_La_law_527 ?_
  refine mw_sld C hX hbl hbA hkb (by omega) hL d_La_law_528 ?_
  refine mw_aload_n C 0 d_La_law_529 rfl rfl ?_
  refine mw_iload C d_La_law_530 rfl ?_
  refine mw_iconst C (v := nI 2) d_La_law_532 (by decide) ?_
  refine mw_iaddN C d_La_law_533 ?_
  refine mw_sld C hX hbl hbA hkb (by omega) hL d_La_law_534 ?_
  refine mw_run0i C ix_W_La (mw_invV C (kk := 0) hW ix_W_La kb_La_73 wm_Wl_message wv_Wl_message (by decide) rfl rfl d_La_law_535 rfl rfl (Nat.le_of_ble_eq_true rfl) rfl rfl ⟨by decide, by decide⟩ ⟨by omega, by omega⟩) (fun r1 e1 => ?_)
  have e1 := hpW r1 e1
  subst e1
  refine mw_aload_n C 2 d_La_law_538 rfl rfl ?_
  refine mw_aload_n C 0 d_La_law_539 rfl rfl ?_
  refine mw_iload C d_La_law_540 rfl ?_
  refine mw_iconst C (v := nI 1) d_La_law_542 (by decide) ?_
  refine mw_iaddN C d_La_law_543 ?_
  refine mw_sld C hX hbl hbA hkb (by omega) hL d_La_law_544 ?_
  refine mw_aload_n C 0 d_La_law_545 rfl rfl ?_
  refine mw_iload C d_La_law_546 rfl ?_
  refine mw_iconst C (v := nI 2) d_La_law_548 (by decide) ?_
  refine mw_iaddN C d_La_law_549 ?_
  refine mw_sld C hX hbl hbA hkb (by omega) hL d_La_law_550 ?_
  refine mw_runi C ix_M_La rfl (mw_invV C (kk := 0) (hM _ hm) ix_M_La kb_La_77 wm_Mo_message wv_Mo_message (by decide) rfl rfl d_La_law_551 rfl rfl (Nat.le_of_ble_eq_true rfl) rfl rfl ⟨by decide, by decide⟩ ⟨by omega, by omega⟩) (fun r2 S2 e2 => ?_)
  obtain ⟨rfl, e2m⟩ := hpM r2 S2 e2
  refine mw_icmp_eq C 733 d_La_law_554 (by decide) (fun _ => ?_) (fun h8 => absurd rfl h8)
  refine mw_widen (Nat.le_succ cells) (Nat.le_add_right slots 6) ?_
  exact next _ (lW_M hw) (lM_M e2m)
set_option maxHeartbeats 4000000 in
set_option maxRecDepth 100000 in
theorem law_vertex (C : mw_C p m c s args code 7 "WaveLedgerLaw" b0 lw_tbl D vCl cA A ad 92 true) (hX : va_X b L xs s s.heap) (hbl : b < s.heap.size) (hbA : ¬ A b) (hkb : ad 1000 = b) (hi : 3 + 6 * t + 6 ≤ L) (hL : L < 2 ^ 31) (hc : cells + 1 ≤ room_1.cells ∧ slots + 6 ≤ room_1.slots) (hm : mR cn fv σ (mw_rs S ixM)) {z : Int32} {pW : Int32 → Prop} {pM : Int32 → mw_S → Prop} (hw : cR cn fy τ (mw_rs S ixW)) (hW : mw_M false l lw_tbl y_Wl_vertex b_Wl_vertex 3 (some .int) { frames := 1, cells := 0, slots := 0, locals := 21 } D vCl cA sh_Wl 69 [.inr (.inr 0), .inl (xs (3 + 6 * t + 1)), .inl (xs (3 + 6 * t + 2))] (mw_rs S ixW) (mw_Pi (fun x _ => pW x))) (hpW : ∀ r, pW r → r = z) (hM : ∀ S', mR cn fv σ S' → mw_M true l lw_tbl y_Mo_vertex b_Mo_vertex 3 (some .int) { frames := 0, cells := 0, slots := 0, locals := 0 } D vCl cA sh_Mo 22 [.inr (.inr 0), .inl (xs (3 + 6 * t + 1)), .inl (xs (3 + 6 * t + 2))] S' (mw_Pi pM)) (hpM : ∀ r S', pM r S' → r = z ∧ mR cn fv τ S') (next : ∀ S', cR cn fy τ (mw_rs S' ixW) → mR cn fv τ (mw_rs S' ixM) → mw p l e room_1 s m args below meth c Q (cells + 1) (slots + 6) D vCl cA A ad sh_La 92 7 733 (lLV t) [] S') : mw p l e room_1 s m args below meth c Q cells slots D vCl cA A ad sh_La 92 7 559 (lLV t) [] S := by
  refine mw_aload_n C 1 d_La_law_559 rfl rfl ?_
  refine mw_aload_n C 0 d_La_law_560 rfl rfl ?_
  refine mw_iload C d_La_law_561 rfl ?_
  refine mw_iconst C (v := nI 1) d_La_law_563 (by decide) ?_
  refine mw_iaddN C d_La_law_564 ?_
  refine mw_sld C hX hbl hbA hkb (by omega) hL d_La_law_565 ?_
  refine mw_aload_n C 0 d_La_law_566 rfl rfl ?_
  refine mw_iload C d_La_law_567 rfl ?_
  refine mw_iconst C (v := nI 2) d_La_law_569 (by decide) ?_
  refine mw_iaddN C d_La_law_570 ?_
  refine mw_sld C hX hbl hbA hkb (by omega) hL d_La_law_571 ?_
  refine mw_run0i C ix_W_La (mw_invV C (kk := 0) hW ix_W_La kb_La_78 wm_Wl_vertex wv_Wl_vertex (by decide) rfl rfl d_La_law_572 rfl rfl (Nat.le_of_ble_eq_true rfl) rfl rfl ⟨by decide, by decide⟩ ⟨by omega, by omega⟩) (fun r1 e1 => ?_)
  have e1 := hpW r1 e1
  subst e1
  refine mw_aload_n C 2 d_La_law_575 rfl rfl ?_
  refine mw_aload_n C 0 d_La_law_576 rfl rfl ?_
  refine mw_iload C d_La_law_577 rfl ?_
  refine mw_iconst C (v := nI 1) d_La_law_579 (by decide) ?_
  refine mw_iaddN C d_La_law_580 ?_
  refine mw_sld C hX hbl hbA hkb (by omega) hL d_La_law_581 ?_
  refine mw_aload_n C 0 d_La_law_582 rfl rfl ?_
  refine mw_iload C d_La_law_583 rfl ?_
  refine mw_iconst C (v := nI 2) d_La_law_585 (by decide) ?_
  refine mw_iaddN C d_La_law_586 ?_
  refine mw_sld C hX hbl hbA hkb (by omega) hL d_La_law_587 ?_
  refine mw_runi C ix_M_La rfl (mw_invV C (kk := 0) (hM _ hm) ix_M_La kb_La_81 wm_Mo_vertex wv_Mo_vertex (by decide) rfl rfl d_La_law_588 rfl rfl (Nat.le_of_ble_eq_true rfl) rfl rfl ⟨by decide, by decide⟩ ⟨by omega, by omega⟩) (fun r2 S2 e2 => ?_)
  obtain ⟨rfl, e2m⟩ := hpM r2 S2 e2
  refine mw_icmp_eq C 733 d_La_law_591 (by decide) (fun _ => ?_) (fun h8 => absurd rfl h8)
  refine mw_widen (Nat.le_succ cells) (Nat.le_add_right slots 6) ?_
  exact next _ (lW_M hw) (lM_M e2m)
set_option maxHeartbeats 4000000 in
set_option maxRecDepth 100000 in
theorem law_weak (C : mw_C p m c s args code 7 "WaveLedgerLaw" b0 lw_tbl D vCl cA A ad 92 true) (hX : va_X b L xs s s.heap) (hbl : b < s.heap.size) (hbA : ¬ A b) (hkb : ad 1000 = b) (hi : 3 + 6 * t + 6 ≤ L) (hL : L < 2 ^ 31) (hc : cells + 1 ≤ room_1.cells ∧ slots + 6 ≤ room_1.slots) (hm : mR cn fv σ (mw_rs S ixM)) {z : Int64} {pW : Int64 → Prop} {pM : Int64 → mw_S → Prop} (hw : cR cn fy τ (mw_rs S ixW)) (hW : mw_M false l lw_tbl y_Wl_weak b_Wl_weak 2 (some .long) { frames := 1, cells := 0, slots := 0, locals := 21 } D vCl cA sh_Wl 69 [.inr (.inr 0), .inl (xs (3 + 6 * t + 1))] (mw_rs S ixW) (mw_Pl (fun x _ => pW x))) (hpW : ∀ r, pW r → r = z) (hM : ∀ S', mR cn fv σ S' → mw_M true l lw_tbl y_Mo_weak b_Mo_weak 2 (some .long) { frames := 0, cells := 0, slots := 0, locals := 0 } D vCl cA sh_Mo 22 [.inr (.inr 0), .inl (xs (3 + 6 * t + 1))] S' (mw_Pl pM)) (hpM : ∀ r S', pM r S' → r = z ∧ mR cn fv τ S') (next : ∀ S', cR cn fy τ (mw_rs S' ixW) → mR cn fv τ (mw_rs S' ixM) → mw p l e room_1 s m args below meth c Q (cells + 1) (slots + 6) D vCl cA A ad sh_La 92 7 733 (lLV t) [] S') : mw p l e room_1 s m args below meth c Q cells slots D vCl cA A ad sh_La 92 7 596 (lLV t) [] S := by
  refine mw_aload_n C 1 d_La_law_596 rfl rfl ?_
  refine mw_aload_n C 0 d_La_law_597 rfl rfl ?_
  refine mw_iload C d_La_law_598 rfl ?_
  refine mw_iconst C (v := nI 1) d_La_law_600 (by decide) ?_
  refine mw_iaddN C d_La_law_601 ?_
  refine mw_sld C hX hbl hbA hkb (by omega) hL d_La_law_602 ?_
  refine mw_run0l C ix_W_La (mw_invV C (kk := 0) hW ix_W_La kb_La_82 wm_Wl_weak wv_Wl_weak (by decide) rfl rfl d_La_law_603 rfl rfl (Nat.le_of_ble_eq_true rfl) rfl rfl ⟨by decide, by decide⟩ ⟨by omega, by omega⟩) (fun r1 e1 => ?_)
  have e1 := hpW r1 e1
  subst e1
  refine mw_aload_n C 2 d_La_law_606 rfl rfl ?_
  refine mw_aload_n C 0 d_La_law_607 rfl rfl ?_
  refine mw_iload C d_La_law_608 rfl ?_
  refine mw_iconst C (v := nI 1) d_La_law_610 (by decide) ?_
  refine mw_iaddN C d_La_law_611 ?_
  refine mw_sld C hX hbl hbA hkb (by omega) hL d_La_law_612 ?_
  refine mw_runl C ix_M_La rfl (mw_invV C (kk := 0) (hM _ hm) ix_M_La kb_La_86 wm_Mo_weak wv_Mo_weak (by decide) rfl rfl d_La_law_613 rfl rfl (Nat.le_of_ble_eq_true rfl) rfl rfl ⟨by decide, by decide⟩ ⟨by omega, by omega⟩) (fun r2 S2 e2 => ?_)
  obtain ⟨rfl, e2m⟩ := hpM r2 S2 e2
  refine mw_lcmp C d_La_law_616 ?_
  refine mw_if_eq C 733 d_La_law_617 (by decide) (fun _ => ?_) (fun h8 => absurd (cmp_self _) h8)
  refine mw_widen (Nat.le_succ cells) (Nat.le_add_right slots 6) ?_
  exact next _ (lW_M hw) (lM_M e2m)
set_option maxHeartbeats 4000000 in
set_option maxRecDepth 100000 in
theorem law_node (C : mw_C p m c s args code 7 "WaveLedgerLaw" b0 lw_tbl D vCl cA A ad 92 true) (hX : va_X b L xs s s.heap) (hbl : b < s.heap.size) (hbA : ¬ A b) (hkb : ad 1000 = b) (hi : 3 + 6 * t + 6 ≤ L) (hL : L < 2 ^ 31) (hc : cells + 1 ≤ room_1.cells ∧ slots + 6 ≤ room_1.slots) (hm : mR cn fv σ (mw_rs S ixM)) {z : Int32} {pW : Int32 → Prop} {pM : Int32 → mw_S → Prop} (hw : cR cn fy τ (mw_rs S ixW)) (hW : mw_M false l lw_tbl y_Wl_node b_Wl_node 4 (some .int) { frames := 1, cells := 0, slots := 0, locals := 21 } D vCl cA sh_Wl 69 [.inr (.inr 0), .inl (xs (3 + 6 * t + 1)), .inl (xs (3 + 6 * t + 2))] (mw_rs S ixW) (mw_Pi (fun x _ => pW x))) (hpW : ∀ r, pW r → r = z) (hM : ∀ S', mR cn fv σ S' → mw_M true l lw_tbl y_Mo_node b_Mo_node 3 (some .int) { frames := 2, cells := 0, slots := 0, locals := 41 } D vCl cA sh_Mo 22 [.inr (.inr 0), .inl (xs (3 + 6 * t + 1)), .inl (xs (3 + 6 * t + 2))] S' (mw_Pi pM)) (hpM : ∀ r S', pM r S' → r = z ∧ mR cn fv τ S') (next : ∀ S', cR cn fy τ (mw_rs S' ixW) → mR cn fv τ (mw_rs S' ixM) → mw p l e room_1 s m args below meth c Q (cells + 1) (slots + 6) D vCl cA A ad sh_La 92 7 733 (lLV t) [] S') : mw p l e room_1 s m args below meth c Q cells slots D vCl cA A ad sh_La 92 7 622 (lLV t) [] S := by
  refine mw_aload_n C 1 d_La_law_622 rfl rfl ?_
  refine mw_aload_n C 0 d_La_law_623 rfl rfl ?_
  refine mw_iload C d_La_law_624 rfl ?_
  refine mw_iconst C (v := nI 1) d_La_law_626 (by decide) ?_
  refine mw_iaddN C d_La_law_627 ?_
  refine mw_sld C hX hbl hbA hkb (by omega) hL d_La_law_628 ?_
  refine mw_aload_n C 0 d_La_law_629 rfl rfl ?_
  refine mw_iload C d_La_law_630 rfl ?_
  refine mw_iconst C (v := nI 2) d_La_law_632 (by decide) ?_
  refine mw_iaddN C d_La_law_633 ?_
  refine mw_sld C hX hbl hbA hkb (by omega) hL d_La_law_634 ?_
  refine mw_run0i C ix_W_La (mw_invV C (kk := 0) hW ix_W_La kb_La_87 wm_Wl_node wv_Wl_node (by decide) rfl rfl d_La_law_635 rfl rfl (Nat.le_of_ble_eq_true rfl) rfl rfl ⟨by decide, by decide⟩ ⟨by omega, by omega⟩) (fun r1 e1 => ?_)
  have e1 := hpW r1 e1
  subst e1
  refine mw_aload_n C 2 d_La_law_638 rfl rfl ?_
  refine mw_aload_n C 0 d_La_law_639 rfl rfl ?_
  refine mw_iload C d_La_law_640 rfl ?_
  refine mw_iconst C (v := nI 1) d_La_law_642 (by decide) ?_
  refine mw_iaddN C d_La_law_643 ?_
  refine mw_sld C hX hbl hbA hkb (by omega) hL d_La_law_644 ?_
  refine mw_aload_n C 0 d_La_law_645 rfl rfl ?_
  refine mw_iload C d_La_law_646 rfl ?_
  refine mw_iconst C (v := nI 2) d_La_law_648 (by decide) ?_
  refine mw_iaddN C d_La_law_649 ?_
  refine mw_sld C hX hbl hbA hkb (by omega) hL d_La_law_650 ?_
  refine mw_runi C ix_M_La rfl (mw_invV C (kk := 0) (hM _ hm) ix_M_La kb_La_90 wm_Mo_node wv_Mo_node (by decide) rfl rfl d_La_law_651 rfl rfl (Nat.le_of_ble_eq_true rfl) rfl rfl ⟨by decide, by decide⟩ ⟨by omega, by omega⟩) (fun r2 S2 e2 => ?_)
  obtain ⟨rfl, e2m⟩ := hpM r2 S2 e2
  refine mw_icmp_eq C 733 d_La_law_654 (by decide) (fun _ => ?_) (fun h8 => absurd rfl h8)
  refine mw_widen (Nat.le_succ cells) (Nat.le_add_right slots 6) ?_
  exact next _ (lW_M hw) (lM_M e2m)
set_option maxHeartbeats 4000000 in
set_option maxRecDepth 100000 in
theorem law_graph (C : mw_C p m c s args code 7 "WaveLedgerLaw" b0 lw_tbl D vCl cA A ad 92 true) (hX : va_X b L xs s s.heap) (hbl : b < s.heap.size) (hbA : ¬ A b) (hkb : ad 1000 = b) (hi : 3 + 6 * t + 6 ≤ L) (hL : L < 2 ^ 31) (hc : cells + 1 ≤ room_1.cells ∧ slots + 6 ≤ room_1.slots) (hm : mR cn fv σ (mw_rs S ixM)) {z : Int32} {pW : Int32 → Prop} {pM : Int32 → mw_S → Prop} (hw : cR cn fy τ (mw_rs S ixW)) (hW : mw_M false l lw_tbl y_Wl_graph b_Wl_graph 4 (some .int) { frames := 2, cells := 0, slots := 0, locals := 43 } D vCl cA sh_Wl 69 [.inr (.inr 0), .inl (xs (3 + 6 * t + 1)), .inl (xs (3 + 6 * t + 2))] (mw_rs S ixW) (mw_Pi (fun x _ => pW x))) (hpW : ∀ r, pW r → r = z) (hM : ∀ S', mR cn fv σ S' → mw_M true l lw_tbl y_Mo_graph b_Mo_graph 4 (some .int) { frames := 1, cells := 0, slots := 0, locals := 20 } D vCl cA sh_Mo 22 [.inr (.inr 0), .inl (xs (3 + 6 * t + 1)), .inl (xs (3 + 6 * t + 2))] S' (mw_Pi pM)) (hpM : ∀ r S', pM r S' → r = z ∧ mR cn fv τ S') (next : ∀ S', cR cn fy τ (mw_rs S' ixW) → mR cn fv τ (mw_rs S' ixM) → mw p l e room_1 s m args below meth c Q (cells + 1) (slots + 6) D vCl cA A ad sh_La 92 7 733 (lLV t) [] S') : mw p l e room_1 s m args below meth c Q cells slots D vCl cA A ad sh_La 92 7 659 (lLV t) [] S := by
  refine mw_aload_n C 1 d_La_law_659 rfl rfl ?_
  refine mw_aload_n C 0 d_La_law_660 rfl rfl ?_
  refine mw_iload C d_La_law_661 rfl ?_
  refine mw_iconst C (v := nI 1) d_La_law_663 (by decide) ?_
  refine mw_iaddN C d_La_law_664 ?_
  refine mw_sld C hX hbl hbA hkb (by omega) hL d_La_law_665 ?_
  refine mw_aload_n C 0 d_La_law_666 rfl rfl ?_
  refine mw_iload C d_La_law_667 rfl ?_
  refine mw_iconst C (v := nI 2) d_La_law_669 (by decide) ?_
  refine mw_iaddN C d_La_law_670 ?_
  refine mw_sld C hX hbl hbA hkb (by omega) hL d_La_law_671 ?_
  refine mw_run0i C ix_W_La (mw_invV C (kk := 0) hW ix_W_La kb_La_91 wm_Wl_graph wv_Wl_graph (by decide) rfl rfl d_La_law_672 rfl rfl (Nat.le_of_ble_eq_true rfl) rfl rfl ⟨by decide, by decide⟩ ⟨by omega, by omega⟩) (fun r1 e1 => ?_)
  have e1 := hpW r1 e1
  subst e1
  refine mw_aload_n C 2 d_La_law_675 rfl rfl ?_
  refine mw_aload_n C 0 d_La_law_676 rfl rfl ?_
  refine mw_iload C d_La_law_677 rfl ?_
  refine mw_iconst C (v := nI 1) d_La_law_679 (by decide) ?_
  refine mw_iaddN C d_La_law_680 ?_
  refine mw_sld C hX hbl hbA hkb (by omega) hL d_La_law_681 ?_
  refine mw_aload_n C 0 d_La_law_682 rfl rfl ?_
  refine mw_iload C d_La_law_683 rfl ?_
  refine mw_iconst C (v := nI 2) d_La_law_685 (by decide) ?_
  refine mw_iaddN C d_La_law_686 ?_
  refine mw_sld C hX hbl hbA hkb (by omega) hL d_La_law_687 ?_
  refine mw_runi C ix_M_La rfl (mw_invV C (kk := 0) (hM _ hm) ix_M_La kb_La_94 wm_Mo_graph wv_Mo_graph (by decide) rfl rfl d_La_law_688 rfl rfl (Nat.le_of_ble_eq_true rfl) rfl rfl ⟨by decide, by decide⟩ ⟨by omega, by omega⟩) (fun r2 S2 e2 => ?_)
  obtain ⟨rfl, e2m⟩ := hpM r2 S2 e2
  refine mw_icmp_eq C 733 d_La_law_691 (by decide) (fun _ => ?_) (fun h8 => absurd rfl h8)
  refine mw_widen (Nat.le_succ cells) (Nat.le_add_right slots 6) ?_
  exact next _ (lW_M hw) (lM_M e2m)
set_option maxHeartbeats 4000000 in
set_option maxRecDepth 100000 in
theorem law_ordered (C : mw_C p m c s args code 7 "WaveLedgerLaw" b0 lw_tbl D vCl cA A ad 92 true) (hX : va_X b L xs s s.heap) (hbl : b < s.heap.size) (hbA : ¬ A b) (hkb : ad 1000 = b) (hi : 3 + 6 * t + 6 ≤ L) (hL : L < 2 ^ 31) (hc : cells + 1 ≤ room_1.cells ∧ slots + 6 ≤ room_1.slots) (hm : mR cn fv σ (mw_rs S ixM)) {z : Int32} {pW : Int32 → Prop} {pM : Int32 → mw_S → Prop} (hw : cR cn fy τ (mw_rs S ixW)) (hW : mw_M false l lw_tbl y_Wl_ordered b_Wl_ordered 3 (some .int) { frames := 1, cells := 0, slots := 0, locals := 20 } D vCl cA sh_Wl 69 [.inr (.inr 0), .inl (xs (3 + 6 * t + 1)), .inl (xs (3 + 6 * t + 2))] (mw_rs S ixW) (mw_Pi (fun x _ => pW x))) (hpW : ∀ r, pW r → r = z) (hM : ∀ S', mR cn fv σ S' → mw_M true l lw_tbl y_Mo_ordered b_Mo_ordered 3 (some .int) { frames := 1, cells := 0, slots := 0, locals := 20 } D vCl cA sh_Mo 22 [.inr (.inr 0), .inl (xs (3 + 6 * t + 1)), .inl (xs (3 + 6 * t + 2))] S' (mw_Pi pM)) (hpM : ∀ r S', pM r S' → r = z ∧ mR cn fv τ S') (next : ∀ S', cR cn fy τ (mw_rs S' ixW) → mR cn fv τ (mw_rs S' ixM) → mw p l e room_1 s m args below meth c Q (cells + 1) (slots + 6) D vCl cA A ad sh_La 92 7 733 (lLV t) [] S') : mw p l e room_1 s m args below meth c Q cells slots D vCl cA A ad sh_La 92 7 696 (lLV t) [] S := by
  refine mw_aload_n C 1 d_La_law_696 rfl rfl ?_
  refine mw_aload_n C 0 d_La_law_697 rfl rfl ?_
  refine mw_iload C d_La_law_698 rfl ?_
  refine mw_iconst C (v := nI 1) d_La_law_700 (by decide) ?_
  refine mw_iaddN C d_La_law_701 ?_
  refine mw_sld C hX hbl hbA hkb (by omega) hL d_La_law_702 ?_
  refine mw_aload_n C 0 d_La_law_703 rfl rfl ?_
  refine mw_iload C d_La_law_704 rfl ?_
  refine mw_iconst C (v := nI 2) d_La_law_706 (by decide) ?_
  refine mw_iaddN C d_La_law_707 ?_
  refine mw_sld C hX hbl hbA hkb (by omega) hL d_La_law_708 ?_
  refine mw_run0i C ix_W_La (mw_invV C (kk := 0) hW ix_W_La kb_La_95 wm_Wl_ordered wv_Wl_ordered (by decide) rfl rfl d_La_law_709 rfl rfl (Nat.le_of_ble_eq_true rfl) rfl rfl ⟨by decide, by decide⟩ ⟨by omega, by omega⟩) (fun r1 e1 => ?_)
  have e1 := hpW r1 e1
  subst e1
  refine mw_aload_n C 2 d_La_law_712 rfl rfl ?_
  refine mw_aload_n C 0 d_La_law_713 rfl rfl ?_
  refine mw_iload C d_La_law_714 rfl ?_
  refine mw_iconst C (v := nI 1) d_La_law_716 (by decide) ?_
  refine mw_iaddN C d_La_law_717 ?_
  refine mw_sld C hX hbl hbA hkb (by omega) hL d_La_law_718 ?_
  refine mw_aload_n C 0 d_La_law_719 rfl rfl ?_
  refine mw_iload C d_La_law_720 rfl ?_
  refine mw_iconst C (v := nI 2) d_La_law_722 (by decide) ?_
  refine mw_iaddN C d_La_law_723 ?_
  refine mw_sld C hX hbl hbA hkb (by omega) hL d_La_law_724 ?_
  refine mw_runi C ix_M_La rfl (mw_invV C (kk := 0) (hM _ hm) ix_M_La kb_La_98 wm_Mo_ordered wv_Mo_ordered (by decide) rfl rfl d_La_law_725 rfl rfl (Nat.le_of_ble_eq_true rfl) rfl rfl ⟨by decide, by decide⟩ ⟨by omega, by omega⟩) (fun r2 S2 e2 => ?_)
  obtain ⟨rfl, e2m⟩ := hpM r2 S2 e2
  refine mw_icmp_eq C 733 d_La_law_728 (by decide) (fun _ => ?_) (fun h8 => absurd rfl h8)
  refine mw_widen (Nat.le_succ cells) (Nat.le_add_right slots 6) ?_
  exact next _ (lW_M hw) (lM_M e2m)
end LAW
