/-! the law's walk: one round of its loop, method by method -/
abbrev lwX : LXt := (RL, cL_law, 7)
abbrev lA (E : LEv) : Nat → Prop := fun q => E.s.heap.size ≤ q
abbrev lwV (E : LEv) (D : va_G) (tc : Nat → ClassId) (g2 fk : Nat → Nat) (hk : ZH) (fm : Nat → Nat) (hm : ZH) (o : Nat) (φ : Nat → Int64) (mc ms : Nat) : LI := lwZ (lA E) 601024 7293034 E.s D tc g2 fk hk (zW tc (fm, g2) hm ++ [lOut tc o φ]) mc ms
/-- what holds in the law's frame from the start to the end -/
def lwC (E : LEv) (D : va_G) (tc : Nat → ClassId) (g2 : Nat → Nat) (b L sa : Nat) (xs : Nat → Int32) : Prop := lwF (lA E) 601024 7293034 E D tc g2 ∧ vyF sa (lA E) E.s E.s.heap ∧ va_X b L xs E.s E.s.heap ∧ b < E.s.heap.size ∧ L ≤ 3584 ∧ (100 ≤ E.Rm.frames ∧ 2000 ≤ E.Rm.locals) ∧ E.l.stackTraces = false
def lwL (ls : Nat → Option Value) (b : Nat) (fk fm : Nat → Nat) (o q : Nat) : Prop := ls 0 = some (.ref b) ∧ ls 1 = some (.ref (fk 0)) ∧ ls 2 = some (.ref (fm 0)) ∧ ls 3 = some (.ref o) ∧ ls 4 = some (.int (nI q))
def lwN (E : LEv) (D : va_G) (tc : Nat → ClassId) (g2 : Nat → Nat) (b o r q : Nat) : Prop := ∀ (ls : Nat → Option Value) (fk fm : Nat → Nat) (hk hm : ZH) (φ : Nat → Int64), zRel hk hm → lwL ls b fk fm o q → Lf lwX E (lwV E D tc g2 fk hk fm hm o φ (6 * r) (65 * r)) 785 ls []
def fE (x y : Int32) : Int64 := (x.toInt64 <<< (Int32.toInt64 32 &&& 63)) ||| (y.toInt64 &&& 4294967295)
section LAW
variable {E : LEv} {D : va_G} {tc : Nat → ClassId} {g2 : Nat → Nat} {b L sa o r q : Nat} {xs : Nat → Int32} {ls : Nat → Option Value} {fk fm : Nat → Nat} {hk hm : ZH} {φ : Nat → Int64}
theorem l_arg {Iv : LI} {pc j : Nat} {n : Int} {st : List Value} (HC : lwC E D tc g2 b L sa xs) (hS : ∀ H locs cells slots, Iv H locs cells slots → va_S (lA E) E.s.heap H locs) (l0 : ls 0 = some (.ref b)) (l4 : ls 4 = some (.int (nI q))) (hq : q + 7 ≤ L) (hj : j < 7) (d0 : decode cL_law pc = .ok (.aload_n 0, 1)) (d1 : decode cL_law (pc + 1) = .ok (.iload 4, 2)) (d3 : decode cL_law (pc + 3) = .ok (.iconst n, 1)) (hn : Int32.ofInt n = nI j) (d4 : decode cL_law (pc + 4) = .ok (.iadd, 1)) (d5 : decode cL_law (pc + 5) = .ok (.iaload, 1)) (kk : Lf lwX E Iv (pc + 6) ls (.int (xs (q + j)) :: st)) : Lf lwX E Iv pc ls st := by
  have hL := HC.2.2.2.2.1
  refine l_aload_n (i := 0) d0 rfl l0 ?_
  refine l_iload d1 l4 ?_
  refine l_iconst d3 hn ?_
  refine l_iadd d4 ?_
  rw [nI_add]
  exact l_scr (A := lA E) HC.2.2.1 HC.2.2.2.1 (Nat.not_le.mpr HC.2.2.2.1) hS d5 (nI_pos (by omega)) (nI_clamp (by omega)) (by omega) kk
theorem l_arg6 {Iv : LI} {pc : Nat} {st : List Value} (HC : lwC E D tc g2 b L sa xs) (hS : ∀ H locs cells slots, Iv H locs cells slots → va_S (lA E) E.s.heap H locs) (l0 : ls 0 = some (.ref b)) (l4 : ls 4 = some (.int (nI q))) (hq : q + 7 ≤ L) (d0 : decode cL_law pc = .ok (.aload_n 0, 1)) (d1 : decode cL_law (pc + 1) = .ok (.iload 4, 2)) (d3 : decode cL_law (pc + 3) = .ok (.bipush 6, 2)) (d4 : decode cL_law (pc + 5) = .ok (.iadd, 1)) (d5 : decode cL_law (pc + 6) = .ok (.iaload, 1)) (kk : Lf lwX E Iv (pc + 7) ls (.int (xs (q + 6)) :: st)) : Lf lwX E Iv pc ls st := by
  have hL := HC.2.2.2.2.1
  refine l_aload_n (i := 0) d0 rfl l0 ?_
  refine l_iload d1 l4 ?_
  refine l_bipush (v := nI 6) d3 (by decide) ?_
  refine l_iadd d4 ?_
  rw [nI_add]
  exact l_scr (A := lA E) HC.2.2.1 HC.2.2.2.1 (Nat.not_le.mpr HC.2.2.2.1) hS d5 (nI_pos (by omega)) (nI_clamp (by omega)) (by omega) kk
theorem lwL.up {ls : Nat → Option Value} {i : Nat} {v : Value} (h : lwL ls b fk fm o q) (hi : 5 ≤ i) : lwL (va_up ls i (some v)) b fk fm o q := by
  obtain ⟨h0, h1, h2, h3, h4⟩ := h
  exact ⟨by rw [va_up_ne _ _ (by omega)]; exact h0, by rw [va_up_ne _ _ (by omega)]; exact h1, by rw [va_up_ne _ _ (by omega)]; exact h2, by rw [va_up_ne _ _ (by omega)]; exact h3, by rw [va_up_ne _ _ (by omega)]; exact h4⟩
set_option maxHeartbeats 4000000 in
theorem law_pitch (HC : lwC E D tc g2 b L sa xs) (hq : q + 7 ≤ L) (N : lwN E D tc g2 b o r q) (hz : zRel hk hm) (hl : lwL ls b fk fm o q) : Lf lwX E (lwV E D tc g2 fk hk fm hm o φ (6 * (r + 1)) (65 * (r + 1))) 112 ls [] := by
  obtain ⟨l0, l1, l2, l3, l4⟩ := id hl
  obtain ⟨mc9, ms9, Qk, Qm, hmc, hms, Z8, Z9, hQ⟩ := q_pitch hz (xs (q + 1)) (xs (q + 2))
  have F := HC.1
  have hfr := HC.2.2.2.2.2.1
  refine l_aload_n (i := 1) dL_law_112 rfl l1 ?_
  refine l_arg (j := 1) HC (fun _ _ _ _ w => w.2.1) l0 l4 hq (by decide) dL_law_113 dL_law_114 dL_law_116 (by decide) dL_law_117 dL_law_118 ?_
  refine l_arg (j := 2) HC (fun _ _ _ _ w => w.2.1) l0 l4 hq (by decide) dL_law_119 dL_law_120 dL_law_122 (by decide) dL_law_123 dL_law_124 ?_
  refine l_callV (st := []) (a := 0) (ci := 8) (mc2 := 6 * r) (ms2 := 65 * r) F hz.k.1 ziL_19 zv_yX8_pitch Z8 dL_law_125 hz.k.2.1 hz.k.2.2 rfl (fun _ => rfl) rfl rfl (by omega) (by omega) (by decide) (by omega) (by omega) (fun r1 h1 f1 q1 e1 => ?_)
  have e10 : f1 0 = fk 0 := e1 0 hz.k.2.1
  refine l_inv (fun H locs cells slots w => w.swap) ?_
  refine l_aload_n (i := 2) dL_law_128 rfl l2 ?_
  refine l_arg (j := 1) HC (fun _ _ _ _ w => w.2.1) l0 l4 hq (by decide) dL_law_129 dL_law_130 dL_law_132 (by decide) dL_law_133 dL_law_134 ?_
  refine l_arg (j := 2) HC (fun _ _ _ _ w => w.2.1) l0 l4 hq (by decide) dL_law_135 dL_law_136 dL_law_138 (by decide) dL_law_139 dL_law_140 ?_
  refine l_callV (st := (r1.map (zc (f1, g2))).toList ++ []) (a := 0) (ci := 9) (mc2 := 6 * r) (ms2 := 65 * r) F hz.m.1 ziL_22 zv_yX9_pitch Z9 dL_law_141 hz.m.2.1 hz.m.2.2 rfl (fun _ => rfl) rfl rfl (by omega) (by omega) (l_cat2 _ _) (by omega) (by omega) (fun r2 h2 f2 q2 e2 => ?_)
  have e20 : f2 0 = fm 0 := e2 0 hz.m.2.1
  obtain ⟨⟨v, rfl, rfl⟩, hz2⟩ := hQ _ _ _ _ q1 q2
  refine l_inv (fun H locs cells slots w => w.swap) ?_
  refine l_icmp_eq (x := v) (y := v) (st := []) 785 dL_law_144 (by decide) (fun _ => ?_) (fun c => absurd rfl c)
  exact N ls f1 f2 h1 h2 φ hz2 ⟨l0, by rw [e10]; exact l1, by rw [e20]; exact l2, l3, l4⟩
set_option maxHeartbeats 4000000 in
theorem law_game (HC : lwC E D tc g2 b L sa xs) (hq : q + 7 ≤ L) (N : lwN E D tc g2 b o r q) (hz : zRel hk hm) (hl : lwL ls b fk fm o q) : Lf lwX E (lwV E D tc g2 fk hk fm hm o φ (6 * (r + 1)) (65 * (r + 1))) 149 ls [] := by
  obtain ⟨l0, l1, l2, l3, l4⟩ := id hl
  obtain ⟨mc9, ms9, Qk, Qm, hmc, hms, Z8, Z9, hQ⟩ := q_game hz (xs (q + 1)) (xs (q + 2)) (xs (q + 3)) (xs (q + 4)) (xs (q + 5)) (xs (q + 6))
  have F := HC.1
  have hfr := HC.2.2.2.2.2.1
  refine l_aload_n (i := 1) dL_law_149 rfl l1 ?_
  refine l_arg (j := 1) HC (fun _ _ _ _ w => w.2.1) l0 l4 hq (by decide) dL_law_150 dL_law_151 dL_law_153 (by decide) dL_law_154 dL_law_155 ?_
  refine l_arg (j := 2) HC (fun _ _ _ _ w => w.2.1) l0 l4 hq (by decide) dL_law_156 dL_law_157 dL_law_159 (by decide) dL_law_160 dL_law_161 ?_
  refine l_arg (j := 3) HC (fun _ _ _ _ w => w.2.1) l0 l4 hq (by decide) dL_law_162 dL_law_163 dL_law_165 (by decide) dL_law_166 dL_law_167 ?_
  refine l_arg (j := 4) HC (fun _ _ _ _ w => w.2.1) l0 l4 hq (by decide) dL_law_168 dL_law_169 dL_law_171 (by decide) dL_law_172 dL_law_173 ?_
  refine l_arg (j := 5) HC (fun _ _ _ _ w => w.2.1) l0 l4 hq (by decide) dL_law_174 dL_law_175 dL_law_177 (by decide) dL_law_178 dL_law_179 ?_
  refine l_arg6 HC (fun _ _ _ _ w => w.2.1) l0 l4 hq dL_law_180 dL_law_181 dL_law_183 dL_law_185 dL_law_186 ?_
  refine l_callV (st := []) (a := 0) (ci := 8) (mc2 := 6 * r) (ms2 := 65 * r) F hz.k.1 ziL_23 zv_yX8_game Z8 dL_law_187 hz.k.2.1 hz.k.2.2 rfl (fun _ => rfl) rfl rfl (by omega) (by omega) (by decide) (by omega) (by omega) (fun r1 h1 f1 q1 e1 => ?_)
  have e10 : f1 0 = fk 0 := e1 0 hz.k.2.1
  refine l_inv (fun H locs cells slots w => w.swap) ?_
  refine l_aload_n (i := 2) dL_law_190 rfl l2 ?_
  refine l_arg (j := 1) HC (fun _ _ _ _ w => w.2.1) l0 l4 hq (by decide) dL_law_191 dL_law_192 dL_law_194 (by decide) dL_law_195 dL_law_196 ?_
  refine l_arg (j := 2) HC (fun _ _ _ _ w => w.2.1) l0 l4 hq (by decide) dL_law_197 dL_law_198 dL_law_200 (by decide) dL_law_201 dL_law_202 ?_
  refine l_arg (j := 3) HC (fun _ _ _ _ w => w.2.1) l0 l4 hq (by decide) dL_law_203 dL_law_204 dL_law_206 (by decide) dL_law_207 dL_law_208 ?_
  refine l_arg (j := 4) HC (fun _ _ _ _ w => w.2.1) l0 l4 hq (by decide) dL_law_209 dL_law_210 dL_law_212 (by decide) dL_law_213 dL_law_214 ?_
  refine l_arg (j := 5) HC (fun _ _ _ _ w => w.2.1) l0 l4 hq (by decide) dL_law_215 dL_law_216 dL_law_218 (by decide) dL_law_219 dL_law_220 ?_
  refine l_arg6 HC (fun _ _ _ _ w => w.2.1) l0 l4 hq dL_law_221 dL_law_222 dL_law_224 dL_law_226 dL_law_227 ?_
  refine l_callV (st := (r1.map (zc (f1, g2))).toList ++ []) (a := 0) (ci := 9) (mc2 := 6 * r) (ms2 := 65 * r) F hz.m.1 ziL_27 zv_yX9_game Z9 dL_law_228 hz.m.2.1 hz.m.2.2 rfl (fun _ => rfl) rfl rfl (by omega) (by omega) (l_cat2 _ _) (by omega) (by omega) (fun r2 h2 f2 q2 e2 => ?_)
  have e20 : f2 0 = fm 0 := e2 0 hz.m.2.1
  obtain ⟨⟨v, rfl, rfl⟩, hz2⟩ := hQ _ _ _ _ q1 q2
  refine l_inv (fun H locs cells slots w => w.swap) ?_
  refine l_icmp_eq (x := v) (y := v) (st := []) 785 dL_law_231 (by decide) (fun _ => ?_) (fun c => absurd rfl c)
  exact N ls f1 f2 h1 h2 φ hz2 ⟨l0, by rw [e10]; exact l1, by rw [e20]; exact l2, l3, l4⟩
set_option maxHeartbeats 4000000 in
theorem law_lay (HC : lwC E D tc g2 b L sa xs) (hq : q + 7 ≤ L) (N : lwN E D tc g2 b o r q) (hz : zRel hk hm) (hl : lwL ls b fk fm o q) : Lf lwX E (lwV E D tc g2 fk hk fm hm o φ (6 * (r + 1)) (65 * (r + 1))) 236 ls [] := by
  obtain ⟨l0, l1, l2, l3, l4⟩ := id hl
  obtain ⟨mc9, ms9, Qk, Qm, hmc, hms, Z8, Z9, hQ⟩ := q_lay hz (xs (q + 1))
  have F := HC.1
  have hfr := HC.2.2.2.2.2.1
  refine l_aload_n (i := 1) dL_law_236 rfl l1 ?_
  refine l_arg (j := 1) HC (fun _ _ _ _ w => w.2.1) l0 l4 hq (by decide) dL_law_237 dL_law_238 dL_law_240 (by decide) dL_law_241 dL_law_242 ?_
  refine l_callV (st := []) (a := 0) (ci := 8) (mc2 := 6 * r) (ms2 := 65 * r) F hz.k.1 ziL_28 zv_yX8_lay Z8 dL_law_243 hz.k.2.1 hz.k.2.2 rfl (fun _ => rfl) rfl rfl (by omega) (by omega) (by decide) (by omega) (by omega) (fun r1 h1 f1 q1 e1 => ?_)
  have e10 : f1 0 = fk 0 := e1 0 hz.k.2.1
  refine l_inv (fun H locs cells slots w => w.swap) ?_
  refine l_aload_n (i := 2) dL_law_246 rfl l2 ?_
  refine l_arg (j := 1) HC (fun _ _ _ _ w => w.2.1) l0 l4 hq (by decide) dL_law_247 dL_law_248 dL_law_250 (by decide) dL_law_251 dL_law_252 ?_
  refine l_callV (st := (r1.map (zc (f1, g2))).toList ++ []) (a := 0) (ci := 9) (mc2 := 6 * r) (ms2 := 65 * r) F hz.m.1 ziL_32 zv_yX9_lay_ Z9 dL_law_253 hz.m.2.1 hz.m.2.2 rfl (fun _ => rfl) rfl rfl (by omega) (by omega) (l_cat2 _ _) (by omega) (by omega) (fun r2 h2 f2 q2 e2 => ?_)
  have e20 : f2 0 = fm 0 := e2 0 hz.m.2.1
  obtain ⟨⟨v, rfl, rfl⟩, hz2⟩ := hQ _ _ _ _ q1 q2
  refine l_inv (fun H locs cells slots w => w.swap) ?_
  refine l_icmp_eq (x := v) (y := v) (st := []) 785 dL_law_256 (by decide) (fun _ => ?_) (fun c => absurd rfl c)
  exact N ls f1 f2 h1 h2 φ hz2 ⟨l0, by rw [e10]; exact l1, by rw [e20]; exact l2, l3, l4⟩
set_option maxHeartbeats 4000000 in
theorem law_feed (HC : lwC E D tc g2 b L sa xs) (hq : q + 7 ≤ L) (N : lwN E D tc g2 b o r q) (hz : zRel hk hm) (hl : lwL ls b fk fm o q) : Lf lwX E (lwV E D tc g2 fk hk fm hm o φ (6 * (r + 1)) (65 * (r + 1))) 261 ls [] := by
  obtain ⟨l0, l1, l2, l3, l4⟩ := id hl
  obtain ⟨mc9, ms9, Qk, Qm, hmc, hms, Z8, Z9, hQ⟩ := q_feed hz (fE (xs (q + 1)) (xs (q + 2))) (fE (xs (q + 3)) (xs (q + 4))) (fE (xs (q + 5)) (xs (q + 6)))
  have F := HC.1
  have hfr := HC.2.2.2.2.2.1
  refine l_aload_n (i := 1) dL_law_261 rfl l1 ?_
  refine l_arg (j := 1) HC (fun _ _ _ _ w => w.2.1) l0 l4 hq (by decide) dL_law_262 dL_law_263 dL_law_265 (by decide) dL_law_266 dL_law_267 ?_
  refine l_i2l dL_law_268 rfl ?_
  refine l_bipush (v := 32) dL_law_269 (by decide) ?_
  refine l_lshl dL_law_271 rfl ?_
  refine l_arg (j := 2) HC (fun _ _ _ _ w => w.2.1) l0 l4 hq (by decide) dL_law_272 dL_law_273 dL_law_275 (by decide) dL_law_276 dL_law_277 ?_
  refine l_i2l dL_law_278 rfl ?_
  refine l_ldc2 (v := 4294967295) dL_law_279 (zTB_of (by decide +kernel) rfl) ?_
  refine l_land dL_law_282 ?_
  refine l_lor dL_law_283 ?_
  show Lf _ _ _ _ _ (.long (fE (xs (q + 1)) (xs (q + 2))) :: _)
  refine l_arg (j := 3) HC (fun _ _ _ _ w => w.2.1) l0 l4 hq (by decide) dL_law_284 dL_law_285 dL_law_287 (by decide) dL_law_288 dL_law_289 ?_
  refine l_i2l dL_law_290 rfl ?_
  refine l_bipush (v := 32) dL_law_291 (by decide) ?_
  refine l_lshl dL_law_293 rfl ?_
  refine l_arg (j := 4) HC (fun _ _ _ _ w => w.2.1) l0 l4 hq (by decide) dL_law_294 dL_law_295 dL_law_297 (by decide) dL_law_298 dL_law_299 ?_
  refine l_i2l dL_law_300 rfl ?_
  refine l_ldc2 (v := 4294967295) dL_law_301 (zTB_of (by decide +kernel) rfl) ?_
  refine l_land dL_law_304 ?_
  refine l_lor dL_law_305 ?_
  show Lf _ _ _ _ _ (.long (fE (xs (q + 3)) (xs (q + 4))) :: _)
  refine l_arg (j := 5) HC (fun _ _ _ _ w => w.2.1) l0 l4 hq (by decide) dL_law_306 dL_law_307 dL_law_309 (by decide) dL_law_310 dL_law_311 ?_
  refine l_i2l dL_law_312 rfl ?_
  refine l_bipush (v := 32) dL_law_313 (by decide) ?_
  refine l_lshl dL_law_315 rfl ?_
  refine l_arg6 HC (fun _ _ _ _ w => w.2.1) l0 l4 hq dL_law_316 dL_law_317 dL_law_319 dL_law_321 dL_law_322 ?_
  refine l_i2l dL_law_323 rfl ?_
  refine l_ldc2 (v := 4294967295) dL_law_324 (zTB_of (by decide +kernel) rfl) ?_
  refine l_land dL_law_327 ?_
  refine l_lor dL_law_328 ?_
  show Lf _ _ _ _ _ (.long (fE (xs (q + 5)) (xs (q + 6))) :: _)
  refine l_callV (st := []) (a := 0) (ci := 8) (mc2 := 6 * r) (ms2 := 65 * r) F hz.k.1 ziL_35 zv_yX8_feed Z8 dL_law_329 hz.k.2.1 hz.k.2.2 rfl (fun _ => rfl) rfl rfl (by omega) (by omega) (by decide) (by omega) (by omega) (fun r1 h1 f1 q1 e1 => ?_)
  have e10 : f1 0 = fk 0 := e1 0 hz.k.2.1
  refine l_inv (fun H locs cells slots w => w.swap) ?_
  refine l_aload_n (i := 2) dL_law_332 rfl l2 ?_
  refine l_arg (j := 1) HC (fun _ _ _ _ w => w.2.1) l0 l4 hq (by decide) dL_law_333 dL_law_334 dL_law_336 (by decide) dL_law_337 dL_law_338 ?_
  refine l_i2l dL_law_339 rfl ?_
  refine l_bipush (v := 32) dL_law_340 (by decide) ?_
  refine l_lshl dL_law_342 rfl ?_
  refine l_arg (j := 2) HC (fun _ _ _ _ w => w.2.1) l0 l4 hq (by decide) dL_law_343 dL_law_344 dL_law_346 (by decide) dL_law_347 dL_law_348 ?_
  refine l_i2l dL_law_349 rfl ?_
  refine l_ldc2 (v := 4294967295) dL_law_350 (zTB_of (by decide +kernel) rfl) ?_
  refine l_land dL_law_353 ?_
  refine l_lor dL_law_354 ?_
  show Lf _ _ _ _ _ (.long (fE (xs (q + 1)) (xs (q + 2))) :: _)
  refine l_arg (j := 3) HC (fun _ _ _ _ w => w.2.1) l0 l4 hq (by decide) dL_law_355 dL_law_356 dL_law_358 (by decide) dL_law_359 dL_law_360 ?_
  refine l_i2l dL_law_361 rfl ?_
  refine l_bipush (v := 32) dL_law_362 (by decide) ?_
  refine l_lshl dL_law_364 rfl ?_
  refine l_arg (j := 4) HC (fun _ _ _ _ w => w.2.1) l0 l4 hq (by decide) dL_law_365 dL_law_366 dL_law_368 (by decide) dL_law_369 dL_law_370 ?_
  refine l_i2l dL_law_371 rfl ?_
  refine l_ldc2 (v := 4294967295) dL_law_372 (zTB_of (by decide +kernel) rfl) ?_
  refine l_land dL_law_375 ?_
  refine l_lor dL_law_376 ?_
  show Lf _ _ _ _ _ (.long (fE (xs (q + 3)) (xs (q + 4))) :: _)
  refine l_arg (j := 5) HC (fun _ _ _ _ w => w.2.1) l0 l4 hq (by decide) dL_law_377 dL_law_378 dL_law_380 (by decide) dL_law_381 dL_law_382 ?_
  refine l_i2l dL_law_383 rfl ?_
  refine l_bipush (v := 32) dL_law_384 (by decide) ?_
  refine l_lshl dL_law_386 rfl ?_
  refine l_arg6 HC (fun _ _ _ _ w => w.2.1) l0 l4 hq dL_law_387 dL_law_388 dL_law_390 dL_law_392 dL_law_393 ?_
  refine l_i2l dL_law_394 rfl ?_
  refine l_ldc2 (v := 4294967295) dL_law_395 (zTB_of (by decide +kernel) rfl) ?_
  refine l_land dL_law_398 ?_
  refine l_lor dL_law_399 ?_
  show Lf _ _ _ _ _ (.long (fE (xs (q + 5)) (xs (q + 6))) :: _)
  refine l_callV (st := (r1.map (zc (f1, g2))).toList ++ []) (a := 0) (ci := 9) (mc2 := 6 * r) (ms2 := 65 * r) F hz.m.1 ziL_39 zv_yX9_feed Z9 dL_law_400 hz.m.2.1 hz.m.2.2 rfl (fun _ => rfl) rfl rfl (by omega) (by omega) (l_cat2 _ _) (by omega) (by omega) (fun r2 h2 f2 q2 e2 => ?_)
  have e20 : f2 0 = fm 0 := e2 0 hz.m.2.1
  obtain ⟨⟨v, rfl, rfl⟩, hz2⟩ := hQ _ _ _ _ q1 q2
  refine l_inv (fun H locs cells slots w => w.swap) ?_
  refine l_icmp_eq (x := v) (y := v) (st := []) 785 dL_law_403 (by decide) (fun _ => ?_) (fun c => absurd rfl c)
  exact N ls f1 f2 h1 h2 φ hz2 ⟨l0, by rw [e10]; exact l1, by rw [e20]; exact l2, l3, l4⟩
set_option maxHeartbeats 4000000 in
theorem law_text (HC : lwC E D tc g2 b L sa xs) (hq : q + 7 ≤ L) (N : lwN E D tc g2 b o r q) (hz : zRel hk hm) (hl : lwL ls b fk fm o q) : Lf lwX E (lwV E D tc g2 fk hk fm hm o φ (6 * (r + 1)) (65 * (r + 1))) 408 ls [] := by
  obtain ⟨l0, l1, l2, l3, l4⟩ := id hl
  obtain ⟨mc9, ms9, Qk, Qm, hmc, hms, Z8, Z9, hQ⟩ := q_text hz 
  have F := HC.1
  have hfr := HC.2.2.2.2.2.1
  refine l_aload_n (i := 1) dL_law_408 rfl l1 ?_
  refine l_callV (st := []) (a := 0) (ci := 8) (mc2 := 6 * r) (ms2 := 65 * r) F hz.k.1 ziL_40 zv_yX8_text Z8 dL_law_409 hz.k.2.1 hz.k.2.2 rfl (fun _ => rfl) rfl rfl (by omega) (by omega) (by decide) (by omega) (by omega) (fun r1 h1 f1 q1 e1 => ?_)
  have e10 : f1 0 = fk 0 := e1 0 hz.k.2.1
  refine l_inv (fun H locs cells slots w => w.swap) ?_
  refine l_aload_n (i := 2) dL_law_412 rfl l2 ?_
  refine l_callV (st := (r1.map (zc (f1, g2))).toList ++ []) (a := 0) (ci := 9) (mc2 := 6 * r) (ms2 := 65 * r) F hz.m.1 ziL_44 zv_yX9_text Z9 dL_law_413 hz.m.2.1 hz.m.2.2 rfl (fun _ => rfl) rfl rfl (by omega) (by omega) (l_cat2 _ _) (by omega) (by omega) (fun r2 h2 f2 q2 e2 => ?_)
  have e20 : f2 0 = fm 0 := e2 0 hz.m.2.1
  obtain ⟨⟨v, rfl, rfl⟩, hz2⟩ := hQ _ _ _ _ q1 q2
  refine l_inv (fun H locs cells slots w => w.swap) ?_
  refine l_icmp_eq (x := v) (y := v) (st := []) 785 dL_law_416 (by decide) (fun _ => ?_) (fun c => absurd rfl c)
  exact N ls f1 f2 h1 h2 φ hz2 ⟨l0, by rw [e10]; exact l1, by rw [e20]; exact l2, l3, l4⟩
set_option maxHeartbeats 4000000 in
theorem law_day (HC : lwC E D tc g2 b L sa xs) (hq : q + 7 ≤ L) (N : lwN E D tc g2 b o r q) (hz : zRel hk hm) (hl : lwL ls b fk fm o q) : Lf lwX E (lwV E D tc g2 fk hk fm hm o φ (6 * (r + 1)) (65 * (r + 1))) 421 ls [] := by
  obtain ⟨l0, l1, l2, l3, l4⟩ := id hl
  obtain ⟨mc9, ms9, Qk, Qm, hmc, hms, Z8, Z9, hQ⟩ := q_day hz (xs (q + 1)) (xs (q + 2))
  have F := HC.1
  have hfr := HC.2.2.2.2.2.1
  refine l_aload_n (i := 1) dL_law_421 rfl l1 ?_
  refine l_arg (j := 1) HC (fun _ _ _ _ w => w.2.1) l0 l4 hq (by decide) dL_law_422 dL_law_423 dL_law_425 (by decide) dL_law_426 dL_law_427 ?_
  refine l_arg (j := 2) HC (fun _ _ _ _ w => w.2.1) l0 l4 hq (by decide) dL_law_428 dL_law_429 dL_law_431 (by decide) dL_law_432 dL_law_433 ?_
  refine l_callV (st := []) (a := 0) (ci := 8) (mc2 := 6 * r) (ms2 := 65 * r) F hz.k.1 ziL_45 zv_yX8_day Z8 dL_law_434 hz.k.2.1 hz.k.2.2 rfl (fun _ => rfl) rfl rfl (by omega) (by omega) (by decide) (by omega) (by omega) (fun r1 h1 f1 q1 e1 => ?_)
  have e10 : f1 0 = fk 0 := e1 0 hz.k.2.1
  refine l_inv (fun H locs cells slots w => w.swap) ?_
  refine l_aload_n (i := 2) dL_law_437 rfl l2 ?_
  refine l_arg (j := 1) HC (fun _ _ _ _ w => w.2.1) l0 l4 hq (by decide) dL_law_438 dL_law_439 dL_law_441 (by decide) dL_law_442 dL_law_443 ?_
  refine l_arg (j := 2) HC (fun _ _ _ _ w => w.2.1) l0 l4 hq (by decide) dL_law_444 dL_law_445 dL_law_447 (by decide) dL_law_448 dL_law_449 ?_
  refine l_callV (st := (r1.map (zc (f1, g2))).toList ++ []) (a := 0) (ci := 9) (mc2 := 6 * r) (ms2 := 65 * r) F hz.m.1 ziL_48 zv_yX9_day Z9 dL_law_450 hz.m.2.1 hz.m.2.2 rfl (fun _ => rfl) rfl rfl (by omega) (by omega) (l_cat2 _ _) (by omega) (by omega) (fun r2 h2 f2 q2 e2 => ?_)
  have e20 : f2 0 = fm 0 := e2 0 hz.m.2.1
  obtain ⟨⟨v, rfl, rfl⟩, hz2⟩ := hQ _ _ _ _ q1 q2
  refine l_inv (fun H locs cells slots w => w.swap) ?_
  refine l_icmp_eq (x := v) (y := v) (st := []) 785 dL_law_453 (by decide) (fun _ => ?_) (fun c => absurd rfl c)
  exact N ls f1 f2 h1 h2 φ hz2 ⟨l0, by rw [e10]; exact l1, by rw [e20]; exact l2, l3, l4⟩
set_option maxHeartbeats 4000000 in
theorem law_turn (HC : lwC E D tc g2 b L sa xs) (hq : q + 7 ≤ L) (N : lwN E D tc g2 b o r q) (hz : zRel hk hm) (hl : lwL ls b fk fm o q) : Lf lwX E (lwV E D tc g2 fk hk fm hm o φ (6 * (r + 1)) (65 * (r + 1))) 458 ls [] := by
  obtain ⟨l0, l1, l2, l3, l4⟩ := id hl
  obtain ⟨mc9, ms9, Qk, Qm, hmc, hms, Z8, Z9, hQ⟩ := q_turn hz (xs (q + 1))
  have F := HC.1
  have hfr := HC.2.2.2.2.2.1
  refine l_aload_n (i := 1) dL_law_458 rfl l1 ?_
  refine l_arg (j := 1) HC (fun _ _ _ _ w => w.2.1) l0 l4 hq (by decide) dL_law_459 dL_law_460 dL_law_462 (by decide) dL_law_463 dL_law_464 ?_
  refine l_callV (st := []) (a := 0) (ci := 8) (mc2 := 6 * r) (ms2 := 65 * r) F hz.k.1 ziL_49 zv_yX8_turn Z8 dL_law_465 hz.k.2.1 hz.k.2.2 rfl (fun _ => rfl) rfl rfl (by omega) (by omega) (by decide) (by omega) (by omega) (fun r1 h1 f1 q1 e1 => ?_)
  have e10 : f1 0 = fk 0 := e1 0 hz.k.2.1
  refine l_inv (fun H locs cells slots w => w.swap) ?_
  refine l_aload_n (i := 2) dL_law_468 rfl l2 ?_
  refine l_arg (j := 1) HC (fun _ _ _ _ w => w.2.1) l0 l4 hq (by decide) dL_law_469 dL_law_470 dL_law_472 (by decide) dL_law_473 dL_law_474 ?_
  refine l_callV (st := (r1.map (zc (f1, g2))).toList ++ []) (a := 0) (ci := 9) (mc2 := 6 * r) (ms2 := 65 * r) F hz.m.1 ziL_52 zv_yX9_turn Z9 dL_law_475 hz.m.2.1 hz.m.2.2 rfl (fun _ => rfl) rfl rfl (by omega) (by omega) (l_cat2 _ _) (by omega) (by omega) (fun r2 h2 f2 q2 e2 => ?_)
  have e20 : f2 0 = fm 0 := e2 0 hz.m.2.1
  obtain ⟨⟨v, rfl, rfl⟩, hz2⟩ := hQ _ _ _ _ q1 q2
  refine l_inv (fun H locs cells slots w => w.swap) ?_
  refine l_icmp_eq (x := v) (y := v) (st := []) 785 dL_law_478 (by decide) (fun _ => ?_) (fun c => absurd rfl c)
  exact N ls f1 f2 h1 h2 φ hz2 ⟨l0, by rw [e10]; exact l1, by rw [e20]; exact l2, l3, l4⟩
set_option maxHeartbeats 4000000 in
theorem law_grass (HC : lwC E D tc g2 b L sa xs) (hq : q + 7 ≤ L) (N : lwN E D tc g2 b o r q) (hz : zRel hk hm) (hl : lwL ls b fk fm o q) : Lf lwX E (lwV E D tc g2 fk hk fm hm o φ (6 * (r + 1)) (65 * (r + 1))) 483 ls [] := by
  obtain ⟨l0, l1, l2, l3, l4⟩ := id hl
  obtain ⟨mc9, ms9, Qk, Qm, hmc, hms, Z8, Z9, hQ⟩ := q_grass hz (xs (q + 1)) (xs (q + 2)) (xs (q + 3))
  have F := HC.1
  have hfr := HC.2.2.2.2.2.1
  refine l_aload_n (i := 1) dL_law_483 rfl l1 ?_
  refine l_arg (j := 1) HC (fun _ _ _ _ w => w.2.1) l0 l4 hq (by decide) dL_law_484 dL_law_485 dL_law_487 (by decide) dL_law_488 dL_law_489 ?_
  refine l_arg (j := 2) HC (fun _ _ _ _ w => w.2.1) l0 l4 hq (by decide) dL_law_490 dL_law_491 dL_law_493 (by decide) dL_law_494 dL_law_495 ?_
  refine l_arg (j := 3) HC (fun _ _ _ _ w => w.2.1) l0 l4 hq (by decide) dL_law_496 dL_law_497 dL_law_499 (by decide) dL_law_500 dL_law_501 ?_
  refine l_callV (st := []) (a := 0) (ci := 8) (mc2 := 6 * r) (ms2 := 65 * r) F hz.k.1 ziL_53 zv_yX8_grass Z8 dL_law_502 hz.k.2.1 hz.k.2.2 rfl (fun _ => rfl) rfl rfl (by omega) (by omega) (by decide) (by omega) (by omega) (fun r1 h1 f1 q1 e1 => ?_)
  have e10 : f1 0 = fk 0 := e1 0 hz.k.2.1
  refine l_inv (fun H locs cells slots w => w.swap) ?_
  refine l_aload_n (i := 2) dL_law_505 rfl l2 ?_
  refine l_arg (j := 1) HC (fun _ _ _ _ w => w.2.1) l0 l4 hq (by decide) dL_law_506 dL_law_507 dL_law_509 (by decide) dL_law_510 dL_law_511 ?_
  refine l_arg (j := 2) HC (fun _ _ _ _ w => w.2.1) l0 l4 hq (by decide) dL_law_512 dL_law_513 dL_law_515 (by decide) dL_law_516 dL_law_517 ?_
  refine l_arg (j := 3) HC (fun _ _ _ _ w => w.2.1) l0 l4 hq (by decide) dL_law_518 dL_law_519 dL_law_521 (by decide) dL_law_522 dL_law_523 ?_
  refine l_callV (st := (r1.map (zc (f1, g2))).toList ++ []) (a := 0) (ci := 9) (mc2 := 6 * r) (ms2 := 65 * r) F hz.m.1 ziL_57 zv_yX9_grass Z9 dL_law_524 hz.m.2.1 hz.m.2.2 rfl (fun _ => rfl) rfl rfl (by omega) (by omega) (l_cat2 _ _) (by omega) (by omega) (fun r2 h2 f2 q2 e2 => ?_)
  have e20 : f2 0 = fm 0 := e2 0 hz.m.2.1
  obtain ⟨⟨v, rfl, rfl⟩, hz2⟩ := hQ _ _ _ _ q1 q2
  refine l_inv (fun H locs cells slots w => w.swap) ?_
  refine l_icmp_eq (x := v) (y := v) (st := []) 785 dL_law_527 (by decide) (fun _ => ?_) (fun c => absurd rfl c)
  exact N ls f1 f2 h1 h2 φ hz2 ⟨l0, by rw [e10]; exact l1, by rw [e20]; exact l2, l3, l4⟩
set_option maxHeartbeats 4000000 in
theorem law_at (HC : lwC E D tc g2 b L sa xs) (hq : q + 7 ≤ L) (N : lwN E D tc g2 b o r q) (hz : zRel hk hm) (hl : lwL ls b fk fm o q) : Lf lwX E (lwV E D tc g2 fk hk fm hm o φ (6 * (r + 1)) (65 * (r + 1))) 600 ls [] := by
  obtain ⟨l0, l1, l2, l3, l4⟩ := id hl
  obtain ⟨mc9, ms9, Qk, Qm, hmc, hms, Z8, Z9, hQ⟩ := q_at hz (xs (q + 1)) (xs (q + 2)) (xs (q + 3))
  have F := HC.1
  have hfr := HC.2.2.2.2.2.1
  refine l_aload_n (i := 1) dL_law_600 rfl l1 ?_
  refine l_arg (j := 1) HC (fun _ _ _ _ w => w.2.1) l0 l4 hq (by decide) dL_law_601 dL_law_602 dL_law_604 (by decide) dL_law_605 dL_law_606 ?_
  refine l_arg (j := 2) HC (fun _ _ _ _ w => w.2.1) l0 l4 hq (by decide) dL_law_607 dL_law_608 dL_law_610 (by decide) dL_law_611 dL_law_612 ?_
  refine l_arg (j := 3) HC (fun _ _ _ _ w => w.2.1) l0 l4 hq (by decide) dL_law_613 dL_law_614 dL_law_616 (by decide) dL_law_617 dL_law_618 ?_
  refine l_callV (st := []) (a := 0) (ci := 8) (mc2 := 6 * r) (ms2 := 65 * r) F hz.k.1 ziL_67 zv_yX8_at Z8 dL_law_619 hz.k.2.1 hz.k.2.2 rfl (fun _ => rfl) rfl rfl (by omega) (by omega) (by decide) (by omega) (by omega) (fun r1 h1 f1 q1 e1 => ?_)
  have e10 : f1 0 = fk 0 := e1 0 hz.k.2.1
  refine l_inv (fun H locs cells slots w => w.swap) ?_
  refine l_aload_n (i := 2) dL_law_622 rfl l2 ?_
  refine l_arg (j := 1) HC (fun _ _ _ _ w => w.2.1) l0 l4 hq (by decide) dL_law_623 dL_law_624 dL_law_626 (by decide) dL_law_627 dL_law_628 ?_
  refine l_arg (j := 2) HC (fun _ _ _ _ w => w.2.1) l0 l4 hq (by decide) dL_law_629 dL_law_630 dL_law_632 (by decide) dL_law_633 dL_law_634 ?_
  refine l_arg (j := 3) HC (fun _ _ _ _ w => w.2.1) l0 l4 hq (by decide) dL_law_635 dL_law_636 dL_law_638 (by decide) dL_law_639 dL_law_640 ?_
  refine l_callV (st := (r1.map (zc (f1, g2))).toList ++ []) (a := 0) (ci := 9) (mc2 := 6 * r) (ms2 := 65 * r) F hz.m.1 ziL_70 zv_yX9_at Z9 dL_law_641 hz.m.2.1 hz.m.2.2 rfl (fun _ => rfl) rfl rfl (by omega) (by omega) (l_cat2 _ _) (by omega) (by omega) (fun r2 h2 f2 q2 e2 => ?_)
  have e20 : f2 0 = fm 0 := e2 0 hz.m.2.1
  obtain ⟨⟨v, rfl, rfl⟩, hz2⟩ := hQ _ _ _ _ q1 q2
  refine l_inv (fun H locs cells slots w => w.swap) ?_
  refine l_icmp_eq (x := v) (y := v) (st := []) 785 dL_law_644 (by decide) (fun _ => ?_) (fun c => absurd rfl c)
  exact N ls f1 f2 h1 h2 φ hz2 ⟨l0, by rw [e10]; exact l1, by rw [e20]; exact l2, l3, l4⟩
set_option maxHeartbeats 4000000 in
theorem law_club (HC : lwC E D tc g2 b L sa xs) (hq : q + 7 ≤ L) (N : lwN E D tc g2 b o r q) (hz : zRel hk hm) (hl : lwL ls b fk fm o q) : Lf lwX E (lwV E D tc g2 fk hk fm hm o φ (6 * (r + 1)) (65 * (r + 1))) 649 ls [] := by
  obtain ⟨l0, l1, l2, l3, l4⟩ := id hl
  obtain ⟨mc9, ms9, Qk, Qm, hmc, hms, Z8, Z9, hQ⟩ := q_club hz (xs (q + 1)) (xs (q + 2))
  have F := HC.1
  have hfr := HC.2.2.2.2.2.1
  refine l_aload_n (i := 1) dL_law_649 rfl l1 ?_
  refine l_arg (j := 1) HC (fun _ _ _ _ w => w.2.1) l0 l4 hq (by decide) dL_law_650 dL_law_651 dL_law_653 (by decide) dL_law_654 dL_law_655 ?_
  refine l_arg (j := 2) HC (fun _ _ _ _ w => w.2.1) l0 l4 hq (by decide) dL_law_656 dL_law_657 dL_law_659 (by decide) dL_law_660 dL_law_661 ?_
  refine l_callV (st := []) (a := 0) (ci := 8) (mc2 := 6 * r) (ms2 := 65 * r) F hz.k.1 ziL_71 zv_yX8_club Z8 dL_law_662 hz.k.2.1 hz.k.2.2 rfl (fun _ => rfl) rfl rfl (by omega) (by omega) (by decide) (by omega) (by omega) (fun r1 h1 f1 q1 e1 => ?_)
  have e10 : f1 0 = fk 0 := e1 0 hz.k.2.1
  refine l_inv (fun H locs cells slots w => w.swap) ?_
  refine l_aload_n (i := 2) dL_law_665 rfl l2 ?_
  refine l_arg (j := 1) HC (fun _ _ _ _ w => w.2.1) l0 l4 hq (by decide) dL_law_666 dL_law_667 dL_law_669 (by decide) dL_law_670 dL_law_671 ?_
  refine l_arg (j := 2) HC (fun _ _ _ _ w => w.2.1) l0 l4 hq (by decide) dL_law_672 dL_law_673 dL_law_675 (by decide) dL_law_676 dL_law_677 ?_
  refine l_callV (st := (r1.map (zc (f1, g2))).toList ++ []) (a := 0) (ci := 9) (mc2 := 6 * r) (ms2 := 65 * r) F hz.m.1 ziL_74 zv_yX9_club Z9 dL_law_678 hz.m.2.1 hz.m.2.2 rfl (fun _ => rfl) rfl rfl (by omega) (by omega) (l_cat2 _ _) (by omega) (by omega) (fun r2 h2 f2 q2 e2 => ?_)
  have e20 : f2 0 = fm 0 := e2 0 hz.m.2.1
  obtain ⟨⟨v, rfl, rfl⟩, hz2⟩ := hQ _ _ _ _ q1 q2
  refine l_inv (fun H locs cells slots w => w.swap) ?_
  refine l_icmp_eq (x := v) (y := v) (st := []) 785 dL_law_681 (by decide) (fun _ => ?_) (fun c => absurd rfl c)
  exact N ls f1 f2 h1 h2 φ hz2 ⟨l0, by rw [e10]; exact l1, by rw [e20]; exact l2, l3, l4⟩
set_option maxHeartbeats 4000000 in
theorem law_field (HC : lwC E D tc g2 b L sa xs) (hq : q + 7 ≤ L) (N : lwN E D tc g2 b o r q) (hz : zRel hk hm) (hl : lwL ls b fk fm o q) : Lf lwX E (lwV E D tc g2 fk hk fm hm o φ (6 * (r + 1)) (65 * (r + 1))) 686 ls [] := by
  obtain ⟨l0, l1, l2, l3, l4⟩ := id hl
  obtain ⟨mc9, ms9, Qk, Qm, hmc, hms, Z8, Z9, hQ⟩ := q_field hz (xs (q + 1)) (xs (q + 2))
  have F := HC.1
  have hfr := HC.2.2.2.2.2.1
  refine l_aload_n (i := 1) dL_law_686 rfl l1 ?_
  refine l_arg (j := 1) HC (fun _ _ _ _ w => w.2.1) l0 l4 hq (by decide) dL_law_687 dL_law_688 dL_law_690 (by decide) dL_law_691 dL_law_692 ?_
  refine l_arg (j := 2) HC (fun _ _ _ _ w => w.2.1) l0 l4 hq (by decide) dL_law_693 dL_law_694 dL_law_696 (by decide) dL_law_697 dL_law_698 ?_
  refine l_callV (st := []) (a := 0) (ci := 8) (mc2 := 6 * r) (ms2 := 65 * r) F hz.k.1 ziL_75 zv_yX8_field Z8 dL_law_699 hz.k.2.1 hz.k.2.2 rfl (fun _ => rfl) rfl rfl (by omega) (by omega) (by decide) (by omega) (by omega) (fun r1 h1 f1 q1 e1 => ?_)
  have e10 : f1 0 = fk 0 := e1 0 hz.k.2.1
  refine l_inv (fun H locs cells slots w => w.swap) ?_
  refine l_aload_n (i := 2) dL_law_702 rfl l2 ?_
  refine l_arg (j := 1) HC (fun _ _ _ _ w => w.2.1) l0 l4 hq (by decide) dL_law_703 dL_law_704 dL_law_706 (by decide) dL_law_707 dL_law_708 ?_
  refine l_arg (j := 2) HC (fun _ _ _ _ w => w.2.1) l0 l4 hq (by decide) dL_law_709 dL_law_710 dL_law_712 (by decide) dL_law_713 dL_law_714 ?_
  refine l_callV (st := (r1.map (zc (f1, g2))).toList ++ []) (a := 0) (ci := 9) (mc2 := 6 * r) (ms2 := 65 * r) F hz.m.1 ziL_78 zv_yX9_field Z9 dL_law_715 hz.m.2.1 hz.m.2.2 rfl (fun _ => rfl) rfl rfl (by omega) (by omega) (l_cat2 _ _) (by omega) (by omega) (fun r2 h2 f2 q2 e2 => ?_)
  have e20 : f2 0 = fm 0 := e2 0 hz.m.2.1
  obtain ⟨⟨v, rfl, rfl⟩, hz2⟩ := hQ _ _ _ _ q1 q2
  refine l_inv (fun H locs cells slots w => w.swap) ?_
  refine l_icmp_eq (x := v) (y := v) (st := []) 785 dL_law_718 (by decide) (fun _ => ?_) (fun c => absurd rfl c)
  exact N ls f1 f2 h1 h2 φ hz2 ⟨l0, by rw [e10]; exact l1, by rw [e20]; exact l2, l3, l4⟩
set_option maxHeartbeats 4000000 in
theorem law_would (HC : lwC E D tc g2 b L sa xs) (hq : q + 7 ≤ L) (N : lwN E D tc g2 b o r q) (hz : zRel hk hm) (hl : lwL ls b fk fm o q) : Lf lwX E (lwV E D tc g2 fk hk fm hm o φ (6 * (r + 1)) (65 * (r + 1))) 723 ls [] := by
  obtain ⟨l0, l1, l2, l3, l4⟩ := id hl
  obtain ⟨mc9, ms9, Qk, Qm, hmc, hms, Z8, Z9, hQ⟩ := q_would hz (xs (q + 1)) (xs (q + 2))
  have F := HC.1
  have hfr := HC.2.2.2.2.2.1
  refine l_aload_n (i := 1) dL_law_723 rfl l1 ?_
  refine l_arg (j := 1) HC (fun _ _ _ _ w => w.2.1) l0 l4 hq (by decide) dL_law_724 dL_law_725 dL_law_727 (by decide) dL_law_728 dL_law_729 ?_
  refine l_arg (j := 2) HC (fun _ _ _ _ w => w.2.1) l0 l4 hq (by decide) dL_law_730 dL_law_731 dL_law_733 (by decide) dL_law_734 dL_law_735 ?_
  refine l_callV (st := []) (a := 0) (ci := 8) (mc2 := 6 * r) (ms2 := 65 * r) F hz.k.1 ziL_79 zv_yX8_would Z8 dL_law_736 hz.k.2.1 hz.k.2.2 rfl (fun _ => rfl) rfl rfl (by omega) (by omega) (by decide) (by omega) (by omega) (fun r1 h1 f1 q1 e1 => ?_)
  have e10 : f1 0 = fk 0 := e1 0 hz.k.2.1
  refine l_inv (fun H locs cells slots w => w.swap) ?_
  refine l_aload_n (i := 2) dL_law_739 rfl l2 ?_
  refine l_arg (j := 1) HC (fun _ _ _ _ w => w.2.1) l0 l4 hq (by decide) dL_law_740 dL_law_741 dL_law_743 (by decide) dL_law_744 dL_law_745 ?_
  refine l_arg (j := 2) HC (fun _ _ _ _ w => w.2.1) l0 l4 hq (by decide) dL_law_746 dL_law_747 dL_law_749 (by decide) dL_law_750 dL_law_751 ?_
  refine l_callV (st := (r1.map (zc (f1, g2))).toList ++ []) (a := 0) (ci := 9) (mc2 := 6 * r) (ms2 := 65 * r) F hz.m.1 ziL_82 zv_yX9_would Z9 dL_law_752 hz.m.2.1 hz.m.2.2 rfl (fun _ => rfl) rfl rfl (by omega) (by omega) (l_cat2 _ _) (by omega) (by omega) (fun r2 h2 f2 q2 e2 => ?_)
  have e20 : f2 0 = fm 0 := e2 0 hz.m.2.1
  obtain ⟨⟨v, rfl, rfl⟩, hz2⟩ := hQ _ _ _ _ q1 q2
  refine l_inv (fun H locs cells slots w => w.swap) ?_
  refine l_icmp_eq (x := v) (y := v) (st := []) 785 dL_law_755 (by decide) (fun _ => ?_) (fun c => absurd rfl c)
  exact N ls f1 f2 h1 h2 φ hz2 ⟨l0, by rw [e10]; exact l1, by rw [e20]; exact l2, l3, l4⟩
set_option maxHeartbeats 4000000 in
theorem law_count (HC : lwC E D tc g2 b L sa xs) (hq : q + 7 ≤ L) (N : lwN E D tc g2 b o r q) (hz : zRel hk hm) (hl : lwL ls b fk fm o q) : Lf lwX E (lwV E D tc g2 fk hk fm hm o φ (6 * (r + 1)) (65 * (r + 1))) 760 ls [] := by
  obtain ⟨l0, l1, l2, l3, l4⟩ := id hl
  obtain ⟨mc9, ms9, Qk, Qm, hmc, hms, Z8, Z9, hQ⟩ := q_count hz (xs (q + 1))
  have F := HC.1
  have hfr := HC.2.2.2.2.2.1
  refine l_aload_n (i := 1) dL_law_760 rfl l1 ?_
  refine l_arg (j := 1) HC (fun _ _ _ _ w => w.2.1) l0 l4 hq (by decide) dL_law_761 dL_law_762 dL_law_764 (by decide) dL_law_765 dL_law_766 ?_
  refine l_callV (st := []) (a := 0) (ci := 8) (mc2 := 6 * r) (ms2 := 65 * r) F hz.k.1 ziL_83 zv_yX8_count Z8 dL_law_767 hz.k.2.1 hz.k.2.2 rfl (fun _ => rfl) rfl rfl (by omega) (by omega) (by decide) (by omega) (by omega) (fun r1 h1 f1 q1 e1 => ?_)
  have e10 : f1 0 = fk 0 := e1 0 hz.k.2.1
  refine l_inv (fun H locs cells slots w => w.swap) ?_
  refine l_aload_n (i := 2) dL_law_770 rfl l2 ?_
  refine l_arg (j := 1) HC (fun _ _ _ _ w => w.2.1) l0 l4 hq (by decide) dL_law_771 dL_law_772 dL_law_774 (by decide) dL_law_775 dL_law_776 ?_
  refine l_callV (st := (r1.map (zc (f1, g2))).toList ++ []) (a := 0) (ci := 9) (mc2 := 6 * r) (ms2 := 65 * r) F hz.m.1 ziL_86 zv_yX9_count Z9 dL_law_777 hz.m.2.1 hz.m.2.2 rfl (fun _ => rfl) rfl rfl (by omega) (by omega) (l_cat2 _ _) (by omega) (by omega) (fun r2 h2 f2 q2 e2 => ?_)
  have e20 : f2 0 = fm 0 := e2 0 hz.m.2.1
  obtain ⟨⟨v, rfl, rfl⟩, hz2⟩ := hQ _ _ _ _ q1 q2
  refine l_inv (fun H locs cells slots w => w.swap) ?_
  refine l_icmp_eq (x := v) (y := v) (st := []) 785 dL_law_780 (by decide) (fun _ => ?_) (fun c => absurd rfl c)
  exact N ls f1 f2 h1 h2 φ hz2 ⟨l0, by rw [e10]; exact l1, by rw [e20]; exact l2, l3, l4⟩
end LAW
