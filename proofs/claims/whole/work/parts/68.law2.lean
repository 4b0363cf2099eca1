section
/-- what the loop does behind each call -/
def lwK (p : Program) (l : Launch) (e : Env) (s : State) (m : MethodId) (below : List Frame) (meth : Method) (c : Code) (D : va_G) (cy : ClassId) (b : Nat) (adX adM : Nat → Nat) (ls : Array Slot) (Lk : Nat) : Prop := ∀ (H : Heap) (locs : List Loc) (MX MM : Mm) (z : St) (L2 : Nat), L2 ≤ Lk + 1 → GS z → XS MX z L2 → RS MM z → lwW s D cy adX adM H locs MX MM → W p l e room_1 s m #[Value.ref b] below meth c H locs 39 11820 (lwQ below b s) (F0 m 737 ls [])
theorem law_c0 {p : Program} {l : Launch} {e : Env} {s : State} {m : MethodId} {below : List Frame} {meth : Method} {c : Code} {D : va_G} {cy : ClassId} {b L : Nat} {xs : Nat → Int32} {adX adM : Nat → Nat} {H : Heap} {locs : List Loc} {MX MM : Mm} {ls : Array Slot} {i Lk n t : Nat} {h : Nat → Int32} {sp : List Nat} (C : lwC p s m meth c D cy b L xs adX adM) (hl : lv_has ls 4 (lwL b adX adM i)) (hw : lwW s D cy adX adM H locs MX MM) (hi : i + 6 ≤ L) (g : GS (h, n, t, sp)) (hX : XS MX (h, n, t, sp) Lk) (hR : RS MM (h, n, t, sp)) (hLk : Lk < 2 ^ 29) (K : lwK p l e s m below meth c D cy b adX adM ls Lk) : W p l e room_1 s m #[Value.ref b] below meth c H locs 39 11820 (lwQ below b s) (F0 m 144 ls []) := by
  obtain ⟨hx, hb, hr, hml, hown, hts, hXx, hbl, hlocks, hgv⟩ := C.1.1
  have ex : MX 1 = h := hX.1
  have em : MM 1 = h := hR.1
  have cx := x_part (M := MX) (n := n) (t := t) (sp := sp) (L := Lk) (by rw [ex]; exact g) (by rw [ex]; exact hX) (xs (i + 1)) (xs (i + 2))
  rw [ex] at cx
  have cm := r_part (M := MM) (n := n) (t := t) (sp := sp) (by rw [em]; exact g) (by rw [em]; exact hR) (xs (i + 1)) (xs (i + 2))
  rw [em] at cm
  refine lv_aload_n hx hb dL_law_144 rfl (lv_at hl 1 rfl) ?_
  refine ld_arg C hl hw hi 145 1 1 (by decide) (by decide) dL_law_145 dL_law_146 dL_law_147 dL_law_148 dL_law_149 ?_
  refine ld_arg C hl hw hi 150 2 2 (by decide) (by decide) dL_law_150 dL_law_151 dL_law_152 dL_law_153 dL_law_154 ?_
  refine law_X (as := [.int (xs (i + 1)), .int (xs (i + 2))]) (rest := []) (pc := 155) C hl hw cx rfl (wT2 22 rfl rfl) moX7_part imX7_part ⟨Nat.le_of_ble_eq_true rfl, Nat.le_of_ble_eq_true rfl⟩ rfl rfl (Nat.le_of_ble_eq_true rfl) (Nat.le_of_ble_eq_true rfl) dL_law_155 (fun r M2 H1 locs1 hq hw1 => ?_)
  obtain ⟨rfl, L2, hL2, hX2⟩ := hq
  show W p l e room_1 s m #[Value.ref b] below meth c H1 locs1 39 11820 (lwQ below b s) (F0 m 158 ls [(.int (spPart h n t sp (xs (i + 1)) (xs (i + 2))).1)])
  refine lv_aload_n hx hb dL_law_158 rfl (lv_at hl 2 rfl) ?_
  refine ld_arg C hl hw1 hi 159 1 1 (by decide) (by decide) dL_law_159 dL_law_160 dL_law_161 dL_law_162 dL_law_163 ?_
  refine ld_arg C hl hw1 hi 164 2 2 (by decide) (by decide) dL_law_164 dL_law_165 dL_law_166 dL_law_167 dL_law_168 ?_
  refine law_M (as := [.int (xs (i + 1)), .int (xs (i + 2))]) (rest := [(.int (spPart h n t sp (xs (i + 1)) (xs (i + 2))).1)]) (pc := 169) C hl hw1 cm rfl (wT4 37 rfl rfl) moX8_part imX8_part ⟨Nat.le_of_ble_eq_true rfl, Nat.le_of_ble_eq_true rfl⟩ rfl rfl (Nat.le_of_ble_eq_true rfl) (Nat.le_of_ble_eq_true rfl) dL_law_169 (fun r M3 H2 locs2 hq hw2 => ?_)
  obtain ⟨rfl, hR2⟩ := hq
  show W p l e room_1 s m #[Value.ref b] below meth c H2 locs2 39 11820 (lwQ below b s) (F0 m 172 ls [(.int (spPart h n t sp (xs (i + 1)) (xs (i + 2))).1), (.int (spPart h n t sp (xs (i + 1)) (xs (i + 2))).1)])
  refine lv_icmp_eq (tgt := 737) hx hb dL_law_172 (by decide) (fun _ => ?_) (fun c => absurd rfl c)
  exact K H2 locs2 M2 M3 _ L2 hL2 (gs_spPart g _ _) hX2 hR2 hw2
theorem law_c1 {p : Program} {l : Launch} {e : Env} {s : State} {m : MethodId} {below : List Frame} {meth : Method} {c : Code} {D : va_G} {cy : ClassId} {b L : Nat} {xs : Nat → Int32} {adX adM : Nat → Nat} {H : Heap} {locs : List Loc} {MX MM : Mm} {ls : Array Slot} {i Lk n t : Nat} {h : Nat → Int32} {sp : List Nat} (C : lwC p s m meth c D cy b L xs adX adM) (hl : lv_has ls 4 (lwL b adX adM i)) (hw : lwW s D cy adX adM H locs MX MM) (hi : i + 6 ≤ L) (g : GS (h, n, t, sp)) (hX : XS MX (h, n, t, sp) Lk) (hR : RS MM (h, n, t, sp)) (hLk : Lk < 2 ^ 29) (K : lwK p l e s m below meth c D cy b adX adM ls Lk) : W p l e room_1 s m #[Value.ref b] below meth c H locs 39 11820 (lwQ below b s) (F0 m 177 ls []) := by
  obtain ⟨hx, hb, hr, hml, hown, hts, hXx, hbl, hlocks, hgv⟩ := C.1.1
  have ex : MX 1 = h := hX.1
  have em : MM 1 = h := hR.1
  have cx := x_set (M := MX) (n := n) (t := t) (sp := sp) (L := Lk) (by rw [ex]; exact g) (by rw [ex]; exact hX) (xs (i + 1)) (xs (i + 2)) (xs (i + 3))
  rw [ex] at cx
  have cm := r_set (M := MM) (n := n) (t := t) (sp := sp) (by rw [em]; exact g) (by rw [em]; exact hR) (xs (i + 1)) (xs (i + 2)) (xs (i + 3))
  rw [em] at cm
  refine lv_aload_n hx hb dL_law_177 rfl (lv_at hl 1 rfl) ?_
  refine ld_arg C hl hw hi 178 1 1 (by decide) (by decide) dL_law_178 dL_law_179 dL_law_180 dL_law_181 dL_law_182 ?_
  refine ld_arg C hl hw hi 183 2 2 (by decide) (by decide) dL_law_183 dL_law_184 dL_law_185 dL_law_186 dL_law_187 ?_
  refine ld_arg C hl hw hi 188 3 3 (by decide) (by decide) dL_law_188 dL_law_189 dL_law_190 dL_law_191 dL_law_192 ?_
  refine law_X (as := [.int (xs (i + 1)), .int (xs (i + 2)), .int (xs (i + 3))]) (rest := []) (pc := 193) C hl hw cx rfl (wT2 48 rfl rfl) moX7_set imX7_set ⟨Nat.le_of_ble_eq_true rfl, Nat.le_of_ble_eq_true rfl⟩ rfl rfl (Nat.le_of_ble_eq_true rfl) (Nat.le_of_ble_eq_true rfl) dL_law_193 (fun r M2 H1 locs1 hq hw1 => ?_)
  obtain ⟨rfl, L2, hL2, hX2⟩ := hq
  show W p l e room_1 s m #[Value.ref b] below meth c H1 locs1 39 11820 (lwQ below b s) (F0 m 196 ls [(.int (spSet h n t sp (xs (i + 1)) (xs (i + 2)) (xs (i + 3))).1)])
  refine lv_aload_n hx hb dL_law_196 rfl (lv_at hl 2 rfl) ?_
  refine ld_arg C hl hw1 hi 197 1 1 (by decide) (by decide) dL_law_197 dL_law_198 dL_law_199 dL_law_200 dL_law_201 ?_
  refine ld_arg C hl hw1 hi 202 2 2 (by decide) (by decide) dL_law_202 dL_law_203 dL_law_204 dL_law_205 dL_law_206 ?_
  refine ld_arg C hl hw1 hi 207 3 3 (by decide) (by decide) dL_law_207 dL_law_208 dL_law_209 dL_law_210 dL_law_211 ?_
  refine law_M (as := [.int (xs (i + 1)), .int (xs (i + 2)), .int (xs (i + 3))]) (rest := [(.int (spSet h n t sp (xs (i + 1)) (xs (i + 2)) (xs (i + 3))).1)]) (pc := 212) C hl hw1 cm rfl (wT4 49 rfl rfl) moX8_set imX8_set ⟨Nat.le_of_ble_eq_true rfl, Nat.le_of_ble_eq_true rfl⟩ rfl rfl (Nat.le_of_ble_eq_true rfl) (Nat.le_of_ble_eq_true rfl) dL_law_212 (fun r M3 H2 locs2 hq hw2 => ?_)
  obtain ⟨rfl, hR2⟩ := hq
  show W p l e room_1 s m #[Value.ref b] below meth c H2 locs2 39 11820 (lwQ below b s) (F0 m 215 ls [(.int (spSet h n t sp (xs (i + 1)) (xs (i + 2)) (xs (i + 3))).1), (.int (spSet h n t sp (xs (i + 1)) (xs (i + 2)) (xs (i + 3))).1)])
  refine lv_icmp_eq (tgt := 737) hx hb dL_law_215 (by decide) (fun _ => ?_) (fun c => absurd rfl c)
  exact K H2 locs2 M2 M3 _ L2 hL2 (gs_spSet g _ _ _) hX2 hR2 hw2
theorem law_c2 {p : Program} {l : Launch} {e : Env} {s : State} {m : MethodId} {below : List Frame} {meth : Method} {c : Code} {D : va_G} {cy : ClassId} {b L : Nat} {xs : Nat → Int32} {adX adM : Nat → Nat} {H : Heap} {locs : List Loc} {MX MM : Mm} {ls : Array Slot} {i Lk n t : Nat} {h : Nat → Int32} {sp : List Nat} (C : lwC p s m meth c D cy b L xs adX adM) (hl : lv_has ls 4 (lwL b adX adM i)) (hw : lwW s D cy adX adM H locs MX MM) (hi : i + 6 ≤ L) (g : GS (h, n, t, sp)) (hX : XS MX (h, n, t, sp) Lk) (hR : RS MM (h, n, t, sp)) (hLk : Lk < 2 ^ 29) (K : lwK p l e s m below meth c D cy b adX adM ls Lk) : W p l e room_1 s m #[Value.ref b] below meth c H locs 39 11820 (lwQ below b s) (F0 m 220 ls []) := by
  obtain ⟨hx, hb, hr, hml, hown, hts, hXx, hbl, hlocks, hgv⟩ := C.1.1
  have ex : MX 1 = h := hX.1
  have em : MM 1 = h := hR.1
  have cx := x_told (M := MX) (n := n) (t := t) (sp := sp) (L := Lk) (by rw [ex]; exact g) (by rw [ex]; exact hX) (xs (i + 1)) (xs (i + 2))
  rw [ex] at cx
  have cm := r_told (M := MM) (n := n) (t := t) (sp := sp) (by rw [em]; exact g) (by rw [em]; exact hR) (xs (i + 1)) (xs (i + 2))
  rw [em] at cm
  refine lv_aload_n hx hb dL_law_220 rfl (lv_at hl 1 rfl) ?_
  refine ld_arg C hl hw hi 221 1 1 (by decide) (by decide) dL_law_221 dL_law_222 dL_law_223 dL_law_224 dL_law_225 ?_
  refine ld_arg C hl hw hi 226 2 2 (by decide) (by decide) dL_law_226 dL_law_227 dL_law_228 dL_law_229 dL_law_230 ?_
  refine law_X (as := [.int (xs (i + 1)), .int (xs (i + 2))]) (rest := []) (pc := 231) C hl hw cx rfl (wT2 100 rfl rfl) moX7_told imX7_told ⟨Nat.le_of_ble_eq_true rfl, Nat.le_of_ble_eq_true rfl⟩ rfl rfl (Nat.le_of_ble_eq_true rfl) (Nat.le_of_ble_eq_true rfl) dL_law_231 (fun r M2 H1 locs1 hq hw1 => ?_)
  obtain ⟨rfl, L2, hL2, hX2⟩ := hq
  show W p l e room_1 s m #[Value.ref b] below meth c H1 locs1 39 11820 (lwQ below b s) (F0 m 234 ls [(.int ((spTold h n (xs (i + 1)) (xs (i + 2)), (h, n, t, sp))).1)])
  refine lv_aload_n hx hb dL_law_234 rfl (lv_at hl 2 rfl) ?_
  refine ld_arg C hl hw1 hi 235 1 1 (by decide) (by decide) dL_law_235 dL_law_236 dL_law_237 dL_law_238 dL_law_239 ?_
  refine ld_arg C hl hw1 hi 240 2 2 (by decide) (by decide) dL_law_240 dL_law_241 dL_law_242 dL_law_243 dL_law_244 ?_
  refine law_M (as := [.int (xs (i + 1)), .int (xs (i + 2))]) (rest := [(.int ((spTold h n (xs (i + 1)) (xs (i + 2)), (h, n, t, sp))).1)]) (pc := 245) C hl hw1 cm rfl (wT4 84 rfl rfl) moX8_told imX8_told ⟨Nat.le_of_ble_eq_true rfl, Nat.le_of_ble_eq_true rfl⟩ rfl rfl (Nat.le_of_ble_eq_true rfl) (Nat.le_of_ble_eq_true rfl) dL_law_245 (fun r M3 H2 locs2 hq hw2 => ?_)
  obtain ⟨rfl, hR2⟩ := hq
  show W p l e room_1 s m #[Value.ref b] below meth c H2 locs2 39 11820 (lwQ below b s) (F0 m 248 ls [(.int ((spTold h n (xs (i + 1)) (xs (i + 2)), (h, n, t, sp))).1), (.int ((spTold h n (xs (i + 1)) (xs (i + 2)), (h, n, t, sp))).1)])
  refine lv_icmp_eq (tgt := 737) hx hb dL_law_248 (by decide) (fun _ => ?_) (fun c => absurd rfl c)
  exact K H2 locs2 M2 M3 _ L2 hL2 (g) hX2 hR2 hw2
theorem law_c3 {p : Program} {l : Launch} {e : Env} {s : State} {m : MethodId} {below : List Frame} {meth : Method} {c : Code} {D : va_G} {cy : ClassId} {b L : Nat} {xs : Nat → Int32} {adX adM : Nat → Nat} {H : Heap} {locs : List Loc} {MX MM : Mm} {ls : Array Slot} {i Lk n t : Nat} {h : Nat → Int32} {sp : List Nat} (C : lwC p s m meth c D cy b L xs adX adM) (hl : lv_has ls 4 (lwL b adX adM i)) (hw : lwW s D cy adX adM H locs MX MM) (hi : i + 6 ≤ L) (g : GS (h, n, t, sp)) (hX : XS MX (h, n, t, sp) Lk) (hR : RS MM (h, n, t, sp)) (hLk : Lk < 2 ^ 29) (K : lwK p l e s m below meth c D cy b adX adM ls Lk) : W p l e room_1 s m #[Value.ref b] below meth c H locs 39 11820 (lwQ below b s) (F0 m 253 ls []) := by
  obtain ⟨hx, hb, hr, hml, hown, hts, hXx, hbl, hlocks, hgv⟩ := C.1.1
  have ex : MX 1 = h := hX.1
  have em : MM 1 = h := hR.1
  have cx := x_box (M := MX) (n := n) (t := t) (sp := sp) (L := Lk) (by rw [ex]; exact g) (by rw [ex]; exact hX) (xs (i + 1)) (xs (i + 2)) (xs (i + 3)) (xs (i + 4)) (xs (i + 5))
  rw [ex] at cx
  have cm := r_box (M := MM) (n := n) (t := t) (sp := sp) (by rw [em]; exact g) (by rw [em]; exact hR) (xs (i + 1)) (xs (i + 2)) (xs (i + 3)) (xs (i + 4)) (xs (i + 5))
  rw [em] at cm
  refine lv_aload_n hx hb dL_law_253 rfl (lv_at hl 1 rfl) ?_
  refine ld_arg C hl hw hi 254 1 1 (by decide) (by decide) dL_law_254 dL_law_255 dL_law_256 dL_law_257 dL_law_258 ?_
  refine ld_arg C hl hw hi 259 2 2 (by decide) (by decide) dL_law_259 dL_law_260 dL_law_261 dL_law_262 dL_law_263 ?_
  refine ld_arg C hl hw hi 264 3 3 (by decide) (by decide) dL_law_264 dL_law_265 dL_law_266 dL_law_267 dL_law_268 ?_
  refine ld_arg C hl hw hi 269 4 4 (by decide) (by decide) dL_law_269 dL_law_270 dL_law_271 dL_law_272 dL_law_273 ?_
  refine ld_arg C hl hw hi 274 5 5 (by decide) (by decide) dL_law_274 dL_law_275 dL_law_276 dL_law_277 dL_law_278 ?_
  refine law_X (as := [.int (xs (i + 1)), .int (xs (i + 2)), .int (xs (i + 3)), .int (xs (i + 4)), .int (xs (i + 5))]) (rest := []) (pc := 279) C hl hw cx rfl (wT2 104 rfl rfl) moX7_box imX7_box ⟨Nat.le_of_ble_eq_true rfl, Nat.le_of_ble_eq_true rfl⟩ rfl rfl (Nat.le_of_ble_eq_true rfl) (Nat.le_of_ble_eq_true rfl) dL_law_279 (fun r M2 H1 locs1 hq hw1 => ?_)
  obtain ⟨rfl, L2, hL2, hX2⟩ := hq
  show W p l e room_1 s m #[Value.ref b] below meth c H1 locs1 39 11820 (lwQ below b s) (F0 m 282 ls [(.int (spBox h n t sp (xs (i + 1)) (xs (i + 2)) (xs (i + 3)) (xs (i + 4)) (xs (i + 5))).1)])
  refine lv_aload_n hx hb dL_law_282 rfl (lv_at hl 2 rfl) ?_
  refine ld_arg C hl hw1 hi 283 1 1 (by decide) (by decide) dL_law_283 dL_law_284 dL_law_285 dL_law_286 dL_law_287 ?_
  refine ld_arg C hl hw1 hi 288 2 2 (by decide) (by decide) dL_law_288 dL_law_289 dL_law_290 dL_law_291 dL_law_292 ?_
  refine ld_arg C hl hw1 hi 293 3 3 (by decide) (by decide) dL_law_293 dL_law_294 dL_law_295 dL_law_296 dL_law_297 ?_
  refine ld_arg C hl hw1 hi 298 4 4 (by decide) (by decide) dL_law_298 dL_law_299 dL_law_300 dL_law_301 dL_law_302 ?_
  refine ld_arg C hl hw1 hi 303 5 5 (by decide) (by decide) dL_law_303 dL_law_304 dL_law_305 dL_law_306 dL_law_307 ?_
  refine law_M (as := [.int (xs (i + 1)), .int (xs (i + 2)), .int (xs (i + 3)), .int (xs (i + 4)), .int (xs (i + 5))]) (rest := [(.int (spBox h n t sp (xs (i + 1)) (xs (i + 2)) (xs (i + 3)) (xs (i + 4)) (xs (i + 5))).1)]) (pc := 308) C hl hw1 cm rfl (wT4 89 rfl rfl) moX8_box imX8_box ⟨Nat.le_of_ble_eq_true rfl, Nat.le_of_ble_eq_true rfl⟩ rfl rfl (Nat.le_of_ble_eq_true rfl) (Nat.le_of_ble_eq_true rfl) dL_law_308 (fun r M3 H2 locs2 hq hw2 => ?_)
  obtain ⟨rfl, hR2⟩ := hq
  show W p l e room_1 s m #[Value.ref b] below meth c H2 locs2 39 11820 (lwQ below b s) (F0 m 311 ls [(.int (spBox h n t sp (xs (i + 1)) (xs (i + 2)) (xs (i + 3)) (xs (i + 4)) (xs (i + 5))).1), (.int (spBox h n t sp (xs (i + 1)) (xs (i + 2)) (xs (i + 3)) (xs (i + 4)) (xs (i + 5))).1)])
  refine lv_icmp_eq (tgt := 737) hx hb dL_law_311 (by decide) (fun _ => ?_) (fun c => absurd rfl c)
  exact K H2 locs2 M2 M3 _ L2 hL2 (gs_spBox g _ _ _ _ _) hX2 hR2 hw2
theorem law_c4 {p : Program} {l : Launch} {e : Env} {s : State} {m : MethodId} {below : List Frame} {meth : Method} {c : Code} {D : va_G} {cy : ClassId} {b L : Nat} {xs : Nat → Int32} {adX adM : Nat → Nat} {H : Heap} {locs : List Loc} {MX MM : Mm} {ls : Array Slot} {i Lk n t : Nat} {h : Nat → Int32} {sp : List Nat} (C : lwC p s m meth c D cy b L xs adX adM) (hl : lv_has ls 4 (lwL b adX adM i)) (hw : lwW s D cy adX adM H locs MX MM) (hi : i + 6 ≤ L) (g : GS (h, n, t, sp)) (hX : XS MX (h, n, t, sp) Lk) (hR : RS MM (h, n, t, sp)) (hLk : Lk < 2 ^ 29) (K : lwK p l e s m below meth c D cy b adX adM ls Lk) : W p l e room_1 s m #[Value.ref b] below meth c H locs 39 11820 (lwQ below b s) (F0 m 316 ls []) := by
  obtain ⟨hx, hb, hr, hml, hown, hts, hXx, hbl, hlocks, hgv⟩ := C.1.1
  have ex : MX 1 = h := hX.1
  have em : MM 1 = h := hR.1
  have cx := x_colours (M := MX) (n := n) (t := t) (sp := sp) (L := Lk) (by rw [ex]; exact g) (by rw [ex]; exact hX) (xs (i + 1)) (xs (i + 2)) (xs (i + 3))
  rw [ex] at cx
  have cm := r_colours (M := MM) (n := n) (t := t) (sp := sp) (by rw [em]; exact g) (by rw [em]; exact hR) (xs (i + 1)) (xs (i + 2)) (xs (i + 3))
  rw [em] at cm
  refine lv_aload_n hx hb dL_law_316 rfl (lv_at hl 1 rfl) ?_
  refine ld_arg C hl hw hi 317 1 1 (by decide) (by decide) dL_law_317 dL_law_318 dL_law_319 dL_law_320 dL_law_321 ?_
  refine ld_arg C hl hw hi 322 2 2 (by decide) (by decide) dL_law_322 dL_law_323 dL_law_324 dL_law_325 dL_law_326 ?_
  refine ld_arg C hl hw hi 327 3 3 (by decide) (by decide) dL_law_327 dL_law_328 dL_law_329 dL_law_330 dL_law_331 ?_
  refine law_X (as := [.int (xs (i + 1)), .int (xs (i + 2)), .int (xs (i + 3))]) (rest := []) (pc := 332) C hl hw cx rfl (wT2 111 rfl rfl) moX7_colours imX7_colours ⟨Nat.le_of_ble_eq_true rfl, Nat.le_of_ble_eq_true rfl⟩ rfl rfl (Nat.le_of_ble_eq_true rfl) (Nat.le_of_ble_eq_true rfl) dL_law_332 (fun r M2 H1 locs1 hq hw1 => ?_)
  obtain ⟨rfl, L2, hL2, hX2⟩ := hq
  show W p l e room_1 s m #[Value.ref b] below meth c H1 locs1 39 11820 (lwQ below b s) (F0 m 335 ls [(.int (spCol h n t sp (xs (i + 1)) (xs (i + 2)) (xs (i + 3))).1)])
  refine lv_aload_n hx hb dL_law_335 rfl (lv_at hl 2 rfl) ?_
  refine ld_arg C hl hw1 hi 336 1 1 (by decide) (by decide) dL_law_336 dL_law_337 dL_law_338 dL_law_339 dL_law_340 ?_
  refine ld_arg C hl hw1 hi 341 2 2 (by decide) (by decide) dL_law_341 dL_law_342 dL_law_343 dL_law_344 dL_law_345 ?_
  refine ld_arg C hl hw1 hi 346 3 3 (by decide) (by decide) dL_law_346 dL_law_347 dL_law_348 dL_law_349 dL_law_350 ?_
  refine law_M (as := [.int (xs (i + 1)), .int (xs (i + 2)), .int (xs (i + 3))]) (rest := [(.int (spCol h n t sp (xs (i + 1)) (xs (i + 2)) (xs (i + 3))).1)]) (pc := 351) C hl hw1 cm rfl (wT4 94 rfl rfl) moX8_colours imX8_colours ⟨Nat.le_of_ble_eq_true rfl, Nat.le_of_ble_eq_true rfl⟩ rfl rfl (Nat.le_of_ble_eq_true rfl) (Nat.le_of_ble_eq_true rfl) dL_law_351 (fun r M3 H2 locs2 hq hw2 => ?_)
  obtain ⟨rfl, hR2⟩ := hq
  show W p l e room_1 s m #[Value.ref b] below meth c H2 locs2 39 11820 (lwQ below b s) (F0 m 354 ls [(.int (spCol h n t sp (xs (i + 1)) (xs (i + 2)) (xs (i + 3))).1), (.int (spCol h n t sp (xs (i + 1)) (xs (i + 2)) (xs (i + 3))).1)])
  refine lv_icmp_eq (tgt := 737) hx hb dL_law_354 (by decide) (fun _ => ?_) (fun c => absurd rfl c)
  exact K H2 locs2 M2 M3 _ L2 hL2 (gs_spCol g _ _ _) hX2 hR2 hw2
theorem law_c5 {p : Program} {l : Launch} {e : Env} {s : State} {m : MethodId} {below : List Frame} {meth : Method} {c : Code} {D : va_G} {cy : ClassId} {b L : Nat} {xs : Nat → Int32} {adX adM : Nat → Nat} {H : Heap} {locs : List Loc} {MX MM : Mm} {ls : Array Slot} {i Lk n t : Nat} {h : Nat → Int32} {sp : List Nat} (C : lwC p s m meth c D cy b L xs adX adM) (hl : lv_has ls 4 (lwL b adX adM i)) (hw : lwW s D cy adX adM H locs MX MM) (hi : i + 6 ≤ L) (g : GS (h, n, t, sp)) (hX : XS MX (h, n, t, sp) Lk) (hR : RS MM (h, n, t, sp)) (hLk : Lk < 2 ^ 29) (K : lwK p l e s m below meth c D cy b adX adM ls Lk) : W p l e room_1 s m #[Value.ref b] below meth c H locs 39 11820 (lwQ below b s) (F0 m 359 ls []) := by
  obtain ⟨hx, hb, hr, hml, hown, hts, hXx, hbl, hlocks, hgv⟩ := C.1.1
  have ex : MX 1 = h := hX.1
  have em : MM 1 = h := hR.1
  have cx := x_contrast (M := MX) (n := n) (t := t) (sp := sp) (L := Lk) (by rw [ex]; exact g) (by rw [ex]; exact hX) (xs (i + 1))
  rw [ex] at cx
  have cm := r_contrast (M := MM) (n := n) (t := t) (sp := sp) (by rw [em]; exact g) (by rw [em]; exact hR) (xs (i + 1))
  rw [em] at cm
  refine lv_aload_n hx hb dL_law_359 rfl (lv_at hl 1 rfl) ?_
  refine ld_arg C hl hw hi 360 1 1 (by decide) (by decide) dL_law_360 dL_law_361 dL_law_362 dL_law_363 dL_law_364 ?_
  refine law_X (as := [.int (xs (i + 1))]) (rest := []) (pc := 365) C hl hw cx rfl (wT2 137 rfl rfl) moX7_contrast imX7_contrast ⟨Nat.le_of_ble_eq_true rfl, Nat.le_of_ble_eq_true rfl⟩ rfl rfl (Nat.le_of_ble_eq_true rfl) (Nat.le_of_ble_eq_true rfl) dL_law_365 (fun r M2 H1 locs1 hq hw1 => ?_)
  obtain ⟨rfl, L2, hL2, hX2⟩ := hq
  show W p l e room_1 s m #[Value.ref b] below meth c H1 locs1 39 11820 (lwQ below b s) (F0 m 368 ls [(.int ((ctF h n (xs (i + 1)), (h, n, t, sp))).1)])
  refine lv_aload_n hx hb dL_law_368 rfl (lv_at hl 2 rfl) ?_
  refine ld_arg C hl hw1 hi 369 1 1 (by decide) (by decide) dL_law_369 dL_law_370 dL_law_371 dL_law_372 dL_law_373 ?_
  refine law_M (as := [.int (xs (i + 1))]) (rest := [(.int ((ctF h n (xs (i + 1)), (h, n, t, sp))).1)]) (pc := 374) C hl hw1 cm rfl (wT4 109 rfl rfl) moX8_contrast imX8_contrast ⟨Nat.le_of_ble_eq_true rfl, Nat.le_of_ble_eq_true rfl⟩ rfl rfl (Nat.le_of_ble_eq_true rfl) (Nat.le_of_ble_eq_true rfl) dL_law_374 (fun r M3 H2 locs2 hq hw2 => ?_)
  obtain ⟨rfl, hR2⟩ := hq
  show W p l e room_1 s m #[Value.ref b] below meth c H2 locs2 39 11820 (lwQ below b s) (F0 m 377 ls [(.int ((ctF h n (xs (i + 1)), (h, n, t, sp))).1), (.int ((ctF h n (xs (i + 1)), (h, n, t, sp))).1)])
  refine lv_icmp_eq (tgt := 737) hx hb dL_law_377 (by decide) (fun _ => ?_) (fun c => absurd rfl c)
  exact K H2 locs2 M2 M3 _ L2 hL2 (g) hX2 hR2 hw2
theorem law_c6 {p : Program} {l : Launch} {e : Env} {s : State} {m : MethodId} {below : List Frame} {meth : Method} {c : Code} {D : va_G} {cy : ClassId} {b L : Nat} {xs : Nat → Int32} {adX adM : Nat → Nat} {H : Heap} {locs : List Loc} {MX MM : Mm} {ls : Array Slot} {i Lk n t : Nat} {h : Nat → Int32} {sp : List Nat} (C : lwC p s m meth c D cy b L xs adX adM) (hl : lv_has ls 4 (lwL b adX adM i)) (hw : lwW s D cy adX adM H locs MX MM) (hi : i + 6 ≤ L) (g : GS (h, n, t, sp)) (hX : XS MX (h, n, t, sp) Lk) (hR : RS MM (h, n, t, sp)) (hLk : Lk < 2 ^ 29) (K : lwK p l e s m below meth c D cy b adX adM ls Lk) : W p l e room_1 s m #[Value.ref b] below meth c H locs 39 11820 (lwQ below b s) (F0 m 382 ls []) := by
  obtain ⟨hx, hb, hr, hml, hown, hts, hXx, hbl, hlocks, hgv⟩ := C.1.1
  have ex : MX 1 = h := hX.1
  have em : MM 1 = h := hR.1
  have cx := x_name (M := MX) (n := n) (t := t) (sp := sp) (L := Lk) (by rw [ex]; exact g) (by rw [ex]; exact hX) (xs (i + 1))
  rw [ex] at cx
  have cm := r_name (M := MM) (n := n) (t := t) (sp := sp) (by rw [em]; exact g) (by rw [em]; exact hR) (xs (i + 1))
  rw [em] at cm
  refine lv_aload_n hx hb dL_law_382 rfl (lv_at hl 1 rfl) ?_
  refine ld_arg C hl hw hi 383 1 1 (by decide) (by decide) dL_law_383 dL_law_384 dL_law_385 dL_law_386 dL_law_387 ?_
  refine law_X (as := [.int (xs (i + 1))]) (rest := []) (pc := 388) C hl hw cx rfl (wT2 141 rfl rfl) moX7_name imX7_name ⟨Nat.le_of_ble_eq_true rfl, Nat.le_of_ble_eq_true rfl⟩ rfl rfl (Nat.le_of_ble_eq_true rfl) (Nat.le_of_ble_eq_true rfl) dL_law_388 (fun r M2 H1 locs1 hq hw1 => ?_)
  obtain ⟨rfl, L2, hL2, hX2⟩ := hq
  show W p l e room_1 s m #[Value.ref b] below meth c H1 locs1 39 11820 (lwQ below b s) (F0 m 391 ls [(.int ((spName h n (xs (i + 1)), (h, n, t, sp))).1)])
  refine lv_aload_n hx hb dL_law_391 rfl (lv_at hl 2 rfl) ?_
  refine ld_arg C hl hw1 hi 392 1 1 (by decide) (by decide) dL_law_392 dL_law_393 dL_law_394 dL_law_395 dL_law_396 ?_
  refine law_M (as := [.int (xs (i + 1))]) (rest := [(.int ((spName h n (xs (i + 1)), (h, n, t, sp))).1)]) (pc := 397) C hl hw1 cm rfl (wT4 113 rfl rfl) moX8_name imX8_name ⟨Nat.le_of_ble_eq_true rfl, Nat.le_of_ble_eq_true rfl⟩ rfl rfl (Nat.le_of_ble_eq_true rfl) (Nat.le_of_ble_eq_true rfl) dL_law_397 (fun r M3 H2 locs2 hq hw2 => ?_)
  obtain ⟨rfl, hR2⟩ := hq
  show W p l e room_1 s m #[Value.ref b] below meth c H2 locs2 39 11820 (lwQ below b s) (F0 m 400 ls [(.int ((spName h n (xs (i + 1)), (h, n, t, sp))).1), (.int ((spName h n (xs (i + 1)), (h, n, t, sp))).1)])
  refine lv_icmp_eq (tgt := 737) hx hb dL_law_400 (by decide) (fun _ => ?_) (fun c => absurd rfl c)
  exact K H2 locs2 M2 M3 _ L2 hL2 (g) hX2 hR2 hw2
theorem law_c7 {p : Program} {l : Launch} {e : Env} {s : State} {m : MethodId} {below : List Frame} {meth : Method} {c : Code} {D : va_G} {cy : ClassId} {b L : Nat} {xs : Nat → Int32} {adX adM : Nat → Nat} {H : Heap} {locs : List Loc} {MX MM : Mm} {ls : Array Slot} {i Lk n t : Nat} {h : Nat → Int32} {sp : List Nat} (C : lwC p s m meth c D cy b L xs adX adM) (hl : lv_has ls 4 (lwL b adX adM i)) (hw : lwW s D cy adX adM H locs MX MM) (hi : i + 6 ≤ L) (g : GS (h, n, t, sp)) (hX : XS MX (h, n, t, sp) Lk) (hR : RS MM (h, n, t, sp)) (hLk : Lk < 2 ^ 29) (K : lwK p l e s m below meth c D cy b adX adM ls Lk) : W p l e room_1 s m #[Value.ref b] below meth c H locs 39 11820 (lwQ below b s) (F0 m 405 ls []) := by
  obtain ⟨hx, hb, hr, hml, hown, hts, hXx, hbl, hlocks, hgv⟩ := C.1.1
  have ex : MX 1 = h := hX.1
  have em : MM 1 = h := hR.1
  have cx := x_word (M := MX) (n := n) (t := t) (sp := sp) (L := Lk) (by rw [ex]; exact g) (by rw [ex]; exact hX) (xs (i + 1)) (xs (i + 2))
  rw [ex] at cx
  have cm := r_word (M := MM) (n := n) (t := t) (sp := sp) (by rw [em]; exact g) (by rw [em]; exact hR) (xs (i + 1)) (xs (i + 2))
  rw [em] at cm
  refine lv_aload_n hx hb dL_law_405 rfl (lv_at hl 1 rfl) ?_
  refine ld_arg C hl hw hi 406 1 1 (by decide) (by decide) dL_law_406 dL_law_407 dL_law_408 dL_law_409 dL_law_410 ?_
  refine ld_arg C hl hw hi 411 2 2 (by decide) (by decide) dL_law_411 dL_law_412 dL_law_413 dL_law_414 dL_law_415 ?_
  refine law_X (as := [.int (xs (i + 1)), .int (xs (i + 2))]) (rest := []) (pc := 416) C hl hw cx rfl (wT2 169 rfl rfl) moX7_word imX7_word ⟨Nat.le_of_ble_eq_true rfl, Nat.le_of_ble_eq_true rfl⟩ rfl rfl (Nat.le_of_ble_eq_true rfl) (Nat.le_of_ble_eq_true rfl) dL_law_416 (fun r M2 H1 locs1 hq hw1 => ?_)
  obtain ⟨rfl, L2, hL2, hX2⟩ := hq
  show W p l e room_1 s m #[Value.ref b] below meth c H1 locs1 39 11820 (lwQ below b s) (F0 m 419 ls [(.int ((spWord h n (xs (i + 1)) (xs (i + 2)), (h, n, t, sp))).1)])
  refine lv_aload_n hx hb dL_law_419 rfl (lv_at hl 2 rfl) ?_
  refine ld_arg C hl hw1 hi 420 1 1 (by decide) (by decide) dL_law_420 dL_law_421 dL_law_422 dL_law_423 dL_law_424 ?_
  refine ld_arg C hl hw1 hi 425 2 2 (by decide) (by decide) dL_law_425 dL_law_426 dL_law_427 dL_law_428 dL_law_429 ?_
  refine law_M (as := [.int (xs (i + 1)), .int (xs (i + 2))]) (rest := [(.int ((spWord h n (xs (i + 1)) (xs (i + 2)), (h, n, t, sp))).1)]) (pc := 430) C hl hw1 cm rfl (wT4 133 rfl rfl) moX8_word imX8_word ⟨Nat.le_of_ble_eq_true rfl, Nat.le_of_ble_eq_true rfl⟩ rfl rfl (Nat.le_of_ble_eq_true rfl) (Nat.le_of_ble_eq_true rfl) dL_law_430 (fun r M3 H2 locs2 hq hw2 => ?_)
  obtain ⟨rfl, hR2⟩ := hq
  show W p l e room_1 s m #[Value.ref b] below meth c H2 locs2 39 11820 (lwQ below b s) (F0 m 433 ls [(.int ((spWord h n (xs (i + 1)) (xs (i + 2)), (h, n, t, sp))).1), (.int ((spWord h n (xs (i + 1)) (xs (i + 2)), (h, n, t, sp))).1)])
  refine lv_icmp_eq (tgt := 737) hx hb dL_law_433 (by decide) (fun _ => ?_) (fun c => absurd rfl c)
  exact K H2 locs2 M2 M3 _ L2 hL2 (g) hX2 hR2 hw2
theorem law_c8 {p : Program} {l : Launch} {e : Env} {s : State} {m : MethodId} {below : List Frame} {meth : Method} {c : Code} {D : va_G} {cy : ClassId} {b L : Nat} {xs : Nat → Int32} {adX adM : Nat → Nat} {H : Heap} {locs : List Loc} {MX MM : Mm} {ls : Array Slot} {i Lk n t : Nat} {h : Nat → Int32} {sp : List Nat} (C : lwC p s m meth c D cy b L xs adX adM) (hl : lv_has ls 4 (lwL b adX adM i)) (hw : lwW s D cy adX adM H locs MX MM) (hi : i + 6 ≤ L) (g : GS (h, n, t, sp)) (hX : XS MX (h, n, t, sp) Lk) (hR : RS MM (h, n, t, sp)) (hLk : Lk < 2 ^ 29) (K : lwK p l e s m below meth c D cy b adX adM ls Lk) : W p l e room_1 s m #[Value.ref b] below meth c H locs 39 11820 (lwQ below b s) (F0 m 438 ls []) := by
  obtain ⟨hx, hb, hr, hml, hown, hts, hXx, hbl, hlocks, hgv⟩ := C.1.1
  have ex : MX 1 = h := hX.1
  have em : MM 1 = h := hR.1
  have cx := x_said (M := MX) (n := n) (t := t) (sp := sp) (L := Lk) (by rw [ex]; exact g) (by rw [ex]; exact hX) (xs (i + 1))
  rw [ex] at cx
  have cm := r_said (M := MM) (n := n) (t := t) (sp := sp) (by rw [em]; exact g) (by rw [em]; exact hR) (xs (i + 1))
  rw [em] at cm
  refine lv_aload_n hx hb dL_law_438 rfl (lv_at hl 1 rfl) ?_
  refine ld_arg C hl hw hi 439 1 1 (by decide) (by decide) dL_law_439 dL_law_440 dL_law_441 dL_law_442 dL_law_443 ?_
  refine law_X (as := [.int (xs (i + 1))]) (rest := []) (pc := 444) C hl hw cx rfl (wT2 178 rfl rfl) moX7_said imX7_said ⟨Nat.le_of_ble_eq_true rfl, Nat.le_of_ble_eq_true rfl⟩ rfl rfl (Nat.le_of_ble_eq_true rfl) (Nat.le_of_ble_eq_true rfl) dL_law_444 (fun r M2 H1 locs1 hq hw1 => ?_)
  obtain ⟨rfl, L2, hL2, hX2⟩ := hq
  show W p l e room_1 s m #[Value.ref b] below meth c H1 locs1 39 11820 (lwQ below b s) (F0 m 447 ls [(.int ((rowF (saidF h n) (xs (i + 1)), (h, n, t, sp))).1)])
  refine lv_aload_n hx hb dL_law_447 rfl (lv_at hl 2 rfl) ?_
  refine ld_arg C hl hw1 hi 448 1 1 (by decide) (by decide) dL_law_448 dL_law_449 dL_law_450 dL_law_451 dL_law_452 ?_
  refine law_M (as := [.int (xs (i + 1))]) (rest := [(.int ((rowF (saidF h n) (xs (i + 1)), (h, n, t, sp))).1)]) (pc := 453) C hl hw1 cm rfl (wT4 137 rfl rfl) moX8_said imX8_said ⟨Nat.le_of_ble_eq_true rfl, Nat.le_of_ble_eq_true rfl⟩ rfl rfl (Nat.le_of_ble_eq_true rfl) (Nat.le_of_ble_eq_true rfl) dL_law_453 (fun r M3 H2 locs2 hq hw2 => ?_)
  obtain ⟨rfl, hR2⟩ := hq
  show W p l e room_1 s m #[Value.ref b] below meth c H2 locs2 39 11820 (lwQ below b s) (F0 m 456 ls [(.int ((rowF (saidF h n) (xs (i + 1)), (h, n, t, sp))).1), (.int ((rowF (saidF h n) (xs (i + 1)), (h, n, t, sp))).1)])
  refine lv_icmp_eq (tgt := 737) hx hb dL_law_456 (by decide) (fun _ => ?_) (fun c => absurd rfl c)
  exact K H2 locs2 M2 M3 _ L2 hL2 (g) hX2 hR2 hw2
theorem law_c9 {p : Program} {l : Launch} {e : Env} {s : State} {m : MethodId} {below : List Frame} {meth : Method} {c : Code} {D : va_G} {cy : ClassId} {b L : Nat} {xs : Nat → Int32} {adX adM : Nat → Nat} {H : Heap} {locs : List Loc} {MX MM : Mm} {ls : Array Slot} {i Lk n t : Nat} {h : Nat → Int32} {sp : List Nat} (C : lwC p s m meth c D cy b L xs adX adM) (hl : lv_has ls 4 (lwL b adX adM i)) (hw : lwW s D cy adX adM H locs MX MM) (hi : i + 6 ≤ L) (g : GS (h, n, t, sp)) (hX : XS MX (h, n, t, sp) Lk) (hR : RS MM (h, n, t, sp)) (hLk : Lk < 2 ^ 29) (K : lwK p l e s m below meth c D cy b adX adM ls Lk) : W p l e room_1 s m #[Value.ref b] below meth c H locs 39 11820 (lwQ below b s) (F0 m 461 ls []) := by
  obtain ⟨hx, hb, hr, hml, hown, hts, hXx, hbl, hlocks, hgv⟩ := C.1.1
  have ex : MX 1 = h := hX.1
  have em : MM 1 = h := hR.1
  have cx := x_pairs (M := MX) (n := n) (t := t) (sp := sp) (L := Lk) (by rw [ex]; exact g) (by rw [ex]; exact hX) 
  rw [ex] at cx
  have cm := r_pairs (M := MM) (n := n) (t := t) (sp := sp) (by rw [em]; exact g) (by rw [em]; exact hR) 
  rw [em] at cm
  refine lv_aload_n hx hb dL_law_461 rfl (lv_at hl 1 rfl) ?_
  refine law_X (as := []) (rest := []) (pc := 462) C hl hw cx rfl (wT2 197 rfl rfl) moX7_pairs imX7_pairs ⟨Nat.le_of_ble_eq_true rfl, Nat.le_of_ble_eq_true rfl⟩ rfl rfl (Nat.le_of_ble_eq_true rfl) (Nat.le_of_ble_eq_true rfl) dL_law_462 (fun r M2 H1 locs1 hq hw1 => ?_)
  obtain ⟨rfl, L2, hL2, hX2⟩ := hq
  show W p l e room_1 s m #[Value.ref b] below meth c H1 locs1 39 11820 (lwQ below b s) (F0 m 465 ls [(.int ((nI (prO h (saidF h n) (saidF h n).length), (h, n, t, sp))).1)])
  refine lv_aload_n hx hb dL_law_465 rfl (lv_at hl 2 rfl) ?_
  refine law_M (as := []) (rest := [(.int ((nI (prO h (saidF h n) (saidF h n).length), (h, n, t, sp))).1)]) (pc := 466) C hl hw1 cm rfl (wT4 145 rfl rfl) moX8_pairs imX8_pairs ⟨Nat.le_of_ble_eq_true rfl, Nat.le_of_ble_eq_true rfl⟩ rfl rfl (Nat.le_of_ble_eq_true rfl) (Nat.le_of_ble_eq_true rfl) dL_law_466 (fun r M3 H2 locs2 hq hw2 => ?_)
  obtain ⟨rfl, hR2⟩ := hq
  show W p l e room_1 s m #[Value.ref b] below meth c H2 locs2 39 11820 (lwQ below b s) (F0 m 469 ls [(.int ((nI (prO h (saidF h n) (saidF h n).length), (h, n, t, sp))).1), (.int ((nI (prO h (saidF h n) (saidF h n).length), (h, n, t, sp))).1)])
  refine lv_icmp_eq (tgt := 737) hx hb dL_law_469 (by decide) (fun _ => ?_) (fun c => absurd rfl c)
  exact K H2 locs2 M2 M3 _ L2 hL2 (g) hX2 hR2 hw2
theorem law_c10 {p : Program} {l : Launch} {e : Env} {s : State} {m : MethodId} {below : List Frame} {meth : Method} {c : Code} {D : va_G} {cy : ClassId} {b L : Nat} {xs : Nat → Int32} {adX adM : Nat → Nat} {H : Heap} {locs : List Loc} {MX MM : Mm} {ls : Array Slot} {i Lk n t : Nat} {h : Nat → Int32} {sp : List Nat} (C : lwC p s m meth c D cy b L xs adX adM) (hl : lv_has ls 4 (lwL b adX adM i)) (hw : lwW s D cy adX adM H locs MX MM) (hi : i + 6 ≤ L) (g : GS (h, n, t, sp)) (hX : XS MX (h, n, t, sp) Lk) (hR : RS MM (h, n, t, sp)) (hLk : Lk < 2 ^ 29) (K : lwK p l e s m below meth c D cy b adX adM ls Lk) : W p l e room_1 s m #[Value.ref b] below meth c H locs 39 11820 (lwQ below b s) (F0 m 474 ls []) := by
  obtain ⟨hx, hb, hr, hml, hown, hts, hXx, hbl, hlocks, hgv⟩ := C.1.1
  have ex : MX 1 = h := hX.1
  have em : MM 1 = h := hR.1
  have cx := x_stop (M := MX) (n := n) (t := t) (sp := sp) (L := Lk) (by rw [ex]; exact g) (by rw [ex]; exact hX) (xs (i + 1))
  rw [ex] at cx
  have cm := r_stop (M := MM) (n := n) (t := t) (sp := sp) (by rw [em]; exact g) (by rw [em]; exact hR) (xs (i + 1))
  rw [em] at cm
  refine lv_aload_n hx hb dL_law_474 rfl (lv_at hl 1 rfl) ?_
  refine ld_arg C hl hw hi 475 1 1 (by decide) (by decide) dL_law_475 dL_law_476 dL_law_477 dL_law_478 dL_law_479 ?_
  refine law_X (as := [.int (xs (i + 1))]) (rest := []) (pc := 480) C hl hw cx rfl (wT2 221 rfl rfl) moX7_stop imX7_stop ⟨Nat.le_of_ble_eq_true rfl, Nat.le_of_ble_eq_true rfl⟩ rfl rfl (Nat.le_of_ble_eq_true rfl) (Nat.le_of_ble_eq_true rfl) dL_law_480 (fun r M2 H1 locs1 hq hw1 => ?_)
  obtain ⟨rfl, L2, hL2, hX2⟩ := hq
  show W p l e room_1 s m #[Value.ref b] below meth c H1 locs1 39 11820 (lwQ below b s) (F0 m 483 ls [(.int ((rowF (stpL h none (ordF h n)) (xs (i + 1)), (h, n, t, sp))).1)])
  refine lv_aload_n hx hb dL_law_483 rfl (lv_at hl 2 rfl) ?_
  refine ld_arg C hl hw1 hi 484 1 1 (by decide) (by decide) dL_law_484 dL_law_485 dL_law_486 dL_law_487 dL_law_488 ?_
  refine law_M (as := [.int (xs (i + 1))]) (rest := [(.int ((rowF (stpL h none (ordF h n)) (xs (i + 1)), (h, n, t, sp))).1)]) (pc := 489) C hl hw1 cm rfl (wT4 161 rfl rfl) moX8_stop imX8_stop ⟨Nat.le_of_ble_eq_true rfl, Nat.le_of_ble_eq_true rfl⟩ rfl rfl (Nat.le_of_ble_eq_true rfl) (Nat.le_of_ble_eq_true rfl) dL_law_489 (fun r M3 H2 locs2 hq hw2 => ?_)
  obtain ⟨rfl, hR2⟩ := hq
  show W p l e room_1 s m #[Value.ref b] below meth c H2 locs2 39 11820 (lwQ below b s) (F0 m 492 ls [(.int ((rowF (stpL h none (ordF h n)) (xs (i + 1)), (h, n, t, sp))).1), (.int ((rowF (stpL h none (ordF h n)) (xs (i + 1)), (h, n, t, sp))).1)])
  refine lv_icmp_eq (tgt := 737) hx hb dL_law_492 (by decide) (fun _ => ?_) (fun c => absurd rfl c)
  exact K H2 locs2 M2 M3 _ L2 hL2 (g) hX2 hR2 hw2
theorem law_c11 {p : Program} {l : Launch} {e : Env} {s : State} {m : MethodId} {below : List Frame} {meth : Method} {c : Code} {D : va_G} {cy : ClassId} {b L : Nat} {xs : Nat → Int32} {adX adM : Nat → Nat} {H : Heap} {locs : List Loc} {MX MM : Mm} {ls : Array Slot} {i Lk n t : Nat} {h : Nat → Int32} {sp : List Nat} (C : lwC p s m meth c D cy b L xs adX adM) (hl : lv_has ls 4 (lwL b adX adM i)) (hw : lwW s D cy adX adM H locs MX MM) (hi : i + 6 ≤ L) (g : GS (h, n, t, sp)) (hX : XS MX (h, n, t, sp) Lk) (hR : RS MM (h, n, t, sp)) (hLk : Lk < 2 ^ 29) (K : lwK p l e s m below meth c D cy b adX adM ls Lk) : W p l e room_1 s m #[Value.ref b] below meth c H locs 39 11820 (lwQ below b s) (F0 m 497 ls []) := by
  obtain ⟨hx, hb, hr, hml, hown, hts, hXx, hbl, hlocks, hgv⟩ := C.1.1
  have ex : MX 1 = h := hX.1
  have em : MM 1 = h := hR.1
  have cx := x_press (M := MX) (n := n) (t := t) (sp := sp) (L := Lk) (by rw [ex]; exact g) (by rw [ex]; exact hX) (xs (i + 1))
  rw [ex] at cx
  have cm := r_press (M := MM) (n := n) (t := t) (sp := sp) (by rw [em]; exact g) (by rw [em]; exact hR) (xs (i + 1))
  rw [em] at cm
  refine lv_aload_n hx hb dL_law_497 rfl (lv_at hl 1 rfl) ?_
  refine ld_arg C hl hw hi 498 1 1 (by decide) (by decide) dL_law_498 dL_law_499 dL_law_500 dL_law_501 dL_law_502 ?_
  refine law_X (as := [.int (xs (i + 1))]) (rest := []) (pc := 503) C hl hw cx rfl (wT2 230 rfl rfl) moX7_press imX7_press ⟨Nat.le_of_ble_eq_true rfl, Nat.le_of_ble_eq_true rfl⟩ rfl rfl (Nat.le_of_ble_eq_true rfl) (Nat.le_of_ble_eq_true rfl) dL_law_503 (fun r M2 H1 locs1 hq hw1 => ?_)
  obtain ⟨rfl, L2, hL2, hX2⟩ := hq
  show W p l e room_1 s m #[Value.ref b] below meth c H1 locs1 39 11820 (lwQ below b s) (F0 m 506 ls [(.int (spPress h n t sp (xs (i + 1))).1)])
  refine lv_aload_n hx hb dL_law_506 rfl (lv_at hl 2 rfl) ?_
  refine ld_arg C hl hw1 hi 507 1 1 (by decide) (by decide) dL_law_507 dL_law_508 dL_law_509 dL_law_510 dL_law_511 ?_
  refine law_M (as := [.int (xs (i + 1))]) (rest := [(.int (spPress h n t sp (xs (i + 1))).1)]) (pc := 512) C hl hw1 cm rfl (wT4 173 rfl rfl) moX8_press imX8_press ⟨Nat.le_of_ble_eq_true rfl, Nat.le_of_ble_eq_true rfl⟩ rfl rfl (Nat.le_of_ble_eq_true rfl) (Nat.le_of_ble_eq_true rfl) dL_law_512 (fun r M3 H2 locs2 hq hw2 => ?_)
  obtain ⟨rfl, hR2⟩ := hq
  show W p l e room_1 s m #[Value.ref b] below meth c H2 locs2 39 11820 (lwQ below b s) (F0 m 515 ls [(.int (spPress h n t sp (xs (i + 1))).1), (.int (spPress h n t sp (xs (i + 1))).1)])
  refine lv_icmp_eq (tgt := 737) hx hb dL_law_515 (by decide) (fun _ => ?_) (fun c => absurd rfl c)
  exact K H2 locs2 M2 M3 _ L2 hL2 (gs_spPress g _) hX2 hR2 hw2
theorem law_c12 {p : Program} {l : Launch} {e : Env} {s : State} {m : MethodId} {below : List Frame} {meth : Method} {c : Code} {D : va_G} {cy : ClassId} {b L : Nat} {xs : Nat → Int32} {adX adM : Nat → Nat} {H : Heap} {locs : List Loc} {MX MM : Mm} {ls : Array Slot} {i Lk n t : Nat} {h : Nat → Int32} {sp : List Nat} (C : lwC p s m meth c D cy b L xs adX adM) (hl : lv_has ls 4 (lwL b adX adM i)) (hw : lwW s D cy adX adM H locs MX MM) (hi : i + 6 ≤ L) (g : GS (h, n, t, sp)) (hX : XS MX (h, n, t, sp) Lk) (hR : RS MM (h, n, t, sp)) (hLk : Lk < 2 ^ 29) (K : lwK p l e s m below meth c D cy b adX adM ls Lk) : W p l e room_1 s m #[Value.ref b] below meth c H locs 39 11820 (lwQ below b s) (F0 m 520 ls []) := by
  obtain ⟨hx, hb, hr, hml, hown, hts, hXx, hbl, hlocks, hgv⟩ := C.1.1
  have ex : MX 1 = h := hX.1
  have em : MM 1 = h := hR.1
  have cx := x_focus (M := MX) (n := n) (t := t) (sp := sp) (L := Lk) (by rw [ex]; exact g) (by rw [ex]; exact hX) 
  rw [ex] at cx
  have cm := r_focus (M := MM) (n := n) (t := t) (sp := sp) (by rw [em]; exact g) (by rw [em]; exact hR) 
  rw [em] at cm
  refine lv_aload_n hx hb dL_law_520 rfl (lv_at hl 1 rfl) ?_
  refine law_X (as := []) (rest := []) (pc := 521) C hl hw cx rfl (wT3 23 rfl rfl) moX7_focus imX7_focus ⟨Nat.le_of_ble_eq_true rfl, Nat.le_of_ble_eq_true rfl⟩ rfl rfl (Nat.le_of_ble_eq_true rfl) (Nat.le_of_ble_eq_true rfl) dL_law_521 (fun r M2 H1 locs1 hq hw1 => ?_)
  obtain ⟨rfl, L2, hL2, hX2⟩ := hq
  show W p l e room_1 s m #[Value.ref b] below meth c H1 locs1 39 11820 (lwQ below b s) (F0 m 524 ls [(.int ((pm t, (h, n, t, sp))).1)])
  refine lv_aload_n hx hb dL_law_524 rfl (lv_at hl 2 rfl) ?_
  refine law_M (as := []) (rest := [(.int ((pm t, (h, n, t, sp))).1)]) (pc := 525) C hl hw1 cm rfl (wT4 186 rfl rfl) moX8_focus imX8_focus ⟨Nat.le_of_ble_eq_true rfl, Nat.le_of_ble_eq_true rfl⟩ rfl rfl (Nat.le_of_ble_eq_true rfl) (Nat.le_of_ble_eq_true rfl) dL_law_525 (fun r M3 H2 locs2 hq hw2 => ?_)
  obtain ⟨rfl, hR2⟩ := hq
  show W p l e room_1 s m #[Value.ref b] below meth c H2 locs2 39 11820 (lwQ below b s) (F0 m 528 ls [(.int ((pm t, (h, n, t, sp))).1), (.int ((pm t, (h, n, t, sp))).1)])
  refine lv_icmp_eq (tgt := 737) hx hb dL_law_528 (by decide) (fun _ => ?_) (fun c => absurd rfl c)
  exact K H2 locs2 M2 M3 _ L2 hL2 (g) hX2 hR2 hw2
theorem law_c13 {p : Program} {l : Launch} {e : Env} {s : State} {m : MethodId} {below : List Frame} {meth : Method} {c : Code} {D : va_G} {cy : ClassId} {b L : Nat} {xs : Nat → Int32} {adX adM : Nat → Nat} {H : Heap} {locs : List Loc} {MX MM : Mm} {ls : Array Slot} {i Lk n t : Nat} {h : Nat → Int32} {sp : List Nat} (C : lwC p s m meth c D cy b L xs adX adM) (hl : lv_has ls 4 (lwL b adX adM i)) (hw : lwW s D cy adX adM H locs MX MM) (hi : i + 6 ≤ L) (g : GS (h, n, t, sp)) (hX : XS MX (h, n, t, sp) Lk) (hR : RS MM (h, n, t, sp)) (hLk : Lk < 2 ^ 29) (K : lwK p l e s m below meth c D cy b adX adM ls Lk) : W p l e room_1 s m #[Value.ref b] below meth c H locs 39 11820 (lwQ below b s) (F0 m 533 ls []) := by
  obtain ⟨hx, hb, hr, hml, hown, hts, hXx, hbl, hlocks, hgv⟩ := C.1.1
  have ex : MX 1 = h := hX.1
  have em : MM 1 = h := hR.1
  have cx := x_caught (M := MX) (n := n) (t := t) (sp := sp) (L := Lk) (by rw [ex]; exact g) (by rw [ex]; exact hX) 
  rw [ex] at cx
  have cm := r_caught (M := MM) (n := n) (t := t) (sp := sp) (by rw [em]; exact g) (by rw [em]; exact hR) 
  rw [em] at cm
  refine lv_aload_n hx hb dL_law_533 rfl (lv_at hl 1 rfl) ?_
  refine law_X (as := []) (rest := []) (pc := 534) C hl hw cx rfl (wT3 27 rfl rfl) moX7_caught imX7_caught ⟨Nat.le_of_ble_eq_true rfl, Nat.le_of_ble_eq_true rfl⟩ rfl rfl (Nat.le_of_ble_eq_true rfl) (Nat.le_of_ble_eq_true rfl) dL_law_534 (fun r M2 H1 locs1 hq hw1 => ?_)
  obtain ⟨rfl, L2, hL2, hX2⟩ := hq
  show W p l e room_1 s m #[Value.ref b] below meth c H1 locs1 39 11820 (lwQ below b s) (F0 m 537 ls [(.int ((optI (trS h t), (h, n, t, sp))).1)])
  refine lv_aload_n hx hb dL_law_537 rfl (lv_at hl 2 rfl) ?_
  refine law_M (as := []) (rest := [(.int ((optI (trS h t), (h, n, t, sp))).1)]) (pc := 538) C hl hw1 cm rfl (wT4 190 rfl rfl) moX8_caught imX8_caught ⟨Nat.le_of_ble_eq_true rfl, Nat.le_of_ble_eq_true rfl⟩ rfl rfl (Nat.le_of_ble_eq_true rfl) (Nat.le_of_ble_eq_true rfl) dL_law_538 (fun r M3 H2 locs2 hq hw2 => ?_)
  obtain ⟨rfl, hR2⟩ := hq
  show W p l e room_1 s m #[Value.ref b] below meth c H2 locs2 39 11820 (lwQ below b s) (F0 m 541 ls [(.int ((optI (trS h t), (h, n, t, sp))).1), (.int ((optI (trS h t), (h, n, t, sp))).1)])
  refine lv_icmp_eq (tgt := 737) hx hb dL_law_541 (by decide) (fun _ => ?_) (fun c => absurd rfl c)
  exact K H2 locs2 M2 M3 _ L2 hL2 (g) hX2 hR2 hw2
theorem law_c14 {p : Program} {l : Launch} {e : Env} {s : State} {m : MethodId} {below : List Frame} {meth : Method} {c : Code} {D : va_G} {cy : ClassId} {b L : Nat} {xs : Nat → Int32} {adX adM : Nat → Nat} {H : Heap} {locs : List Loc} {MX MM : Mm} {ls : Array Slot} {i Lk n t : Nat} {h : Nat → Int32} {sp : List Nat} (C : lwC p s m meth c D cy b L xs adX adM) (hl : lv_has ls 4 (lwL b adX adM i)) (hw : lwW s D cy adX adM H locs MX MM) (hi : i + 6 ≤ L) (g : GS (h, n, t, sp)) (hX : XS MX (h, n, t, sp) Lk) (hR : RS MM (h, n, t, sp)) (hLk : Lk < 2 ^ 29) (K : lwK p l e s m below meth c D cy b adX adM ls Lk) : W p l e room_1 s m #[Value.ref b] below meth c H locs 39 11820 (lwQ below b s) (F0 m 546 ls []) := by
  obtain ⟨hx, hb, hr, hml, hown, hts, hXx, hbl, hlocks, hgv⟩ := C.1.1
  have ex : MX 1 = h := hX.1
  have em : MM 1 = h := hR.1
  have cx := x_leave (M := MX) (n := n) (t := t) (sp := sp) (L := Lk) (by rw [ex]; exact g) (by rw [ex]; exact hX) 
  rw [ex] at cx
  have cm := r_leave (M := MM) (n := n) (t := t) (sp := sp) (by rw [em]; exact g) (by rw [em]; exact hR) 
  rw [em] at cm
  refine lv_aload_n hx hb dL_law_546 rfl (lv_at hl 1 rfl) ?_
  refine law_X (as := []) (rest := []) (pc := 547) C hl hw cx rfl (wT3 32 rfl rfl) moX7_leave imX7_leave ⟨Nat.le_of_ble_eq_true rfl, Nat.le_of_ble_eq_true rfl⟩ rfl rfl (Nat.le_of_ble_eq_true rfl) (Nat.le_of_ble_eq_true rfl) dL_law_547 (fun r M2 H1 locs1 hq hw1 => ?_)
  obtain ⟨rfl, L2, hL2, hX2⟩ := hq
  show W p l e room_1 s m #[Value.ref b] below meth c H1 locs1 39 11820 (lwQ below b s) (F0 m 550 ls [(.int ((pm t, (h, n, 0, sp))).1)])
  refine lv_aload_n hx hb dL_law_550 rfl (lv_at hl 2 rfl) ?_
  refine law_M (as := []) (rest := [(.int ((pm t, (h, n, 0, sp))).1)]) (pc := 551) C hl hw1 cm rfl (wT4 194 rfl rfl) moX8_leave imX8_leave ⟨Nat.le_of_ble_eq_true rfl, Nat.le_of_ble_eq_true rfl⟩ rfl rfl (Nat.le_of_ble_eq_true rfl) (Nat.le_of_ble_eq_true rfl) dL_law_551 (fun r M3 H2 locs2 hq hw2 => ?_)
  obtain ⟨rfl, hR2⟩ := hq
  show W p l e room_1 s m #[Value.ref b] below meth c H2 locs2 39 11820 (lwQ below b s) (F0 m 554 ls [(.int ((pm t, (h, n, 0, sp))).1), (.int ((pm t, (h, n, 0, sp))).1)])
  refine lv_icmp_eq (tgt := 737) hx hb dL_law_554 (by decide) (fun _ => ?_) (fun c => absurd rfl c)
  exact K H2 locs2 M2 M3 _ L2 hL2 (gs_leave g) hX2 hR2 hw2
theorem law_c15 {p : Program} {l : Launch} {e : Env} {s : State} {m : MethodId} {below : List Frame} {meth : Method} {c : Code} {D : va_G} {cy : ClassId} {b L : Nat} {xs : Nat → Int32} {adX adM : Nat → Nat} {H : Heap} {locs : List Loc} {MX MM : Mm} {ls : Array Slot} {i Lk n t : Nat} {h : Nat → Int32} {sp : List Nat} (C : lwC p s m meth c D cy b L xs adX adM) (hl : lv_has ls 4 (lwL b adX adM i)) (hw : lwW s D cy adX adM H locs MX MM) (hi : i + 6 ≤ L) (g : GS (h, n, t, sp)) (hX : XS MX (h, n, t, sp) Lk) (hR : RS MM (h, n, t, sp)) (hLk : Lk < 2 ^ 29) (K : lwK p l e s m below meth c D cy b adX adM ls Lk) : W p l e room_1 s m #[Value.ref b] below meth c H locs 39 11820 (lwQ below b s) (F0 m 559 ls []) := by
  obtain ⟨hx, hb, hr, hml, hown, hts, hXx, hbl, hlocks, hgv⟩ := C.1.1
  have ex : MX 1 = h := hX.1
  have em : MM 1 = h := hR.1
  have cx := x_walk (M := MX) (n := n) (t := t) (sp := sp) (L := Lk) (by rw [ex]; exact g) (by rw [ex]; exact hX) hLk (xs (i + 1))
  rw [ex] at cx
  have cm := r_walk (M := MM) (n := n) (t := t) (sp := sp) (by rw [em]; exact g) (by rw [em]; exact hR) (xs (i + 1))
  rw [em] at cm
  refine lv_aload_n hx hb dL_law_559 rfl (lv_at hl 1 rfl) ?_
  refine ld_arg C hl hw hi 560 1 1 (by decide) (by decide) dL_law_560 dL_law_561 dL_law_562 dL_law_563 dL_law_564 ?_
  refine law_X (as := [.int (xs (i + 1))]) (rest := []) (pc := 565) C hl hw cx rfl (wT3 36 rfl rfl) moX7_walk imX7_walk ⟨Nat.le_of_ble_eq_true rfl, Nat.le_of_ble_eq_true rfl⟩ rfl rfl (Nat.le_of_ble_eq_true rfl) (Nat.le_of_ble_eq_true rfl) dL_law_565 (fun r M2 H1 locs1 hq hw1 => ?_)
  obtain ⟨rfl, L2, hL2, hX2⟩ := hq
  show W p l e room_1 s m #[Value.ref b] below meth c H1 locs1 39 11820 (lwQ below b s) (F0 m 568 ls [(.int ((spWalk h n t (xs (i + 1)), (h, n, t, sp))).1)])
  refine lv_aload_n hx hb dL_law_568 rfl (lv_at hl 2 rfl) ?_
  refine ld_arg C hl hw1 hi 569 1 1 (by decide) (by decide) dL_law_569 dL_law_570 dL_law_571 dL_law_572 dL_law_573 ?_
  refine law_M (as := [.int (xs (i + 1))]) (rest := [(.int ((spWalk h n t (xs (i + 1)), (h, n, t, sp))).1)]) (pc := 574) C hl hw1 cm rfl (wT4 198 rfl rfl) moX8_walk imX8_walk ⟨Nat.le_of_ble_eq_true rfl, Nat.le_of_ble_eq_true rfl⟩ rfl rfl (Nat.le_of_ble_eq_true rfl) (Nat.le_of_ble_eq_true rfl) dL_law_574 (fun r M3 H2 locs2 hq hw2 => ?_)
  obtain ⟨rfl, hR2⟩ := hq
  show W p l e room_1 s m #[Value.ref b] below meth c H2 locs2 39 11820 (lwQ below b s) (F0 m 577 ls [(.int ((spWalk h n t (xs (i + 1)), (h, n, t, sp))).1), (.int ((spWalk h n t (xs (i + 1)), (h, n, t, sp))).1)])
  refine lv_icmp_eq (tgt := 737) hx hb dL_law_577 (by decide) (fun _ => ?_) (fun c => absurd rfl c)
  exact K H2 locs2 M2 M3 _ L2 hL2 (g) hX2 hR2 hw2
theorem law_c16 {p : Program} {l : Launch} {e : Env} {s : State} {m : MethodId} {below : List Frame} {meth : Method} {c : Code} {D : va_G} {cy : ClassId} {b L : Nat} {xs : Nat → Int32} {adX adM : Nat → Nat} {H : Heap} {locs : List Loc} {MX MM : Mm} {ls : Array Slot} {i Lk n t : Nat} {h : Nat → Int32} {sp : List Nat} (C : lwC p s m meth c D cy b L xs adX adM) (hl : lv_has ls 4 (lwL b adX adM i)) (hw : lwW s D cy adX adM H locs MX MM) (hi : i + 6 ≤ L) (g : GS (h, n, t, sp)) (hX : XS MX (h, n, t, sp) Lk) (hR : RS MM (h, n, t, sp)) (hLk : Lk < 2 ^ 29) (K : lwK p l e s m below meth c D cy b adX adM ls Lk) : W p l e room_1 s m #[Value.ref b] below meth c H locs 39 11820 (lwQ below b s) (F0 m 582 ls []) := by
  obtain ⟨hx, hb, hr, hml, hown, hts, hXx, hbl, hlocks, hgv⟩ := C.1.1
  have ex : MX 1 = h := hX.1
  have em : MM 1 = h := hR.1
  have cx := x_key (M := MX) (n := n) (t := t) (sp := sp) (L := Lk) (by rw [ex]; exact g) (by rw [ex]; exact hX) hLk (xs (i + 1))
  rw [ex] at cx
  have cm := r_key (M := MM) (n := n) (t := t) (sp := sp) (by rw [em]; exact g) (by rw [em]; exact hR) (xs (i + 1))
  rw [em] at cm
  refine lv_aload_n hx hb dL_law_582 rfl (lv_at hl 1 rfl) ?_
  refine ld_arg C hl hw hi 583 1 1 (by decide) (by decide) dL_law_583 dL_law_584 dL_law_585 dL_law_586 dL_law_587 ?_
  refine law_X (as := [.int (xs (i + 1))]) (rest := []) (pc := 588) C hl hw cx rfl (wT3 86 rfl rfl) moX7_key imX7_key ⟨Nat.le_of_ble_eq_true rfl, Nat.le_of_ble_eq_true rfl⟩ rfl rfl (Nat.le_of_ble_eq_true rfl) (Nat.le_of_ble_eq_true rfl) dL_law_588 (fun r M2 H1 locs1 hq hw1 => ?_)
  obtain ⟨rfl, L2, hL2, hX2⟩ := hq
  show W p l e room_1 s m #[Value.ref b] below meth c H1 locs1 39 11820 (lwQ below b s) (F0 m 591 ls [(.int ((spKey h n t (xs (i + 1)), (h, n, t, sp))).1)])
  refine lv_aload_n hx hb dL_law_591 rfl (lv_at hl 2 rfl) ?_
  refine ld_arg C hl hw1 hi 592 1 1 (by decide) (by decide) dL_law_592 dL_law_593 dL_law_594 dL_law_595 dL_law_596 ?_
  refine law_M (as := [.int (xs (i + 1))]) (rest := [(.int ((spKey h n t (xs (i + 1)), (h, n, t, sp))).1)]) (pc := 597) C hl hw1 cm rfl (wT4 222 rfl rfl) moX8_key imX8_key ⟨Nat.le_of_ble_eq_true rfl, Nat.le_of_ble_eq_true rfl⟩ rfl rfl (Nat.le_of_ble_eq_true rfl) (Nat.le_of_ble_eq_true rfl) dL_law_597 (fun r M3 H2 locs2 hq hw2 => ?_)
  obtain ⟨rfl, hR2⟩ := hq
  show W p l e room_1 s m #[Value.ref b] below meth c H2 locs2 39 11820 (lwQ below b s) (F0 m 600 ls [(.int ((spKey h n t (xs (i + 1)), (h, n, t, sp))).1), (.int ((spKey h n t (xs (i + 1)), (h, n, t, sp))).1)])
  refine lv_icmp_eq (tgt := 737) hx hb dL_law_600 (by decide) (fun _ => ?_) (fun c => absurd rfl c)
  exact K H2 locs2 M2 M3 _ L2 hL2 (g) hX2 hR2 hw2
theorem law_c17 {p : Program} {l : Launch} {e : Env} {s : State} {m : MethodId} {below : List Frame} {meth : Method} {c : Code} {D : va_G} {cy : ClassId} {b L : Nat} {xs : Nat → Int32} {adX adM : Nat → Nat} {H : Heap} {locs : List Loc} {MX MM : Mm} {ls : Array Slot} {i Lk n t : Nat} {h : Nat → Int32} {sp : List Nat} (C : lwC p s m meth c D cy b L xs adX adM) (hl : lv_has ls 4 (lwL b adX adM i)) (hw : lwW s D cy adX adM H locs MX MM) (hi : i + 6 ≤ L) (g : GS (h, n, t, sp)) (hX : XS MX (h, n, t, sp) Lk) (hR : RS MM (h, n, t, sp)) (hLk : Lk < 2 ^ 29) (K : lwK p l e s m below meth c D cy b adX adM ls Lk) : W p l e room_1 s m #[Value.ref b] below meth c H locs 39 11820 (lwQ below b s) (F0 m 605 ls []) := by
  obtain ⟨hx, hb, hr, hml, hown, hts, hXx, hbl, hlocks, hgv⟩ := C.1.1
  have ex : MX 1 = h := hX.1
  have em : MM 1 = h := hR.1
  have cx := x_keeper (M := MX) (n := n) (t := t) (sp := sp) (L := Lk) (by rw [ex]; exact g) (by rw [ex]; exact hX) hLk 
  rw [ex] at cx
  have cm := r_keeper (M := MM) (n := n) (t := t) (sp := sp) (by rw [em]; exact g) (by rw [em]; exact hR) 
  rw [em] at cm
  refine lv_aload_n hx hb dL_law_605 rfl (lv_at hl 1 rfl) ?_
  refine law_X (as := []) (rest := []) (pc := 606) C hl hw cx rfl (wT3 94 rfl rfl) moX7_keeper imX7_keeper ⟨Nat.le_of_ble_eq_true rfl, Nat.le_of_ble_eq_true rfl⟩ rfl rfl (Nat.le_of_ble_eq_true rfl) (Nat.le_of_ble_eq_true rfl) dL_law_606 (fun r M2 H1 locs1 hq hw1 => ?_)
  obtain ⟨rfl, L2, hL2, hX2⟩ := hq
  show W p l e room_1 s m #[Value.ref b] below meth c H1 locs1 39 11820 (lwQ below b s) (F0 m 609 ls [(.int ((spKeep h n t, (h, n, t, sp))).1)])
  refine lv_aload_n hx hb dL_law_609 rfl (lv_at hl 2 rfl) ?_
  refine law_M (as := []) (rest := [(.int ((spKeep h n t, (h, n, t, sp))).1)]) (pc := 610) C hl hw1 cm rfl (wT4 226 rfl rfl) moX8_keeper imX8_keeper ⟨Nat.le_of_ble_eq_true rfl, Nat.le_of_ble_eq_true rfl⟩ rfl rfl (Nat.le_of_ble_eq_true rfl) (Nat.le_of_ble_eq_true rfl) dL_law_610 (fun r M3 H2 locs2 hq hw2 => ?_)
  obtain ⟨rfl, hR2⟩ := hq
  show W p l e room_1 s m #[Value.ref b] below meth c H2 locs2 39 11820 (lwQ below b s) (F0 m 613 ls [(.int ((spKeep h n t, (h, n, t, sp))).1), (.int ((spKeep h n t, (h, n, t, sp))).1)])
  refine lv_icmp_eq (tgt := 737) hx hb dL_law_613 (by decide) (fun _ => ?_) (fun c => absurd rfl c)
  exact K H2 locs2 M2 M3 _ L2 hL2 (g) hX2 hR2 hw2
theorem law_c18 {p : Program} {l : Launch} {e : Env} {s : State} {m : MethodId} {below : List Frame} {meth : Method} {c : Code} {D : va_G} {cy : ClassId} {b L : Nat} {xs : Nat → Int32} {adX adM : Nat → Nat} {H : Heap} {locs : List Loc} {MX MM : Mm} {ls : Array Slot} {i Lk n t : Nat} {h : Nat → Int32} {sp : List Nat} (C : lwC p s m meth c D cy b L xs adX adM) (hl : lv_has ls 4 (lwL b adX adM i)) (hw : lwW s D cy adX adM H locs MX MM) (hi : i + 6 ≤ L) (g : GS (h, n, t, sp)) (hX : XS MX (h, n, t, sp) Lk) (hR : RS MM (h, n, t, sp)) (hLk : Lk < 2 ^ 29) (K : lwK p l e s m below meth c D cy b adX adM ls Lk) : W p l e room_1 s m #[Value.ref b] below meth c H locs 39 11820 (lwQ below b s) (F0 m 618 ls []) := by
  obtain ⟨hx, hb, hr, hml, hown, hts, hXx, hbl, hlocks, hgv⟩ := C.1.1
  have ex : MX 1 = h := hX.1
  have em : MM 1 = h := hR.1
  have cx := x_hear (M := MX) (n := n) (t := t) (sp := sp) (L := Lk) (by rw [ex]; exact g) (by rw [ex]; exact hX) 
  rw [ex] at cx
  have cm := r_hear (M := MM) (n := n) (t := t) (sp := sp) (by rw [em]; exact g) (by rw [em]; exact hR) 
  rw [em] at cm
  refine lv_aload_n hx hb dL_law_618 rfl (lv_at hl 1 rfl) ?_
  refine law_X (as := []) (rest := []) (pc := 619) C hl hw cx rfl (wT3 103 rfl rfl) moX7_hear imX7_hear ⟨Nat.le_of_ble_eq_true rfl, Nat.le_of_ble_eq_true rfl⟩ rfl rfl (Nat.le_of_ble_eq_true rfl) (Nat.le_of_ble_eq_true rfl) dL_law_619 (fun r M2 H1 locs1 hq hw1 => ?_)
  obtain ⟨rfl, L2, hL2, hX2⟩ := hq
  show W p l e room_1 s m #[Value.ref b] below meth c H1 locs1 39 11820 (lwQ below b s) (F0 m 622 ls [(.int ((hdF sp, (h, n, t, sp.tail))).1)])
  refine lv_aload_n hx hb dL_law_622 rfl (lv_at hl 2 rfl) ?_
  refine law_M (as := []) (rest := [(.int ((hdF sp, (h, n, t, sp.tail))).1)]) (pc := 623) C hl hw1 cm rfl (wT4 230 rfl rfl) moX8_hear imX8_hear ⟨Nat.le_of_ble_eq_true rfl, Nat.le_of_ble_eq_true rfl⟩ rfl rfl (Nat.le_of_ble_eq_true rfl) (Nat.le_of_ble_eq_true rfl) dL_law_623 (fun r M3 H2 locs2 hq hw2 => ?_)
  obtain ⟨rfl, hR2⟩ := hq
  show W p l e room_1 s m #[Value.ref b] below meth c H2 locs2 39 11820 (lwQ below b s) (F0 m 626 ls [(.int ((hdF sp, (h, n, t, sp.tail))).1), (.int ((hdF sp, (h, n, t, sp.tail))).1)])
  refine lv_icmp_eq (tgt := 737) hx hb dL_law_626 (by decide) (fun _ => ?_) (fun c => absurd rfl c)
  exact K H2 locs2 M2 M3 _ L2 hL2 (gs_hear g) hX2 hR2 hw2
theorem law_c19 {p : Program} {l : Launch} {e : Env} {s : State} {m : MethodId} {below : List Frame} {meth : Method} {c : Code} {D : va_G} {cy : ClassId} {b L : Nat} {xs : Nat → Int32} {adX adM : Nat → Nat} {H : Heap} {locs : List Loc} {MX MM : Mm} {ls : Array Slot} {i Lk n t : Nat} {h : Nat → Int32} {sp : List Nat} (C : lwC p s m meth c D cy b L xs adX adM) (hl : lv_has ls 4 (lwL b adX adM i)) (hw : lwW s D cy adX adM H locs MX MM) (hi : i + 6 ≤ L) (g : GS (h, n, t, sp)) (hX : XS MX (h, n, t, sp) Lk) (hR : RS MM (h, n, t, sp)) (hLk : Lk < 2 ^ 29) (K : lwK p l e s m below meth c D cy b adX adM ls Lk) : W p l e room_1 s m #[Value.ref b] below meth c H locs 39 11820 (lwQ below b s) (F0 m 631 ls []) := by
  obtain ⟨hx, hb, hr, hml, hown, hts, hXx, hbl, hlocks, hgv⟩ := C.1.1
  have ex : MX 1 = h := hX.1
  have em : MM 1 = h := hR.1
  have cx := x_wrongs (M := MX) (n := n) (t := t) (sp := sp) (L := Lk) (by rw [ex]; exact g) (by rw [ex]; exact hX) 
  rw [ex] at cx
  have cm := r_wrongs (M := MM) (n := n) (t := t) (sp := sp) (by rw [em]; exact g) (by rw [em]; exact hR) 
  rw [em] at cm
  refine lv_aload_n hx hb dL_law_631 rfl (lv_at hl 1 rfl) ?_
  refine law_X (as := []) (rest := []) (pc := 632) C hl hw cx rfl (wT3 111 rfl rfl) moX7_wrongs imX7_wrongs ⟨Nat.le_of_ble_eq_true rfl, Nat.le_of_ble_eq_true rfl⟩ rfl rfl (Nat.le_of_ble_eq_true rfl) (Nat.le_of_ble_eq_true rfl) dL_law_632 (fun r M2 H1 locs1 hq hw1 => ?_)
  obtain ⟨rfl, L2, hL2, hX2⟩ := hq
  show W p l e room_1 s m #[Value.ref b] below meth c H1 locs1 39 11820 (lwQ below b s) (F0 m 635 ls [(.int ((nI (wrS h n).length, (h, n, t, sp))).1)])
  refine lv_aload_n hx hb dL_law_635 rfl (lv_at hl 2 rfl) ?_
  refine law_M (as := []) (rest := [(.int ((nI (wrS h n).length, (h, n, t, sp))).1)]) (pc := 636) C hl hw1 cm rfl (wT4 234 rfl rfl) moX8_wrongs imX8_wrongs ⟨Nat.le_of_ble_eq_true rfl, Nat.le_of_ble_eq_true rfl⟩ rfl rfl (Nat.le_of_ble_eq_true rfl) (Nat.le_of_ble_eq_true rfl) dL_law_636 (fun r M3 H2 locs2 hq hw2 => ?_)
  obtain ⟨rfl, hR2⟩ := hq
  show W p l e room_1 s m #[Value.ref b] below meth c H2 locs2 39 11820 (lwQ below b s) (F0 m 639 ls [(.int ((nI (wrS h n).length, (h, n, t, sp))).1), (.int ((nI (wrS h n).length, (h, n, t, sp))).1)])
  refine lv_icmp_eq (tgt := 737) hx hb dL_law_639 (by decide) (fun _ => ?_) (fun c => absurd rfl c)
  exact K H2 locs2 M2 M3 _ L2 hL2 (g) hX2 hR2 hw2
theorem law_c20 {p : Program} {l : Launch} {e : Env} {s : State} {m : MethodId} {below : List Frame} {meth : Method} {c : Code} {D : va_G} {cy : ClassId} {b L : Nat} {xs : Nat → Int32} {adX adM : Nat → Nat} {H : Heap} {locs : List Loc} {MX MM : Mm} {ls : Array Slot} {i Lk n t : Nat} {h : Nat → Int32} {sp : List Nat} (C : lwC p s m meth c D cy b L xs adX adM) (hl : lv_has ls 4 (lwL b adX adM i)) (hw : lwW s D cy adX adM H locs MX MM) (hi : i + 6 ≤ L) (g : GS (h, n, t, sp)) (hX : XS MX (h, n, t, sp) Lk) (hR : RS MM (h, n, t, sp)) (hLk : Lk < 2 ^ 29) (K : lwK p l e s m below meth c D cy b adX adM ls Lk) : W p l e room_1 s m #[Value.ref b] below meth c H locs 39 11820 (lwQ below b s) (F0 m 644 ls []) := by
  obtain ⟨hx, hb, hr, hml, hown, hts, hXx, hbl, hlocks, hgv⟩ := C.1.1
  have ex : MX 1 = h := hX.1
  have em : MM 1 = h := hR.1
  have cx := x_wrong (M := MX) (n := n) (t := t) (sp := sp) (L := Lk) (by rw [ex]; exact g) (by rw [ex]; exact hX) (xs (i + 1)) (xs (i + 2))
  rw [ex] at cx
  have cm := r_wrong (M := MM) (n := n) (t := t) (sp := sp) (by rw [em]; exact g) (by rw [em]; exact hR) (xs (i + 1)) (xs (i + 2))
  rw [em] at cm
  refine lv_aload_n hx hb dL_law_644 rfl (lv_at hl 1 rfl) ?_
  refine ld_arg C hl hw hi 645 1 1 (by decide) (by decide) dL_law_645 dL_law_646 dL_law_647 dL_law_648 dL_law_649 ?_
  refine ld_arg C hl hw hi 650 2 2 (by decide) (by decide) dL_law_650 dL_law_651 dL_law_652 dL_law_653 dL_law_654 ?_
  refine law_X (as := [.int (xs (i + 1)), .int (xs (i + 2))]) (rest := []) (pc := 655) C hl hw cx rfl (wT3 163 rfl rfl) moX7_wrong imX7_wrong ⟨Nat.le_of_ble_eq_true rfl, Nat.le_of_ble_eq_true rfl⟩ rfl rfl (Nat.le_of_ble_eq_true rfl) (Nat.le_of_ble_eq_true rfl) dL_law_655 (fun r M2 H1 locs1 hq hw1 => ?_)
  obtain ⟨rfl, L2, hL2, hX2⟩ := hq
  show W p l e room_1 s m #[Value.ref b] below meth c H1 locs1 39 11820 (lwQ below b s) (F0 m 658 ls [(.int ((spWrong h n (xs (i + 1)) (xs (i + 2)), (h, n, t, sp))).1)])
  refine lv_aload_n hx hb dL_law_658 rfl (lv_at hl 2 rfl) ?_
  refine ld_arg C hl hw1 hi 659 1 1 (by decide) (by decide) dL_law_659 dL_law_660 dL_law_661 dL_law_662 dL_law_663 ?_
  refine ld_arg C hl hw1 hi 664 2 2 (by decide) (by decide) dL_law_664 dL_law_665 dL_law_666 dL_law_667 dL_law_668 ?_
  refine law_M (as := [.int (xs (i + 1)), .int (xs (i + 2))]) (rest := [(.int ((spWrong h n (xs (i + 1)) (xs (i + 2)), (h, n, t, sp))).1)]) (pc := 669) C hl hw1 cm rfl (wT5 20 rfl rfl) moX8_wrong imX8_wrong ⟨Nat.le_of_ble_eq_true rfl, Nat.le_of_ble_eq_true rfl⟩ rfl rfl (Nat.le_of_ble_eq_true rfl) (Nat.le_of_ble_eq_true rfl) dL_law_669 (fun r M3 H2 locs2 hq hw2 => ?_)
  obtain ⟨rfl, hR2⟩ := hq
  show W p l e room_1 s m #[Value.ref b] below meth c H2 locs2 39 11820 (lwQ below b s) (F0 m 672 ls [(.int ((spWrong h n (xs (i + 1)) (xs (i + 2)), (h, n, t, sp))).1), (.int ((spWrong h n (xs (i + 1)) (xs (i + 2)), (h, n, t, sp))).1)])
  refine lv_icmp_eq (tgt := 737) hx hb dL_law_672 (by decide) (fun _ => ?_) (fun c => absurd rfl c)
  exact K H2 locs2 M2 M3 _ L2 hL2 (g) hX2 hR2 hw2
theorem law_c21 {p : Program} {l : Launch} {e : Env} {s : State} {m : MethodId} {below : List Frame} {meth : Method} {c : Code} {D : va_G} {cy : ClassId} {b L : Nat} {xs : Nat → Int32} {adX adM : Nat → Nat} {H : Heap} {locs : List Loc} {MX MM : Mm} {ls : Array Slot} {i Lk n t : Nat} {h : Nat → Int32} {sp : List Nat} (C : lwC p s m meth c D cy b L xs adX adM) (hl : lv_has ls 4 (lwL b adX adM i)) (hw : lwW s D cy adX adM H locs MX MM) (hi : i + 6 ≤ L) (g : GS (h, n, t, sp)) (hX : XS MX (h, n, t, sp) Lk) (hR : RS MM (h, n, t, sp)) (hLk : Lk < 2 ^ 29) (K : lwK p l e s m below meth c D cy b adX adM ls Lk) : W p l e room_1 s m #[Value.ref b] below meth c H locs 39 11820 (lwQ below b s) (F0 m 677 ls []) := by
  obtain ⟨hx, hb, hr, hml, hown, hts, hXx, hbl, hlocks, hgv⟩ := C.1.1
  have ex : MX 1 = h := hX.1
  have em : MM 1 = h := hR.1
  have cx := x_mend (M := MX) (n := n) (t := t) (sp := sp) (L := Lk) (by rw [ex]; exact g) (by rw [ex]; exact hX) (xs (i + 1))
  rw [ex] at cx
  have cm := r_mend (M := MM) (n := n) (t := t) (sp := sp) (by rw [em]; exact g) (by rw [em]; exact hR) (xs (i + 1))
  rw [em] at cm
  refine lv_aload_n hx hb dL_law_677 rfl (lv_at hl 1 rfl) ?_
  refine ld_arg C hl hw hi 678 1 1 (by decide) (by decide) dL_law_678 dL_law_679 dL_law_680 dL_law_681 dL_law_682 ?_
  refine law_X (as := [.int (xs (i + 1))]) (rest := []) (pc := 683) C hl hw cx rfl (wT3 175 rfl rfl) moX7_mend imX7_mend ⟨Nat.le_of_ble_eq_true rfl, Nat.le_of_ble_eq_true rfl⟩ rfl rfl (Nat.le_of_ble_eq_true rfl) (Nat.le_of_ble_eq_true rfl) dL_law_683 (fun r M2 H1 locs1 hq hw1 => ?_)
  obtain ⟨rfl, L2, hL2, hX2⟩ := hq
  show W p l e room_1 s m #[Value.ref b] below meth c H1 locs1 39 11820 (lwQ below b s) (F0 m 686 ls [(.int (spMend h n t sp (xs (i + 1))).1)])
  refine lv_aload_n hx hb dL_law_686 rfl (lv_at hl 2 rfl) ?_
  refine ld_arg C hl hw1 hi 687 1 1 (by decide) (by decide) dL_law_687 dL_law_688 dL_law_689 dL_law_690 dL_law_691 ?_
  refine law_M (as := [.int (xs (i + 1))]) (rest := [(.int (spMend h n t sp (xs (i + 1))).1)]) (pc := 692) C hl hw1 cm rfl (wT5 24 rfl rfl) moX8_mend imX8_mend ⟨Nat.le_of_ble_eq_true rfl, Nat.le_of_ble_eq_true rfl⟩ rfl rfl (Nat.le_of_ble_eq_true rfl) (Nat.le_of_ble_eq_true rfl) dL_law_692 (fun r M3 H2 locs2 hq hw2 => ?_)
  obtain ⟨rfl, hR2⟩ := hq
  show W p l e room_1 s m #[Value.ref b] below meth c H2 locs2 39 11820 (lwQ below b s) (F0 m 695 ls [(.int (spMend h n t sp (xs (i + 1))).1), (.int (spMend h n t sp (xs (i + 1))).1)])
  refine lv_icmp_eq (tgt := 737) hx hb dL_law_695 (by decide) (fun _ => ?_) (fun c => absurd rfl c)
  exact K H2 locs2 M2 M3 _ L2 hL2 (gs_spMend g _) hX2 hR2 hw2
theorem law_c22 {p : Program} {l : Launch} {e : Env} {s : State} {m : MethodId} {below : List Frame} {meth : Method} {c : Code} {D : va_G} {cy : ClassId} {b L : Nat} {xs : Nat → Int32} {adX adM : Nat → Nat} {H : Heap} {locs : List Loc} {MX MM : Mm} {ls : Array Slot} {i Lk n t : Nat} {h : Nat → Int32} {sp : List Nat} (C : lwC p s m meth c D cy b L xs adX adM) (hl : lv_has ls 4 (lwL b adX adM i)) (hw : lwW s D cy adX adM H locs MX MM) (hi : i + 6 ≤ L) (g : GS (h, n, t, sp)) (hX : XS MX (h, n, t, sp) Lk) (hR : RS MM (h, n, t, sp)) (hLk : Lk < 2 ^ 29) (K : lwK p l e s m below meth c D cy b adX adM ls Lk) : W p l e room_1 s m #[Value.ref b] below meth c H locs 39 11820 (lwQ below b s) (F0 m 700 ls []) := by
  obtain ⟨hx, hb, hr, hml, hown, hts, hXx, hbl, hlocks, hgv⟩ := C.1.1
  have ex : MX 1 = h := hX.1
  have em : MM 1 = h := hR.1
  have cx := x_count (M := MX) (n := n) (t := t) (sp := sp) (L := Lk) (by rw [ex]; exact g) (by rw [ex]; exact hX) (xs (i + 1))
  rw [ex] at cx
  have cm := r_count (M := MM) (n := n) (t := t) (sp := sp) (by rw [em]; exact g) (by rw [em]; exact hR) (xs (i + 1))
  rw [em] at cm
  refine lv_aload_n hx hb dL_law_700 rfl (lv_at hl 1 rfl) ?_
  refine ld_arg C hl hw hi 701 1 1 (by decide) (by decide) dL_law_701 dL_law_702 dL_law_703 dL_law_704 dL_law_705 ?_
  refine law_X (as := [.int (xs (i + 1))]) (rest := []) (pc := 706) C hl hw cx rfl (wT3 187 rfl rfl) moX7_count imX7_count ⟨Nat.le_of_ble_eq_true rfl, Nat.le_of_ble_eq_true rfl⟩ rfl rfl (Nat.le_of_ble_eq_true rfl) (Nat.le_of_ble_eq_true rfl) dL_law_706 (fun r M2 H1 locs1 hq hw1 => ?_)
  obtain ⟨rfl, L2, hL2, hX2⟩ := hq
  show W p l e room_1 s m #[Value.ref b] below meth c H1 locs1 39 11820 (lwQ below b s) (F0 m 709 ls [(.int ((spCount h n sp (xs (i + 1)), (h, n, t, sp))).1)])
  refine lv_aload_n hx hb dL_law_709 rfl (lv_at hl 2 rfl) ?_
  refine ld_arg C hl hw1 hi 710 1 1 (by decide) (by decide) dL_law_710 dL_law_711 dL_law_712 dL_law_713 dL_law_714 ?_
  refine law_M (as := [.int (xs (i + 1))]) (rest := [(.int ((spCount h n sp (xs (i + 1)), (h, n, t, sp))).1)]) (pc := 715) C hl hw1 cm rfl (wT5 30 rfl rfl) moX8_count imX8_count ⟨Nat.le_of_ble_eq_true rfl, Nat.le_of_ble_eq_true rfl⟩ rfl rfl (Nat.le_of_ble_eq_true rfl) (Nat.le_of_ble_eq_true rfl) dL_law_715 (fun r M3 H2 locs2 hq hw2 => ?_)
  obtain ⟨rfl, hR2⟩ := hq
  show W p l e room_1 s m #[Value.ref b] below meth c H2 locs2 39 11820 (lwQ below b s) (F0 m 718 ls [(.int ((spCount h n sp (xs (i + 1)), (h, n, t, sp))).1), (.int ((spCount h n sp (xs (i + 1)), (h, n, t, sp))).1)])
  refine lv_icmp_eq (tgt := 737) hx hb dL_law_718 (by decide) (fun _ => ?_) (fun c => absurd rfl c)
  exact K H2 locs2 M2 M3 _ L2 hL2 (g) hX2 hR2 hw2
theorem law_c23 {p : Program} {l : Launch} {e : Env} {s : State} {m : MethodId} {below : List Frame} {meth : Method} {c : Code} {D : va_G} {cy : ClassId} {b L : Nat} {xs : Nat → Int32} {adX adM : Nat → Nat} {H : Heap} {locs : List Loc} {MX MM : Mm} {ls : Array Slot} {i Lk n t : Nat} {h : Nat → Int32} {sp : List Nat} (C : lwC p s m meth c D cy b L xs adX adM) (hl : lv_has ls 4 (lwL b adX adM i)) (hw : lwW s D cy adX adM H locs MX MM) (hi : i + 6 ≤ L) (g : GS (h, n, t, sp)) (hX : XS MX (h, n, t, sp) Lk) (hR : RS MM (h, n, t, sp)) (hLk : Lk < 2 ^ 29) (K : lwK p l e s m below meth c D cy b adX adM ls Lk) : W p l e room_1 s m #[Value.ref b] below meth c H locs 39 11820 (lwQ below b s) (F0 m 723 ls []) := by
  obtain ⟨hx, hb, hr, hml, hown, hts, hXx, hbl, hlocks, hgv⟩ := C.1.1
  have ex : MX 1 = h := hX.1
  have em : MM 1 = h := hR.1
  have cx := x_digest (M := MX) (n := n) (t := t) (sp := sp) (L := Lk) (by rw [ex]; exact g) (by rw [ex]; exact hX) 
  rw [ex] at cx
  have cm := r_digest (M := MM) (n := n) (t := t) (sp := sp) (by rw [em]; exact g) (by rw [em]; exact hR) 
  rw [em] at cm
  refine lv_aload_n hx hb dL_law_723 rfl (lv_at hl 1 rfl) ?_
  refine law_X (as := []) (rest := []) (pc := 724) C hl hw cx rfl (wT3 192 rfl rfl) moX7_digest imX7_digest ⟨Nat.le_of_ble_eq_true rfl, Nat.le_of_ble_eq_true rfl⟩ rfl rfl (Nat.le_of_ble_eq_true rfl) (Nat.le_of_ble_eq_true rfl) dL_law_724 (fun r M2 H1 locs1 hq hw1 => ?_)
  obtain ⟨rfl, L2, hL2, hX2⟩ := hq
  show W p l e room_1 s m #[Value.ref b] below meth c H1 locs1 39 11820 (lwQ below b s) (F0 m 727 ls [(.long (spDig h n t sp))])
  refine lv_aload_n hx hb dL_law_727 rfl (lv_at hl 2 rfl) ?_
  refine law_M (as := []) (rest := [(.long (spDig h n t sp))]) (pc := 728) C hl hw1 cm rfl (wT5 38 rfl rfl) moX8_digest imX8_digest ⟨Nat.le_of_ble_eq_true rfl, Nat.le_of_ble_eq_true rfl⟩ rfl rfl (Nat.le_of_ble_eq_true rfl) (Nat.le_of_ble_eq_true rfl) dL_law_728 (fun r M3 H2 locs2 hq hw2 => ?_)
  obtain ⟨rfl, hR2⟩ := hq
  show W p l e room_1 s m #[Value.ref b] below meth c H2 locs2 39 11820 (lwQ below b s) (F0 m 731 ls [(.long (spDig h n t sp)), (.long (spDig h n t sp))])
  refine W.lcmp hx hb dL_law_731 ?_
  refine lv_if_eq (tgt := 737) hx hb dL_law_732 (by decide) (fun _ => ?_) (fun c => absurd ((lg_cmp_eq _ _).mpr rfl) c)
  exact K H2 locs2 M2 M3 _ L2 hL2 (g) hX2 hR2 hw2
end
