/-! Integer.bitCount -/
theorem land256 (y m0 m : Nat) (h0 : m0 < 256) : y &&& (m0 + 256 * m) = (y % 256 &&& m0) + 256 * (y / 256 &&& m) := by
  have h := Nat.mod_add_div (y &&& (m0 + 256 * m)) 256
  have e1 : (y &&& (m0 + 256 * m)) % 256 = (y % 256 &&& m0) := by
    have := Nat.and_mod_two_pow (a := y) (b := m0 + 256 * m) (n := 8)
    rw [show (2 : Nat) ^ 8 = 256 from rfl] at this
    rw [this, show (m0 + 256 * m) % 256 = m0 by omega]
  have e2 : (y &&& (m0 + 256 * m)) / 256 = (y / 256 &&& m) := by
    have := Nat.and_div_two_pow (a := y) (b := m0 + 256 * m) (n := 8)
    rw [show (2 : Nat) ^ 8 = 256 from rfl] at this
    rw [this, show (m0 + 256 * m) / 256 = m by omega]
  rw [← h, e1, e2]
def by0 (x : Nat) : Nat := x % 256
def by1 (x : Nat) : Nat := x / 256 % 256
def by2 (x : Nat) : Nat := x / 65536 % 256
def by3 (x : Nat) : Nat := x / 16777216
theorem by_sum (x : Nat) : x = by0 x + 256 * by1 x + 65536 * by2 x + 16777216 * by3 x := by unfold by0 by1 by2 by3; omega
theorem land4 (y m0 m1 m2 m3 : Nat) (h0 : m0 < 256) (h1 : m1 < 256) (h2 : m2 < 256) : y &&& (m0 + 256 * (m1 + 256 * (m2 + 256 * m3))) = (by0 y &&& m0) + 256 * (by1 y &&& m1) + 65536 * (by2 y &&& m2) + 16777216 * (by3 y &&& m3) := by
  rw [land256 _ _ _ h0, land256 _ _ _ h1, land256 _ _ _ h2]
  unfold by0 by1 by2 by3
  rw [show y / 256 / 256 = y / 65536 by omega, show y / 65536 / 256 = y / 16777216 by omega]
  omega
theorem pc_a : ∀ e, e < 256 → ∀ b, b < 2 → (e / 2 + 128 * b) &&& 85 = (e / 2 &&& 85) := by decide +kernel
theorem pc_b : ∀ e, e < 256 → ∀ b, b < 4 → (e / 4 + 64 * b) &&& 51 = (e / 4 &&& 51) := by decide +kernel
def pcA (e : Nat) : Nat := e / 2 &&& 85
def pcF (e : Nat) : Nat := e - pcA e
def pcG (e : Nat) : Nat := (pcF e &&& 51) + (pcF e / 4 &&& 51)
def pcK (e : Nat) : Nat := pcG e % 16 + pcG e / 16
theorem pc_1 : ∀ e, e < 256 → pcA e ≤ e ∧ pcF e < 256 ∧ pcG e % 16 ≤ 4 ∧ pcG e / 16 ≤ 4 ∧ (pcF e &&& 51) < 256 ∧ (pcF e / 4 &&& 51) < 256 ∧ pcG e < 256 := by decide +kernel
theorem pc_k : ∀ e, e < 256 → pcK e = fb_ct (fun i => e.testBit i) 8 := by decide +kernel
def pcSum (x : Nat) : Nat := pcK (by0 x) + pcK (by1 x) + pcK (by2 x) + pcK (by3 x)
theorem pc_s1 {x : Nat} (h : x < 2 ^ 32) : (x / 2 &&& 1431655765) = pcA (by0 x) + 256 * pcA (by1 x) + 65536 * pcA (by2 x) + 16777216 * pcA (by3 x) := by
  rw [show 1431655765 = 85 + 256 * (85 + 256 * (85 + 256 * 85)) from rfl, land4 _ _ _ _ _ (by omega) (by omega) (by omega)]
  have e0 : by0 (x / 2) = by0 x / 2 + 128 * (x / 256 % 2) := by unfold by0; omega
  have e1 : by1 (x / 2) = by1 x / 2 + 128 * (x / 65536 % 2) := by unfold by1; omega
  have e2 : by2 (x / 2) = by2 x / 2 + 128 * (x / 16777216 % 2) := by unfold by2; omega
  have e3 : by3 (x / 2) = by3 x / 2 := by unfold by3; omega
  rw [e0, e1, e2, e3, pc_a _ (by unfold by0; omega) _ (by omega), pc_a _ (by unfold by1; omega) _ (by omega), pc_a _ (by unfold by2; omega) _ (by omega)]
  rfl
theorem by_of {a b c d : Nat} (ha : a < 256) (hb : b < 256) (hc : c < 256) : by0 (a + 256 * b + 65536 * c + 16777216 * d) = a ∧ by1 (a + 256 * b + 65536 * c + 16777216 * d) = b ∧ by2 (a + 256 * b + 65536 * c + 16777216 * d) = c ∧ by3 (a + 256 * b + 65536 * c + 16777216 * d) = d := by
  unfold by0 by1 by2 by3
  omega
theorem by_lt {x : Nat} (h : x < 2 ^ 32) : by0 x < 256 ∧ by1 x < 256 ∧ by2 x < 256 ∧ by3 x < 256 := by unfold by0 by1 by2 by3; omega
theorem pc_s1b {x : Nat} (h : x < 2 ^ 32) : (x / 2 &&& 1431655765) ≤ x ∧ x - (x / 2 &&& 1431655765) = pcF (by0 x) + 256 * pcF (by1 x) + 65536 * pcF (by2 x) + 16777216 * pcF (by3 x) := by
  obtain ⟨h0, h1, h2, h3⟩ := by_lt h
  have a0 := (pc_1 _ h0).1
  have a1 := (pc_1 _ h1).1
  have a2 := (pc_1 _ h2).1
  have a3 := (pc_1 _ h3).1
  rw [pc_s1 h]
  have hs := by_sum x
  unfold pcF
  omega
theorem pc_s2 {a b c d : Nat} (ha : a < 256) (hb : b < 256) (hc : c < 256) (hd : d < 256) : let y := pcF a + 256 * pcF b + 65536 * pcF c + 16777216 * pcF d; (y &&& 858993459) + (y / 4 &&& 858993459) = pcG a + 256 * pcG b + 65536 * pcG c + 16777216 * pcG d := by
  intro y
  obtain ⟨-, a1, -, -, a4, a5, -⟩ := pc_1 _ ha
  obtain ⟨-, b1, -, -, b4, b5, -⟩ := pc_1 _ hb
  obtain ⟨-, c1, -, -, c4, c5, -⟩ := pc_1 _ hc
  obtain ⟨-, d1, -, -, d4, d5, -⟩ := pc_1 _ hd
  obtain ⟨e0, e1, e2, e3⟩ := by_of (d := pcF d) a1 b1 c1
  have f0 : by0 (y / 4) = pcF a / 4 + 64 * (pcF b % 4) := by unfold by0; omega
  have f1 : by1 (y / 4) = pcF b / 4 + 64 * (pcF c % 4) := by unfold by1; omega
  have f2 : by2 (y / 4) = pcF c / 4 + 64 * (pcF d % 4) := by unfold by2; omega
  have f3 : by3 (y / 4) = pcF d / 4 := by unfold by3; omega
  rw [show 858993459 = 51 + 256 * (51 + 256 * (51 + 256 * 51)) from rfl, land4 _ _ _ _ _ (by omega) (by omega) (by omega), land4 _ _ _ _ _ (by omega) (by omega) (by omega), e0, e1, e2, e3, f0, f1, f2, f3, pc_b _ a1 _ (by omega), pc_b _ b1 _ (by omega), pc_b _ c1 _ (by omega)]
  unfold pcG
  omega
theorem pc_s3 {a b c d : Nat} (ha : a < 256) (hb : b < 256) (hc : c < 256) (hd : d < 256) : let y := pcG a + 256 * pcG b + 65536 * pcG c + 16777216 * pcG d; (y + y / 16) &&& 252645135 = pcK a + 256 * pcK b + 65536 * pcK c + 16777216 * pcK d := by
  intro y
  obtain ⟨-, -, a2, a3, -, -, a6⟩ := pc_1 _ ha
  obtain ⟨-, -, b2, b3, -, -, b6⟩ := pc_1 _ hb
  obtain ⟨-, -, c2, c3, -, -, c6⟩ := pc_1 _ hc
  obtain ⟨-, -, d2, d3, -, -, d6⟩ := pc_1 _ hd
  have m15 : ∀ z, z &&& 15 = z % 16 := fun z => Nat.and_two_pow_sub_one_eq_mod z 4
  rw [show 252645135 = 15 + 256 * (15 + 256 * (15 + 256 * 15)) from rfl, land4 _ _ _ _ _ (by omega) (by omega) (by omega), m15, m15, m15, m15]
  unfold pcK
  have ea := Nat.mod_add_div (pcG a) 16
  have eb := Nat.mod_add_div (pcG b) 16
  have ec := Nat.mod_add_div (pcG c) 16
  have ed := Nat.mod_add_div (pcG d) 16
  obtain ⟨la, hla⟩ : ∃ z, z = pcG a % 16 := ⟨_, rfl⟩
  obtain ⟨ha', hha⟩ : ∃ z, z = pcG a / 16 := ⟨_, rfl⟩
  obtain ⟨lb, hlb⟩ : ∃ z, z = pcG b % 16 := ⟨_, rfl⟩
  obtain ⟨hb', hhb⟩ : ∃ z, z = pcG b / 16 := ⟨_, rfl⟩
  obtain ⟨lc, hlc⟩ : ∃ z, z = pcG c % 16 := ⟨_, rfl⟩
  obtain ⟨hc', hhc⟩ : ∃ z, z = pcG c / 16 := ⟨_, rfl⟩
  obtain ⟨ld, hld⟩ : ∃ z, z = pcG d % 16 := ⟨_, rfl⟩
  obtain ⟨hd', hhd⟩ : ∃ z, z = pcG d / 16 := ⟨_, rfl⟩
  rw [← hla] at a2
  rw [← hha] at a3
  rw [← hla, ← hha] at ea
  rw [← hlb] at b2
  rw [← hhb] at b3
  rw [← hlb, ← hhb] at eb
  rw [← hlc] at c2
  rw [← hhc] at c3
  rw [← hlc, ← hhc] at ec
  rw [← hld] at d2
  rw [← hhd] at d3
  rw [← hld, ← hhd] at ed
  rw [← hla, ← hha, ← hlb, ← hhb, ← hlc, ← hhc, ← hld, ← hhd]
  have hy : y = la + 16 * ha' + 256 * (lb + 16 * hb') + 65536 * (lc + 16 * hc') + 16777216 * (ld + 16 * hd') := by show pcG a + 256 * pcG b + 65536 * pcG c + 16777216 * pcG d = _; rw [← ea, ← eb, ← ec, ← ed]
  clear ea eb ec ed a6 b6 c6 d6 hla hha hlb hhb hlc hhc hld hhd
  have h16 : y / 16 = ha' + 16 * lb + 256 * hb' + 4096 * lc + 65536 * hc' + 1048576 * ld + 16777216 * hd' := by rw [hy]; omega
  obtain ⟨W, hW⟩ : ∃ z, z = y + y / 16 := ⟨_, rfl⟩
  have hW2 : W = (la + ha') + 16 * (ha' + lb) + 256 * (lb + hb') + 4096 * (hb' + lc) + 65536 * (lc + hc') + 1048576 * (hc' + ld) + 16777216 * (ld + hd') + 268435456 * hd' := by rw [hW, h16, hy]; omega
  rw [← hW]
  clear hW h16 hy
  have w0 : by0 W % 16 = la + ha' := by unfold by0; omega
  have w1 : by1 W % 16 = lb + hb' := by
    unfold by1
    have : W / 256 = (lb + hb') + 16 * (hb' + lc) + 256 * (lc + hc') + 4096 * (hc' + ld) + 65536 * (ld + hd') + 1048576 * hd' := by omega
    rw [this]; omega
  have w2 : by2 W % 16 = lc + hc' := by
    unfold by2
    have : W / 65536 = (lc + hc') + 16 * (hc' + ld) + 256 * (ld + hd') + 4096 * hd' := by omega
    rw [this]; omega
  have w3 : by3 W % 16 = ld + hd' := by
    unfold by3
    have : W / 16777216 = (ld + hd') + 16 * hd' := by omega
    rw [this]; omega
  rw [w0, w1, w2, w3]
theorem pc_fin {a b c d : Nat} (ha : a < 256) (hb : b < 256) (hc : c < 256) (hd : d < 256) : let y := pcK a + 256 * pcK b + 65536 * pcK c + 16777216 * pcK d; let z := y + y / 256; (z + z / 65536) &&& 63 = pcK a + pcK b + pcK c + pcK d := by
  intro y z
  obtain ⟨-, -, a2, a3, -⟩ := pc_1 _ ha
  obtain ⟨-, -, b2, b3, -⟩ := pc_1 _ hb
  obtain ⟨-, -, c2, c3, -⟩ := pc_1 _ hc
  obtain ⟨-, -, d2, d3, -⟩ := pc_1 _ hd
  have m63 : ∀ z, z &&& 63 = z % 64 := fun z => Nat.and_two_pow_sub_one_eq_mod z 6
  rw [m63]
  have ka : pcK a ≤ 8 := by unfold pcK; omega
  have kb : pcK b ≤ 8 := by unfold pcK; omega
  have kc : pcK c ≤ 8 := by unfold pcK; omega
  have kd : pcK d ≤ 8 := by unfold pcK; omega
  clear a2 a3 b2 b3 c2 c3 d2 d3
  have e1 : y / 256 = pcK b + 256 * pcK c + 65536 * pcK d := by omega
  have e2 : z = (pcK a + pcK b) + 256 * (pcK b + pcK c) + 65536 * (pcK c + pcK d) + 16777216 * pcK d := by show y + y / 256 = _; rw [e1]; omega
  have e3 : z / 65536 = (pcK c + pcK d) + 256 * pcK d := by rw [e2]; omega
  rw [e3, e2]
  omega
theorem pc_K8 {e : Nat} (h : e < 256) : pcK e ≤ 8 := by
  obtain ⟨-, -, a2, a3, -⟩ := pc_1 _ h
  unfold pcK; omega
theorem pc_ct {x : Nat} (h : x < 2 ^ 32) : fb_ct (fun i => x.testBit i) 32 = pcSum x := by
  obtain ⟨h0, h1, h2, h3⟩ := by_lt h
  rw [show 32 = 8 + 24 from rfl, fb_ct_split, show 24 = 8 + 16 from rfl, fb_ct_split, show 16 = 8 + 8 from rfl, fb_ct_split]
  unfold pcSum
  rw [pc_k _ h0, pc_k _ h1, pc_k _ h2, pc_k _ h3]
  have t0 : fb_ct (fun i => x.testBit i) 8 = fb_ct (fun i => (by0 x).testBit i) 8 := fb_ct_cong (fun k hk => by
    rw [by0, show 256 = 2 ^ 8 from rfl, Nat.testBit_mod_two_pow, decide_eq_true hk, Bool.true_and])
  have t1 : fb_ct (fun k => x.testBit (8 + k)) 8 = fb_ct (fun i => (by1 x).testBit i) 8 := fb_ct_cong (fun k hk => by
    rw [by1, show x / 256 % 256 = x / 2 ^ 8 % 2 ^ 8 from rfl, Nat.testBit_mod_two_pow, decide_eq_true hk, Bool.true_and, Nat.testBit_div_two_pow, Nat.add_comm])
  have t2 : fb_ct (fun k => x.testBit (8 + (8 + k))) 8 = fb_ct (fun i => (by2 x).testBit i) 8 := fb_ct_cong (fun k hk => by
    rw [by2, show x / 65536 % 256 = x / 2 ^ 16 % 2 ^ 8 from rfl, Nat.testBit_mod_two_pow, decide_eq_true hk, Bool.true_and, Nat.testBit_div_two_pow]
    congr 1; omega)
  have t3 : fb_ct (fun k => x.testBit (8 + (8 + (8 + k)))) 8 = fb_ct (fun i => (by3 x).testBit i) 8 := fb_ct_cong (fun k hk => by
    rw [by3, show x / 16777216 = x / 2 ^ 24 from rfl, Nat.testBit_div_two_pow]
    congr 1; omega)
  rw [t0, t1, t2, t3]
  omega
def popN (x : Int32) : Nat := fb_ct (bt x) 32
theorem of32 (x : Int32) : ∃ n, n < 2 ^ 32 ∧ x = nI n := ⟨x.toBitVec.toNat, x.toBitVec.isLt, Int32.toBitVec_inj.mp (by show x.toBitVec = BitVec.ofNat 32 _; simp)⟩
theorem popN_nI {n : Nat} (h : n < 2 ^ 32) : popN (nI n) = pcSum n := by
  rw [← pc_ct h]
  exact fb_ct_cong (fun k hk => bt_nI n hk)
theorem sub_nI {a b : Nat} (h : b ≤ a) : nI a - nI b = nI (a - b) := pk_sub h

theorem s_bitCount {Sh : Shp} {M : Mm} (x : Int32) : Ct Sh mJ6_bitCount_0f7a4 [.int x] M (RetI (nI (popN x)) M) := by
  obtain ⟨v, hv, rfl⟩ := of32 x
  rw [popN_nI hv]
  obtain ⟨h0, h1, h2, h3⟩ := by_lt hv
  have k0 := pc_K8 h0
  have k1 := pc_K8 h1
  have k2 := pc_K8 h2
  have k3 := pc_K8 h3
  have g0 := pc_1 _ h0
  have g1 := pc_1 _ h1
  have g2 := pc_1 _ h2
  have g3 := pc_1 _ h3
  obtain ⟨hle, hs1⟩ := pc_s1b hv
  obtain ⟨y1, hy1e⟩ : ∃ y, y = pcF (by0 v) + 256 * pcF (by1 v) + 65536 * pcF (by2 v) + 16777216 * pcF (by3 v) := ⟨_, rfl⟩
  obtain ⟨y2, hy2e⟩ : ∃ y, y = pcG (by0 v) + 256 * pcG (by1 v) + 65536 * pcG (by2 v) + 16777216 * pcG (by3 v) := ⟨_, rfl⟩
  obtain ⟨y3, hy3e⟩ : ∃ y, y = pcK (by0 v) + 256 * pcK (by1 v) + 65536 * pcK (by2 v) + 16777216 * pcK (by3 v) := ⟨_, rfl⟩
  have hy1 : nI (v - (v / 2 &&& 1431655765)) = nI y1 := by rw [hs1, hy1e]
  have hy2 : nI ((y1 &&& 858993459) + (y1 / 4 &&& 858993459)) = nI y2 := by rw [hy1e, hy2e]; exact congrArg nI (pc_s2 h0 h1 h2 h3)
  have hy3 : nI ((y2 + y2 / 16) &&& 252645135) = nI y3 := by rw [hy2e, hy3e]; exact congrArg nI (pc_s3 h0 h1 h2 h3)
  have hy5 : nI (((y3 + y3 / 256) + (y3 + y3 / 256) / 65536) &&& 63) = nI (pcSum v) := by rw [hy3e]; exact congrArg nI (pc_fin h0 h1 h2 h3)
  have hl1 : y1 < 2 ^ 32 := by omega
  have hl2 : y2 < 2 ^ 32 := by omega
  have hl3 : y3 < 2 ^ 32 := by omega
  have hl4 : y3 + y3 / 256 < 2 ^ 32 := by omega
  show Ev _ _ 0 [.int (nI v)] [] M _
  refine ev_iload_n 1 dJ6_bitCount_0f7a4_0 rfl rfl ?_
  refine ev_iload_n 2 dJ6_bitCount_0f7a4_1 rfl rfl ?_
  refine ev_iconst 3 (nI 1) dJ6_bitCount_0f7a4_2 (by decide) rfl ?_
  refine ev_iushr 4 dJ6_bitCount_0f7a4_3 rfl ?_
  refine ev_eqI (show _ = nI (v / 2) from pk_ushrN hv _ 1 (by decide)) ?_
  refine ev_ldcw 7 (nI 1431655765) dJ6_bitCount_0f7a4_4 kJ6_265 rfl ?_
  refine ev_iand 8 dJ6_bitCount_0f7a4_7 rfl ?_
  refine ev_eqI (fa_and _ _) ?_
  refine ev_isubN 9 dJ6_bitCount_0f7a4_8 hle rfl ?_
  refine ev_eqI hy1 ?_
  refine ev_istore_n 10 _ dJ6_bitCount_0f7a4_9 (by decide) rfl rfl rfl ?_
  refine ev_iload_n 11 dJ6_bitCount_0f7a4_10 rfl rfl ?_
  refine ev_ldcw 14 (nI 858993459) dJ6_bitCount_0f7a4_11 kJ6_266 rfl ?_
  refine ev_iand 15 dJ6_bitCount_0f7a4_14 rfl ?_
  refine ev_eqI (fa_and _ _) ?_
  refine ev_iload_n 16 dJ6_bitCount_0f7a4_15 rfl rfl ?_
  refine ev_iconst 17 (nI 2) dJ6_bitCount_0f7a4_16 (by decide) rfl ?_
  refine ev_iushr 18 dJ6_bitCount_0f7a4_17 rfl ?_
  refine ev_eqI (show _ = nI (y1 / 4) from pk_ushrN hl1 _ 2 (by decide)) ?_
  refine ev_ldcw 21 (nI 858993459) dJ6_bitCount_0f7a4_18 kJ6_266 rfl ?_
  refine ev_iand 22 dJ6_bitCount_0f7a4_21 rfl ?_
  refine ev_eqI (fa_and _ _) ?_
  refine ev_iaddN 23 dJ6_bitCount_0f7a4_22 rfl ?_
  refine ev_eqI hy2 ?_
  refine ev_istore_n 24 _ dJ6_bitCount_0f7a4_23 (by decide) rfl rfl rfl ?_
  refine ev_iload_n 25 dJ6_bitCount_0f7a4_24 rfl rfl ?_
  refine ev_iload_n 26 dJ6_bitCount_0f7a4_25 rfl rfl ?_
  refine ev_iconst 27 (nI 4) dJ6_bitCount_0f7a4_26 (by decide) rfl ?_
  refine ev_iushr 28 dJ6_bitCount_0f7a4_27 rfl ?_
  refine ev_eqI (show _ = nI (y2 / 16) from pk_ushrN hl2 _ 4 (by decide)) ?_
  refine ev_iaddN 29 dJ6_bitCount_0f7a4_28 rfl ?_
  refine ev_ldcw 32 (nI 252645135) dJ6_bitCount_0f7a4_29 kJ6_267 rfl ?_
  refine ev_iand 33 dJ6_bitCount_0f7a4_32 rfl ?_
  refine ev_eqI ((fa_and _ _).trans hy3) ?_
  refine ev_istore_n 34 _ dJ6_bitCount_0f7a4_33 (by decide) rfl rfl rfl ?_
  refine ev_iload_n 35 dJ6_bitCount_0f7a4_34 rfl rfl ?_
  refine ev_iload_n 36 dJ6_bitCount_0f7a4_35 rfl rfl ?_
  refine ev_bipush 38 (nI 8) dJ6_bitCount_0f7a4_36 (by decide) rfl ?_
  refine ev_iushr 39 dJ6_bitCount_0f7a4_38 rfl ?_
  refine ev_eqI (show _ = nI (y3 / 256) from pk_ushrN hl3 _ 8 (by decide)) ?_
  refine ev_iaddN 40 dJ6_bitCount_0f7a4_39 rfl ?_
  refine ev_istore_n 41 _ dJ6_bitCount_0f7a4_40 (by decide) rfl rfl rfl ?_
  refine ev_iload_n 42 dJ6_bitCount_0f7a4_41 rfl rfl ?_
  refine ev_iload_n 43 dJ6_bitCount_0f7a4_42 rfl rfl ?_
  refine ev_bipush 45 (nI 16) dJ6_bitCount_0f7a4_43 (by decide) rfl ?_
  refine ev_iushr 46 dJ6_bitCount_0f7a4_45 rfl ?_
  refine ev_eqI (show _ = nI ((y3 + y3 / 256) / 65536) from pk_ushrN hl4 _ 16 (by decide)) ?_
  refine ev_iaddN 47 dJ6_bitCount_0f7a4_46 rfl ?_
  refine ev_istore_n 48 _ dJ6_bitCount_0f7a4_47 (by decide) rfl rfl rfl ?_
  refine ev_iload_n 49 dJ6_bitCount_0f7a4_48 rfl rfl ?_
  refine ev_bipush 51 (nI 63) dJ6_bitCount_0f7a4_49 (by decide) rfl ?_
  refine ev_iand 52 dJ6_bitCount_0f7a4_51 rfl ?_
  refine ev_eqI ((fa_and _ _).trans hy5) ?_
  exact ev_iret dJ6_bitCount_0f7a4_52 rfl (⟨rfl, rfl⟩)
