section
/-! the reference's calls (IV): digest, walk, key, keeper -/
def PL (v : Int64) (s : St) : Pst := fun r M => r = some (.long v) ∧ RS M s
theorem s_X8_digest_17 {M : Mm} {p : Nat} {z : Int64} (hp : p < 24) {Q : Pst} (k : Ev MSh mX8_digest 45 [.ref 0, .long (dgI (M 1) p z 18), .null, .int (nI p), .int (nI 18)] [] M Q) : ∀ d i, i + d = 18 → Ev MSh mX8_digest 17 [.ref 0, .long (dgI (M 1) p z i), .null, .int (nI p), .int (nI i)] [] M Q
  | 0, i, h => by
    refine ev_iload 19 dX8_digest_17 rfl rfl ?_
    refine ev_bipush 21 (nI 18) dX8_digest_19 (by decide) rfl ?_
    refine ev_icmp_geN 24 45 dX8_digest_21 (by decide) rfl (by omega) (by omega) (fun c21 => ?_) (fun c21 => ?_)
    · rw [show i = 18 by omega]
      exact k
    · omega
  | d + 1, i, h => by
    refine ev_iload 19 dX8_digest_17 rfl rfl ?_
    refine ev_bipush 21 (nI 18) dX8_digest_19 (by decide) rfl ?_
    refine ev_icmp_geN 24 45 dX8_digest_21 (by decide) rfl (by omega) (by omega) (fun c21 => ?_) (fun c21 => ?_)
    · omega
    · refine ev_ldc2 27 (lN 31) dX8_digest_24 kX8_229 rfl ?_
      refine ev_lload_n 28 dX8_digest_27 rfl rfl ?_
      refine ev_lmul 29 dX8_digest_28 rfl ?_
      refine ev_aload_n 30 dX8_digest_29 rfl rfl ?_
      refine ev_iload_n 31 dX8_digest_30 rfl rfl ?_
      refine ev_iload 33 dX8_digest_31 rfl rfl ?_
      refine ev_cV2I (M 1 (p * 18 + i)) M 36 dX8_digest_33 mlX8_74 moX8_get rfl imX8_get ⟨_, _, rfl, rfl, rfl⟩ (Nat.le_of_ble_eq_true rfl) (Nat.le_of_ble_eq_true rfl) rfl (s_X8_get (a := p) (b := i) (by omega) (by omega)) ?_
      refine ev_i2l 37 dX8_digest_36 rfl ?_
      refine ev_ladd 38 dX8_digest_37 rfl ?_
      refine ev_lstore_n 39 _ dX8_digest_38 (by decide) rfl rfl rfl ?_
      refine ev_iincN 42 _ dX8_digest_39 rfl (by decide) rfl rfl rfl ?_
      refine ev_goto 17 dX8_digest_42 (by decide) ?_
      exact s_X8_digest_17 hp k d (i + 1) (by omega)
theorem s_X8_digest_6 {M : Mm} {n : Nat} (hn : n ≤ 24) (hm : M 0 0 = nI n) {Q : Pst} (k : ∀ u : Value, Ev MSh mX8_digest 51 [.ref 0, .long (dgO (M 1) n), .null, .int (nI n), u] [] M Q) : ∀ d i (u : Value), i + d = n → Ev MSh mX8_digest 6 [.ref 0, .long (dgO (M 1) i), .null, .int (nI i), u] [] M Q
  | 0, i, u, h => by
    refine ev_iload_n 7 dX8_digest_6 rfl rfl ?_
    refine ev_aload_n 8 dX8_digest_7 rfl rfl ?_
    refine ev_getIv 11 (nI n) dX8_digest_8 rfl flX8_57 rfl rfl hm ?_
    refine ev_icmp_geN 14 51 dX8_digest_11 (by decide) rfl (by omega) (by omega) (fun c11 => ?_) (fun c11 => ?_)
    · rw [show i = n by omega]
      exact k _
    · omega
  | d + 1, i, u, h => by
    refine ev_iload_n 7 dX8_digest_6 rfl rfl ?_
    refine ev_aload_n 8 dX8_digest_7 rfl rfl ?_
    refine ev_getIv 11 (nI n) dX8_digest_8 rfl flX8_57 rfl rfl hm ?_
    refine ev_icmp_geN 14 51 dX8_digest_11 (by decide) rfl (by omega) (by omega) (fun c11 => ?_) (fun c11 => ?_)
    · omega
    · refine ev_iconst 15 (nI 0) dX8_digest_14 (by decide) rfl ?_
      refine ev_istore 17 _ dX8_digest_15 (by decide) rfl rfl rfl ?_
      refine s_X8_digest_17 (p := i) (by omega) ?_ 18 0 (by omega)
      refine ev_iincN 48 _ dX8_digest_45 rfl (by decide) rfl rfl rfl ?_
      refine ev_goto 6 dX8_digest_48 (by decide) ?_
      exact s_X8_digest_6 hn hm k d (i + 1) _ (by omega)
theorem s_X8_digest_65 {M : Mm} {sp : List Nat} (hsp : rowAt M 2 0 3 sp) {z : Int64} (u : Value) {Q : Pst} (k : Ev MSh mX8_digest 93 [.ref 0, .long (dgS sp z sp.length), .null, .int (nI sp.length), u] [] M Q) : ∀ d i, i + d = sp.length → Ev MSh mX8_digest 65 [.ref 0, .long (dgS sp z i), .null, .int (nI i), u] [] M Q
  | 0, i, h => by
    have hle := hsp.2.1
    refine ev_iload_n 66 dX8_digest_65 rfl rfl ?_
    refine ev_aload_n 67 dX8_digest_66 rfl rfl ?_
    refine ev_getIv 70 (nI sp.length) dX8_digest_67 rfl flX8_92 rfl rfl hsp.1 ?_
    refine ev_icmp_geN 73 93 dX8_digest_70 (by decide) rfl (by omega) (by omega) (fun c70 => ?_) (fun c70 => ?_)
    · rw [show i = sp.length by omega]
      exact k
    · omega
  | d + 1, i, h => by
    have hle := hsp.2.1
    refine ev_iload_n 66 dX8_digest_65 rfl rfl ?_
    refine ev_aload_n 67 dX8_digest_66 rfl rfl ?_
    refine ev_getIv 70 (nI sp.length) dX8_digest_67 rfl flX8_92 rfl rfl hsp.1 ?_
    refine ev_icmp_geN 73 93 dX8_digest_70 (by decide) rfl (by omega) (by omega) (fun c70 => ?_) (fun c70 => ?_)
    · omega
    · refine ev_ldc2 76 (lN 31) dX8_digest_73 kX8_229 rfl ?_
      refine ev_lload_n 77 dX8_digest_76 rfl rfl ?_
      refine ev_lmul 78 dX8_digest_77 rfl ?_
      refine ev_aload_n 79 dX8_digest_78 rfl rfl ?_
      refine ev_getR 82 dX8_digest_79 rfl flX8_13 rfl rfl ?_
      refine ev_iload_n 83 dX8_digest_82 rfl rfl ?_
      refine ev_iaN 84 (nI (nth sp i)) dX8_digest_83 rfl (by omega) (by decide) rfl (hsp.2.2 i (by omega)) ?_
      refine ev_i2l 85 dX8_digest_84 rfl ?_
      refine ev_ladd 86 dX8_digest_85 rfl ?_
      refine ev_lstore_n 87 _ dX8_digest_86 (by decide) rfl rfl rfl ?_
      refine ev_iincN 90 _ dX8_digest_87 rfl (by decide) rfl rfl rfl ?_
      refine ev_goto 65 dX8_digest_90 (by decide) ?_
      exact s_X8_digest_65 hsp u k d (i + 1) (by omega)
theorem r_digest {M : Mm} {n t : Nat} {sp : List Nat} (g : GS (M 1, n, t, sp)) (hR : RS M (M 1, n, t, sp)) : Ct MSh mX8_digest [.ref 0] M (PL (spDig (M 1) n t sp) (M 1, n, t, sp)) := by
  have hn0 : 0 < n := g.1.1.1
  have hn : n ≤ 24 := g.1.1.2
  have ht : TR (M 1) n := g.1.2.1
  have hlab : ∀ a, a < n → labOK (M 1) n a := g.1.2.2.1
  have hpl : ∀ y, y < n → plOK (M 1) y := g.1.2.2.2.1
  have hco : ∀ a, a < n → colOK (M 1) a := g.1.2.2.2.2.1
  have h01 : ∀ x, x < n → h01 (M 1) x := g.1.2.2.2.2.2.1
  have ho : opsOK (M 1) n := g.1.2.2.2.2.2.2.1
  have hz : ∀ j, n * 18 ≤ j → M 1 j = 0 := g.1.2.2.2.2.2.2.2
  have h6 : (dsF (M 1) n n).length ≤ 6 := g.2.1
  have ht2 : t ≤ n := g.2.2.1
  have hfs : ∀ a, t = a + 1 → shwn (M 1) a = true := g.2.2.2.1
  have hnd : sp.Nodup := g.2.2.2.2.1
  have hsb : ∀ y ∈ sp, y < 24 := g.2.2.2.2.2
  have hm : M 0 0 = nI n := hR.2.1
  have hf : M 0 2 = pm t := hR.2.2.1
  have hsp : rowAt M 2 0 3 sp := hR.2.2.2
  show Ev _ _ 0 [.ref 0, .null, .null, .null, .null] [] M _
  refine ev_ldc2 3 (lN 107) dX8_digest_0 kX8_227 rfl ?_
  refine ev_lstore_n 4 _ dX8_digest_3 (by decide) rfl rfl rfl ?_
  refine ev_iconst 5 (nI 0) dX8_digest_4 (by decide) rfl ?_
  refine ev_istore_n 6 _ dX8_digest_5 (by decide) rfl rfl rfl ?_
  refine s_X8_digest_6 hn hm (fun u => ?_) n 0 _ (by omega)
  refine ev_ldc2 54 (lN 31) dX8_digest_51 kX8_229 rfl ?_
  refine ev_lload_n 55 dX8_digest_54 rfl rfl ?_
  refine ev_lmul 56 dX8_digest_55 rfl ?_
  refine ev_aload_n 57 dX8_digest_56 rfl rfl ?_
  refine ev_getIv 60 (pm t) dX8_digest_57 rfl flX8_49 rfl rfl hf ?_
  refine ev_i2l 61 dX8_digest_60 rfl ?_
  refine ev_ladd 62 dX8_digest_61 rfl ?_
  refine ev_lstore_n 63 _ dX8_digest_62 (by decide) rfl rfl rfl ?_
  refine ev_iconst 64 (nI 0) dX8_digest_63 (by decide) rfl ?_
  refine ev_istore_n 65 _ dX8_digest_64 (by decide) rfl rfl rfl ?_
  refine s_X8_digest_65 hsp u ?_ sp.length 0 (by omega)
  refine ev_ldc2 96 (lN 31) dX8_digest_93 kX8_229 rfl ?_
  refine ev_lload_n 97 dX8_digest_96 rfl rfl ?_
  refine ev_lmul 98 dX8_digest_97 rfl ?_
  refine ev_aload_n 99 dX8_digest_98 rfl rfl ?_
  refine ev_cV0 102 dX8_digest_99 mlX8_221 moX8_wrongs rfl imX8_wrongs ⟨_, _, rfl, rfl, rfl⟩ (Nat.le_of_ble_eq_true rfl) (Nat.le_of_ble_eq_true rfl) rfl (r_wrongs g hR) ?_
  rintro r M2 ⟨rfl, h2⟩
  refine ev_i2l 103 dX8_digest_102 rfl ?_
  refine ev_ladd 104 dX8_digest_103 rfl ?_
  exact ev_lret dX8_digest_104 rfl (⟨rfl, h2⟩)
-- the search of the reference
def s0F (h : Nat → Int32) (n t : Nat) : Nat := stS h (dsF h n n) t
def nxF (h : Nat → Int32) (n : Nat) : Nat → Nat → Nat := nxR h n (dsF h n n)
def spWalk (h : Nat → Int32) (n t : Nat) (x : Int32) : Int32 := if inB x n = false then -101 else lst (nxF h n) x.toNatClampNeg (s0F h n t)
def spKey (h : Nat → Int32) (n t : Nat) (x : Int32) : Int32 := if inB x n = false then -101 else kyF (lst (nxF h n) x.toNatClampNeg (s0F h n t)) (fun k => lst (nxF h n) x.toNatClampNeg (nxF h n k (s0F h n t)))
def outQ (h : Nat → Int32) (tr s : Nat) : Bool := match s % 25 with
  | 0 => false
  | f + 1 => !decide (tr ∈ chain h f)
def kpR (h : Nat → Int32) (tr : Nat) (q : List (Nat × Nat)) : Nat → Bool
  | 0 => false
  | k + 1 => kpR h tr q k || outQ h tr (pr1 q k)
def spKeep (h : Nat → Int32) (n t : Nat) : Int32 := match trS h t with
  | none => -1
  | some tr => if kpR h tr ((QF (nxF h n) (s0F h n t)).map pj) (QF (nxF h n) (s0F h n t)).length = true then -1 else nI tr
theorem h01_of {h : Nat → Int32} {n : Nat} (h0 : ∀ x, x < n → h01 h x) : ∀ x ∈ dsF h n n, h01 h x := fun x hx => h0 x (dsF_mem.mp hx).1
theorem s0_ok {h : Nat → Int32} {n t : Nat} (hn : n ≤ 24) (h6 : (dsF h n n).length ≤ 6) (h0 : ∀ x, x < n → h01 h x) (ht2 : t ≤ n) (hfs : ∀ a, t = a + 1 → shwn h a = true) : s0F h n t / 25 = mkN (hdP h (dsF h n n)) (dsF h n n).length ∧ s0F h n t % 25 = t ∧ cmH h (dsF h n n) (s0F h n t / 25) (dsF h n n).length = h ∧ VS h n (dsF h n n) (s0F h n t) ∧ s0F h n t < 1600 := by
  have e1 : s0F h n t / 25 = mkN (hdP h (dsF h n n)) (dsF h n n).length := by
    show (mkN _ _ * 25 + t) / 25 = _
    omega
  have e2 : s0F h n t % 25 = t := by
    show (mkN _ _ * 25 + t) % 25 = _
    omega
  have e3 : cmH h (dsF h n n) (s0F h n t / 25) (dsF h n n).length = h := by
    rw [e1]
    exact cmH_back h6 (h01_of h0) _ (Nat.le_refl _)
  have v : VS h n (dsF h n n) (s0F h n t) := by
    refine ⟨by rw [e1]; exact mkN_lt _ _, by rw [e2]; exact ht2, fun a ea => ?_⟩
    rw [e3]
    exact hfs a (by rw [← e2]; exact ea)
  exact ⟨e1, e2, e3, v, vs_16 h6 v⟩
theorem rb_eq {h : Nat → Int32} {n s : Nat} (ht : TR h n) (hn0 : 0 < n) (hn : n ≤ 24) (ho : opsOK h n) (h6 : (dsF h n n).length ≤ 6) (hv : VS h n (dsF h n n) s) : rbfs h n (dsF h n n) 1600 0 [(s, 0)] = (QF (nxF h n) s).map pj := rbfs_map (vs_clsd ht hn0 hn ho h6) 1600 0 (Q0 s) (li_0 (vs_16 h6 hv) hv)
theorem nxR_cg {h h1 : Nat → Int32} {n : Nat} {dl : List Nat} (e : eqD h h1 dl) : nxR h1 n dl = nxR h n dl := by
  funext key s
  rw [nxR, nxR, cmH_eq e]
theorem rkF_cg {h h1 : Nat → Int32} {n : Nat} {dl : List Nat} (e : eqD h h1 dl) (q : List (Nat × Nat)) (a : Nat) : ∀ k, rkF h1 n dl q a k = rkF h n dl q a k
  | 0 => rfl
  | k + 1 => by rw [rkF, rkF, rkF_cg e q a k, nxR_cg e]
theorem rbfs_cg {h h1 : Nat → Int32} {n : Nat} {dl : List Nat} (e : eqD h h1 dl) : ∀ d a q, rbfs h1 n dl d a q = rbfs h n dl d a q
  | 0, _, _ => rfl
  | d + 1, a, q => by
    rw [rbfs, rbfs, rkF_cg e]
    split
    · exact rbfs_cg e d (a + 1) _
    · rfl
theorem spQ_rs {M M2 : Mm} {n t : Nat} {dl sp : List Nat} {q : List (Nat × Nat)} (hm : M 0 0 = nI n) (hf : M 0 2 = pm t) (h : spQ M M2 n dl sp q) : RS M2 (M 1, n, t, sp) := ⟨h.2.2.1, by show M2 0 0 = _; rw [h.2.1 0 (by decide) (by decide) (by decide) (by decide)]; exact hm, by show M2 0 2 = _; rw [h.2.1 2 (by decide) (by decide) (by decide) (by decide)]; exact hf, h.2.2.2.2.1⟩
theorem r_walk {M : Mm} {n t : Nat} {sp : List Nat} (g : GS (M 1, n, t, sp)) (hR : RS M (M 1, n, t, sp)) (x : Int32) : Ct MSh mX8_walk [.ref 0, .int x] M (PS (spWalk (M 1) n t x, (M 1, n, t, sp))) := by
  have hn0 : 0 < n := g.1.1.1
  have hn : n ≤ 24 := g.1.1.2
  have ht : TR (M 1) n := g.1.2.1
  have hlab : ∀ a, a < n → labOK (M 1) n a := g.1.2.2.1
  have hpl : ∀ y, y < n → plOK (M 1) y := g.1.2.2.2.1
  have hco : ∀ a, a < n → colOK (M 1) a := g.1.2.2.2.2.1
  have h01 : ∀ x, x < n → h01 (M 1) x := g.1.2.2.2.2.2.1
  have ho : opsOK (M 1) n := g.1.2.2.2.2.2.2.1
  have hz : ∀ j, n * 18 ≤ j → M 1 j = 0 := g.1.2.2.2.2.2.2.2
  have h6 : (dsF (M 1) n n).length ≤ 6 := g.2.1
  have ht2 : t ≤ n := g.2.2.1
  have hfs : ∀ a, t = a + 1 → shwn (M 1) a = true := g.2.2.2.1
  have hnd : sp.Nodup := g.2.2.2.2.1
  have hsb : ∀ y ∈ sp, y < 24 := g.2.2.2.2.2
  have hm : M 0 0 = nI n := hR.2.1
  have hf : M 0 2 = pm t := hR.2.2.1
  have hsp : rowAt M 2 0 3 sp := hR.2.2.2
  show Ev _ _ 0 [.ref 0, .int x] [] M _
  refine ev_aload_n 1 dX8_walk_0 rfl rfl ?_
  refine ev_iload_n 2 dX8_walk_1 rfl rfl ?_
  refine ev_cV1I _ M 5 dX8_walk_2 mlX8_68 moX8_isPart rfl imX8_isPart ⟨_, _, rfl, rfl, rfl⟩ (Nat.le_of_ble_eq_true rfl) (Nat.le_of_ble_eq_true rfl) rfl (s_X8_isPart hn0 hn hm x) ?_
  refine ev_if_neB 8 11 dX8_walk_5 (by decide) rfl (fun c5 => ?_) (fun c5 => ?_)
  · obtain ⟨a, ha, rfl⟩ := inB_of c5 (by omega)
    refine ev_aload_n 12 dX8_walk_11 rfl rfl ?_
    refine ev_cV0 15 dX8_walk_12 mlX8_191 moX8_spread rfl imX8_spread ⟨_, _, rfl, rfl, rfl⟩ (Nat.le_of_ble_eq_true rfl) (Nat.le_of_ble_eq_true rfl) rfl (s_X8_spread ht hn0 hn hm hpl ho h6 h01 ht2 hf hsp hnd hsb) ?_
    rintro r M2 ⟨rfl, h2⟩
    obtain ⟨z1, z2, z3, zv, z16⟩ := s0_ok hn h6 h01 ht2 hfs
    rw [show stS (M 1) (dsF (M 1) n n) t = s0F (M 1) n t from rfl, rb_eq ht hn0 hn ho h6 zv] at h2
    have hR2 := spQ_rs hm hf h2
    refine ev_aload_n 16 dX8_walk_15 rfl rfl ?_
    refine ev_iload_n 17 dX8_walk_16 rfl rfl ?_
    refine ev_cV1I (lst (nxF (M 1) n) a (s0F (M 1) n t)) M2 20 dX8_walk_17 mlX8_194 moX8_leastTo rfl imX8_leastTo ⟨_, _, rfl, rfl, rfl⟩ (Nat.le_of_ble_eq_true rfl) (Nat.le_of_ble_eq_true rfl) rfl (by have z := s_X8_leastTo h2.2.2.2.2.2.1 (nI a); rw [List.length_map] at z; exact z) ?_
    exact ev_iret dX8_walk_20 rfl (ps_of (by rw [spWalk, if_neg (by rw [c5]; decide), nI_clamp (show a < 2 ^ 31 by omega)]) hR2)
  · refine ev_bipush 10 (-101) dX8_walk_8 (by decide) rfl ?_
    exact ev_iret dX8_walk_10 rfl (ps_of (by rw [spWalk, if_pos c5]) hR)
theorem s_X8_keeper_22 {M : Mm} {n tr : Nat} {q : List (Nat × Nat)} (ht : TR (M 1) n) (hn : n ≤ 24) (htr : tr < 24) (hr : rI M q) (hq : ∀ i, i < q.length → pr1 q i % 25 ≤ n) {Q : Pst} (k1 : kpR (M 1) tr q q.length = false → Q (some (.int (nI tr))) M) (k0 : ∀ i, i < q.length → outQ (M 1) tr (pr1 q i) = true → Q (some (.int (-1))) M) : ∀ d i (u : Value), i + d = q.length → kpR (M 1) tr q i = false → Ev MSh mX8_keeper 22 [.ref 0, .int (nI tr), .int (nI i), u] [] M Q
  | 0, i, u, h, hk0 => by
    have hle := hr.2.1
    refine ev_iload_n 23 dX8_keeper_22 rfl rfl ?_
    refine ev_aload_n 24 dX8_keeper_23 rfl rfl ?_
    refine ev_getIv 27 (nI q.length) dX8_keeper_24 rfl flX8_185 rfl rfl hr.1 ?_
    refine ev_icmp_geN 30 64 dX8_keeper_27 (by decide) rfl (by omega) (by omega) (fun c27 => ?_) (fun c27 => ?_)
    · refine ev_iload_n 65 dX8_keeper_64 rfl rfl ?_
      exact ev_iret dX8_keeper_65 rfl (k1 (by rw [← hk0, show i = q.length by omega]))
    · omega
  | d + 1, i, u, h, hk0 => by
    have hle := hr.2.1
    have hqi := hq i (by omega)
    refine ev_iload_n 23 dX8_keeper_22 rfl rfl ?_
    refine ev_aload_n 24 dX8_keeper_23 rfl rfl ?_
    refine ev_getIv 27 (nI q.length) dX8_keeper_24 rfl flX8_185 rfl rfl hr.1 ?_
    refine ev_icmp_geN 30 64 dX8_keeper_27 (by decide) rfl (by omega) (by omega) (fun c27 => ?_) (fun c27 => ?_)
    · omega
    · refine ev_aload_n 31 dX8_keeper_30 rfl rfl ?_
      refine ev_getR 34 dX8_keeper_31 rfl flX8_40 rfl rfl ?_
      refine ev_iload_n 35 dX8_keeper_34 rfl rfl ?_
      refine ev_iaN 36 (nI (pr1 q i)) dX8_keeper_35 rfl (by omega) (by decide) rfl (hr.2.2.1 i (by omega)).1 ?_
      refine ev_bipush 38 (nI 25) dX8_keeper_36 (by decide) rfl ?_
      refine ev_irem 39 dX8_keeper_38 (by decide) rfl ?_
      refine ev_eqI ((by exact pk_rem (by have := (hr.2.2.1 i (by omega)).2.1; omega) (by decide) (by decide)) : _ = nI (pr1 q i % 25)) ?_
      refine ev_iconst 40 (nI 1) dX8_keeper_39 (by decide) rfl ?_
      refine ev_isub 41 dX8_keeper_40 rfl ?_
      refine ev_eqI (show nI (pr1 q i % 25) - nI 1 = pm (pr1 q i % 25) from rfl) ?_
      refine ev_istore_n 42 _ dX8_keeper_41 (by decide) rfl rfl rfl ?_
      refine ev_iload_n 43 dX8_keeper_42 rfl rfl ?_
      refine ev_iconst 44 (-1) dX8_keeper_43 (by decide) rfl ?_
      refine ev_icmp_eq 47 58 dX8_keeper_44 (by decide) rfl (fun c44 => ?_) (fun c44 => ?_)
      · refine ev_iincN 61 _ dX8_keeper_58 rfl (by decide) rfl rfl rfl ?_
        refine ev_goto 22 dX8_keeper_61 (by decide) ?_
        exact s_X8_keeper_22 ht hn htr hr hq k1 k0 d (i + 1) _ (by omega) (by rw [kpR, hk0, outQ, show pr1 q i % 25 = 0 from by cases e : pr1 q i % 25 with | zero => rfl | succ f => rw [e, pm_s] at c44; exact absurd c44 (nI_m1 (by omega))]; rfl)
      · obtain ⟨f, hf⟩ : ∃ f, pr1 q i % 25 = f + 1 := by
          cases e : pr1 q i % 25 with
          | zero => rw [e, pm_0] at c44; exact absurd rfl c44
          | succ f => exact ⟨f, rfl⟩
        rw [hf, pm_s]
        refine ev_aload_n 48 dX8_keeper_47 rfl rfl ?_
        refine ev_iload_n 49 dX8_keeper_48 rfl rfl ?_
        refine ev_iload_n 50 dX8_keeper_49 rfl rfl ?_
        refine ev_cV2I _ M 53 dX8_keeper_50 mlX8_135 moX8_lies rfl imX8_lies ⟨_, _, rfl, rfl, rfl⟩ (Nat.le_of_ble_eq_true rfl) (Nat.le_of_ble_eq_true rfl) rfl (s_X8_lies ht hn (show f < n by omega) htr) ?_
        refine ev_if_neB 56 58 dX8_keeper_53 (by decide) rfl (fun c53 => ?_) (fun c53 => ?_)
        · refine ev_iincN 61 _ dX8_keeper_58 rfl (by decide) rfl rfl rfl ?_
          refine ev_goto 22 dX8_keeper_61 (by decide) ?_
          exact s_X8_keeper_22 ht hn htr hr hq k1 k0 d (i + 1) _ (by omega) (by rw [kpR, hk0, outQ, hf]; show (false || !_) = false; rw [c53]; rfl)
        · refine ev_iconst 57 (-1) dX8_keeper_56 (by decide) rfl ?_
          exact ev_iret dX8_keeper_57 rfl (k0 i (by omega) (by rw [outQ, hf]; show (!_) = true; rw [c53]; rfl))
theorem kpR_yes {h : Nat → Int32} {tr : Nat} {q : List (Nat × Nat)} {i : Nat} (e : outQ h tr (pr1 q i) = true) : ∀ k, i < k → kpR h tr q k = true
  | 0, hi => absurd hi (Nat.not_lt_zero _)
  | k + 1, hi => by
    rw [kpR]
    by_cases c : i = k
    · rw [← c, e, Bool.or_true]
    · rw [kpR_yes e k (by omega)]; rfl
theorem r_keeper {M : Mm} {n t : Nat} {sp : List Nat} (g : GS (M 1, n, t, sp)) (hR : RS M (M 1, n, t, sp)) : Ct MSh mX8_keeper [.ref 0] M (PS (spKeep (M 1) n t, (M 1, n, t, sp))) := by
  have hn0 : 0 < n := g.1.1.1
  have hn : n ≤ 24 := g.1.1.2
  have ht : TR (M 1) n := g.1.2.1
  have hlab : ∀ a, a < n → labOK (M 1) n a := g.1.2.2.1
  have hpl : ∀ y, y < n → plOK (M 1) y := g.1.2.2.2.1
  have hco : ∀ a, a < n → colOK (M 1) a := g.1.2.2.2.2.1
  have h01 : ∀ x, x < n → h01 (M 1) x := g.1.2.2.2.2.2.1
  have ho : opsOK (M 1) n := g.1.2.2.2.2.2.2.1
  have hz : ∀ j, n * 18 ≤ j → M 1 j = 0 := g.1.2.2.2.2.2.2.2
  have h6 : (dsF (M 1) n n).length ≤ 6 := g.2.1
  have ht2 : t ≤ n := g.2.2.1
  have hfs : ∀ a, t = a + 1 → shwn (M 1) a = true := g.2.2.2.1
  have hnd : sp.Nodup := g.2.2.2.2.1
  have hsb : ∀ y ∈ sp, y < 24 := g.2.2.2.2.2
  have hm : M 0 0 = nI n := hR.2.1
  have hf : M 0 2 = pm t := hR.2.2.1
  have hsp : rowAt M 2 0 3 sp := hR.2.2.2
  show Ev _ _ 0 [.ref 0, .null, .null, .null] [] M _
  refine ev_aload_n 1 dX8_keeper_0 rfl rfl ?_
  refine ev_aload_n 2 dX8_keeper_1 rfl rfl ?_
  refine ev_getIv 5 (pm t) dX8_keeper_2 rfl flX8_49 rfl rfl hf ?_
  refine ev_cV1I _ M 8 dX8_keeper_5 mlX8_165 moX8_trapOf rfl imX8_trapOf ⟨_, _, rfl, rfl, rfl⟩ (Nat.le_of_ble_eq_true rfl) (Nat.le_of_ble_eq_true rfl) rfl (s_X8_trapOf ht hn t ht2) ?_
  refine ev_istore_n 9 _ dX8_keeper_8 (by decide) rfl rfl rfl ?_
  refine ev_iload_n 10 dX8_keeper_9 rfl rfl ?_
  refine ev_iconst 11 (-1) dX8_keeper_10 (by decide) rfl ?_
  refine ev_icmp_ne 14 16 dX8_keeper_11 (by decide) rfl (fun c11 => ?_) (fun c11 => ?_)
  · obtain ⟨tr, htr⟩ : ∃ tr, trS (M 1) t = some tr := by
      cases e : trS (M 1) t with
      | none => rw [e] at c11; exact absurd rfl c11
      | some tr => exact ⟨tr, rfl⟩
    have htl := trS_lt htr
    rw [htr]
    show Ev _ _ _ [.ref 0, .int (nI tr), .null, .null] _ _ _
    refine ev_aload_n 17 dX8_keeper_16 rfl rfl ?_
    refine ev_cV0 20 dX8_keeper_17 mlX8_191 moX8_spread rfl imX8_spread ⟨_, _, rfl, rfl, rfl⟩ (Nat.le_of_ble_eq_true rfl) (Nat.le_of_ble_eq_true rfl) rfl (s_X8_spread ht hn0 hn hm hpl ho h6 h01 ht2 hf hsp hnd hsb) ?_
    rintro r M2 ⟨rfl, h2⟩
    obtain ⟨z1, z2, z3, zv, z16⟩ := s0_ok hn h6 h01 ht2 hfs
    rw [show stS (M 1) (dsF (M 1) n n) t = s0F (M 1) n t from rfl, rb_eq ht hn0 hn ho h6 zv] at h2
    have hR2 := spQ_rs hm hf h2
    refine ev_iconst 21 (nI 0) dX8_keeper_20 (by decide) rfl ?_
    refine ev_istore_n 22 _ dX8_keeper_21 (by decide) rfl rfl rfl ?_
    have hkl : (QF (nxF (M 1) n) (s0F (M 1) n t)).length = ((QF (nxF (M 1) n) (s0F (M 1) n t)).map pj).length := (List.length_map _).symm
    refine s_X8_keeper_22 (M := M2) (n := n) (by rw [h2.2.2.1]; exact ht) hn (by omega) h2.2.2.2.2.2.1 (fun i hi => (h2.2.2.2.2.2.2.2 i hi).1) (fun z => ?_) (fun i hi z => ?_) _ 0 _ (Nat.zero_add _) rfl
    · rw [h2.2.2.1] at z
      exact ps_of (by rw [spKeep, htr]; show (if _ then _ else _, _) = _; rw [hkl, if_neg (by rw [z]; decide)]) hR2
    · rw [h2.2.2.1] at z
      exact ps_of (by rw [spKeep, htr]; show (if _ then _ else _, _) = _; rw [hkl, if_pos (kpR_yes z _ hi)]) hR2
  · refine ev_iconst 15 (-1) dX8_keeper_14 (by decide) rfl ?_
    exact ev_iret dX8_keeper_15 rfl (ps_of (by rw [spKeep, optI_none c11 (fun a e => by have := trS_lt e; omega)]) hR)
end
