section
/-! the reference's calls (II): set, press, mend, count, digest -/
def spSet (h : Nat → Int32) (n t : Nat) (sp : List Nat) (x w v : Int32) : Int32 × St := if inB x n = false then (-101, (h, n, t, sp)) else if alw n w v = false then (-102, (h, n, t, sp)) else if x = 0 ∧ w = nI 5 then (-103, (h, n, t, sp)) else if w = nI 7 ∧ tooF h n x.toNatClampNeg v = true then (-104, (h, n, t, sp)) else (h (x.toNatClampNeg * 18 + w.toNatClampNeg), chgS (h, n, t, sp) x.toNatClampNeg w.toNatClampNeg v)
def spPress (h : Nat → Int32) (n t : Nat) (sp : List Nat) (key : Int32) : Int32 × St := if inB key 3 = false then (-102, (h, n, t, sp)) else if key = nI 2 then (match entP h t with
  | none => (pm t, (h, n, t, sp))
  | some c => (pm (lkS (tgl h c) t), (tgl h c, n, lkS (tgl h c) t, spkS (tgl h c) sp c))) else (pm (nxtT (stpF h n t) key.toNatClampNeg t), (h, n, nxtT (stpF h n t) key.toNatClampNeg t, sp))
def mndH (h : Nat → Int32) (p s : Nat) : Nat → Int32 := if s = 0 ∨ s = 1 then upd (upd (upd h (p * 18 + 3) (-1)) (p * 18 + 4) (-1)) (p * 18 + 1) (nI (1000000 + p)) else if s = 2 then upd h (p * 18 + 16) (nI (inkN (h (p * 18 + 17)).toNatClampNeg)) else if s = 5 then upd h (p * 18 + 9) (nI 1) else h
def spMend (h : Nat → Int32) (n t : Nat) (sp : List Nat) (k : Int32) : Int32 × St := if inB k (wrS h n).length = false then (-101, (h, n, t, sp)) else if pr2 (wrS h n) k.toNatClampNeg = 3 ∨ pr2 (wrS h n) k.toNatClampNeg = 4 then (-103, (h, n, t, sp)) else (nI (wrS (mndH h (pr1 (wrS h n) k.toNatClampNeg) (pr2 (wrS h n) k.toNatClampNeg)) n).length, (mndH h (pr1 (wrS h n) k.toNatClampNeg) (pr2 (wrS h n) k.toNatClampNeg), n, t, sp))
def spCount (h : Nat → Int32) (n : Nat) (sp : List Nat) (w : Int32) : Int32 := if w = nI 0 then nI n else if w = nI 1 then nI (fb_ct (shwn h) n) else if w = nI 2 then nI (stpL h none (ordF h n)).length else if w = nI 3 then nI (saidF h n).length else if w = nI 4 then nI sp.length else if w = nI 5 then nI (fb_ct (opC h (-1) n) n) else -102
def dgI (h : Nat → Int32) (p : Nat) (z : Int64) : Nat → Int64
  | 0 => z
  | k + 1 => lN 31 * dgI h p z k + (h (p * 18 + k)).toInt64
def dgO (h : Nat → Int32) : Nat → Int64
  | 0 => lN 107
  | k + 1 => dgI h k (dgO h k) 18
def dgS (sp : List Nat) (z : Int64) : Nat → Int64
  | 0 => z
  | k + 1 => lN 31 * dgS sp z k + (nI (nth sp k)).toInt64
def spDig (h : Nat → Int32) (n t : Nat) (sp : List Nat) : Int64 := lN 31 * dgS sp (lN 31 * dgO h n + (pm t).toInt64) sp.length + (nI (wrS h n).length).toInt64
theorem alw_ok {n b : Nat} {v : Int32} (hn : n ≤ 24) (hb : b < 10) (h : alw n (nI b) v = true) : okW n b v := by
  rcases (show b = 0 ∨ b = 1 ∨ b = 2 ∨ b = 3 ∨ b = 4 ∨ b = 5 ∨ b = 6 ∨ b = 7 ∨ b = 8 ∨ b = 9 by omega) with rfl | rfl | rfl | rfl | rfl | rfl | rfl | rfl | rfl | rfl
  · exact ⟨by omega, by omega, by omega, by omega, by omega, by omega, by omega, by omega⟩
  · exact ⟨by omega, by omega, by omega, by omega, by omega, by omega, by omega, by omega⟩
  · exact ⟨by omega, by omega, by omega, by omega, by omega, by omega, by omega, by omega⟩
  · have z : (v == -1 || inB v n) = true := h
    rw [Bool.or_eq_true, beq_iff_eq] at z
    refine ⟨by omega, by omega, by omega, fun _ => ?_, by omega, by omega, by omega, by omega⟩
    rcases z with z | z
    · exact Or.inl z
    · obtain ⟨q, hq, e⟩ := inB_of z (by omega)
      exact Or.inr ⟨q, hq, e⟩
  · have z : (v == -1 || inB v n) = true := h
    rw [Bool.or_eq_true, beq_iff_eq] at z
    refine ⟨by omega, by omega, by omega, fun _ => ?_, by omega, by omega, by omega, by omega⟩
    rcases z with z | z
    · exact Or.inl z
    · obtain ⟨q, hq, e⟩ := inB_of z (by omega)
      exact Or.inr ⟨q, hq, e⟩
  · have z : inB v 2 = true := h
    refine ⟨by omega, by omega, by omega, by omega, by omega, by omega, fun _ => ?_, by omega⟩
    obtain ⟨q, hq, e⟩ := inB_of z (by omega)
    rw [e]
    rcases (show q = 0 ∨ q = 1 by omega) with rfl | rfl
    · exact Or.inl rfl
    · exact Or.inr rfl
  · have z : inB v 101 = true := h
    refine ⟨by omega, by omega, by omega, by omega, fun _ => ?_, by omega, by omega, by omega⟩
    obtain ⟨q, hq, e⟩ := inB_of z (by omega)
    exact ⟨q, by omega, e⟩
  · have z : (v == -1 || (v != 0 && inB v n)) = true := h
    rw [Bool.or_eq_true, beq_iff_eq, Bool.and_eq_true, bne_iff_ne] at z
    refine ⟨by omega, by omega, by omega, by omega, by omega, by omega, by omega, fun _ => ?_⟩
    rcases z with z | ⟨z1, z2⟩
    · exact Or.inl z
    · obtain ⟨q, hq, e⟩ := inB_of z2 (by omega)
      refine Or.inr ⟨q, ?_, hq, e⟩
      rcases Nat.eq_zero_or_pos q with y | y
      · rw [e, y] at z1; exact absurd rfl z1
      · exact y
  · exact ⟨by omega, by omega, by omega, by omega, by omega, by omega, by omega, by omega⟩
  · exact ⟨by omega, by omega, by omega, by omega, by omega, by omega, by omega, by omega⟩
theorem nI_z {a : Nat} (h : a < 2 ^ 31) : nI a = 0 ↔ a = 0 := nI_eq (b := 0) h (by decide)
theorem s_X8_set_153 {M : Mm} {n t : Nat} {sp : List Nat} {x y z was : Int32} {u : Value} (ht : TR (M 1) n) (hn : n ≤ 24) (ht2 : t ≤ n) (hm : M 0 0 = nI n) (hf : M 0 2 = pm t) (hsp : rowAt M 2 0 3 sp) : Ev MSh mX8_set 153 [.ref 0, .int x, .int y, .int z, .int was, u] [] M (PS (was, (M 1, n, lkS (M 1) t, sp))) := by
  refine ev_aload_n 154 dX8_set_153 rfl rfl ?_
  refine ev_cV0 157 dX8_set_154 mlX8_104 moX8_lookAtFocus rfl imX8_lookAtFocus ⟨_, _, rfl, rfl, rfl⟩ (Nat.le_of_ble_eq_true rfl) (Nat.le_of_ble_eq_true rfl) rfl (s_X8_lookAtFocus ht hn t ht2 hf) ?_
  rintro r M2 ⟨rfl, h2, h3⟩
  refine ev_iload 159 dX8_set_157 rfl rfl ?_
  exact ev_iret dX8_set_159 rfl (ps_of rfl (rs_mk hsp (h2.1 1 (by decide)) (by rw [h2.2 0 (by decide)]; exact hm) h3 (h2.2 3 (by decide)) (h2.1 2 (by decide))))
theorem s_X8_set_118 {M : Mm} {n t : Nat} {sp : List Nat} (g : GS (M 1, n, t, sp)) (hR : RS M (M 1, n, t, sp)) {a b : Nat} {v : Int32} {u4 u5 : Value} (ha : a < n) (hb : b < 10) : Ev MSh mX8_set 118 [.ref 0, .int (nI a), .int (nI b), .int v, u4, u5] [] M (PS (M 1 (a * 18 + b), chgS (M 1, n, t, sp) a b v)) := by
  have hn0 : 0 < n := g.1.1.1
  have hn : n ≤ 24 := g.1.1.2
  have ht : TR (M 1) n := g.1.2.1
  have hlab : ∀ a, a < n → labOK (M 1) n a := g.1.2.2.1
  have hpl : ∀ y, y < n → plOK (M 1) y := g.1.2.2.2.1
  have hco : ∀ a, a < n → colOK (M 1) a := g.1.2.2.2.2.1
  have h01 : ∀ x, x < n → h01 (M 1) x := g.1.2.2.2.2.2.1
  have ho : opsOK (M 1) n := g.1.2.2.2.2.2.2.1
  have hz : ∀ j, n * 18 ≤ j → M 1 j = 0 := g.1.2.2.2.2.2.2.2
  have h6 : (dsF (M 1) n n).length ≤ 6 := g.2.1
  have ht2 : t ≤ n := g.2.2.1
  have hfs : ∀ a, t = a + 1 → shwn (M 1) a = true := g.2.2.2.1
  have hnd : sp.Nodup := g.2.2.2.2.1
  have hsb : ∀ y ∈ sp, y < 24 := g.2.2.2.2.2
  have hm : M 0 0 = nI n := hR.2.1
  have hf : M 0 2 = pm t := hR.2.2.1
  have hsp : rowAt M 2 0 3 sp := hR.2.2.2
  have htu : TR (upd (M 1) (a * 18 + b) v) n := TR_upd ht (by omega) (by omega) v
  refine ev_aload_n 119 dX8_set_118 rfl rfl ?_
  refine ev_iload_n 120 dX8_set_119 rfl rfl ?_
  refine ev_iload_n 121 dX8_set_120 rfl rfl ?_
  refine ev_cV2I (M 1 (a * 18 + b)) M 124 dX8_set_121 mlX8_74 moX8_get rfl imX8_get ⟨_, _, rfl, rfl, rfl⟩ (Nat.le_of_ble_eq_true rfl) (Nat.le_of_ble_eq_true rfl) rfl (s_X8_get (a := a) (b := b) (by omega) (by omega)) ?_
  refine ev_istore 126 _ dX8_set_124 (by decide) rfl rfl rfl ?_
  refine ev_aload_n 127 dX8_set_126 rfl rfl ?_
  refine ev_iload_n 128 dX8_set_127 rfl rfl ?_
  refine ev_iload_n 129 dX8_set_128 rfl rfl ?_
  refine ev_iload_n 130 dX8_set_129 rfl rfl ?_
  refine ev_cV3V _ 133 dX8_set_130 mlX8_60 moX8_put rfl imX8_put ⟨_, _, rfl, rfl, rfl⟩ (Nat.le_of_ble_eq_true rfl) (Nat.le_of_ble_eq_true rfl) rfl (s_X8_put (a := a) (b := b) (by omega) (by omega)) ?_
  refine ev_iload 135 dX8_set_133 rfl rfl ?_
  refine ev_iload_n 136 dX8_set_135 rfl rfl ?_
  refine ev_icmp_eq 139 153 dX8_set_136 (by decide) rfl (fun c136 => ?_) (fun c136 => ?_)
  · refine Ev.mono (s_X8_set_153 (M := mst M 1 (a * 18 + b) v) (n := n) (t := t) (sp := sp) (by rw [mst_same]; exact htu) hn ht2 (by rw [mst_other _ _ _ (by decide)]; exact hm) (by rw [mst_other _ _ _ (by decide)]; exact hf) (hsp.of (mst_other _ _ _ (by decide)) (by rw [mst_other _ _ _ (by decide)]))) (fun r M2 z => ?_)
    rw [mst_same] at z
    rw [chgS, if_neg (fun z => z.1 c136)]
    exact z
  · refine ev_iload_n 140 dX8_set_139 rfl rfl ?_
    refine ev_if_eqN 143 148 dX8_set_140 (by decide) rfl (by omega) (fun c140 => ?_) (fun c140 => ?_)
    · refine ev_aload_n 149 dX8_set_148 rfl rfl ?_
      refine ev_iload_n 150 dX8_set_149 rfl rfl ?_
      refine ev_cV1 153 dX8_set_150 mlX8_100 moX8_speak rfl imX8_speak ⟨_, _, rfl, rfl, rfl⟩ (Nat.le_of_ble_eq_true rfl) (Nat.le_of_ble_eq_true rfl) rfl (s_X8_speak (M := mst M 1 (a * 18 + b) v) (n := n) (a := a) (by rw [mst_same]; exact htu) hn ha (hsp.of (mst_other _ _ _ (by decide)) (by rw [mst_other _ _ _ (by decide)])) hnd hsb) ?_
      rintro r M2 ⟨rfl, h2, h3⟩
      have e2 : M2 1 = upd (M 1) (a * 18 + b) v := by rw [h2.1 1 (by decide) (by decide), mst_same]
      refine Ev.mono (s_X8_set_153 (M := M2) (n := n) (t := t) (sp := spkS (upd (M 1) (a * 18 + b) v) sp a) (by rw [e2]; exact htu) hn ht2 (by rw [h2.2 0 (by decide), mst_other _ _ _ (by decide)]; exact hm) (by rw [h2.2 2 (by decide), mst_other _ _ _ (by decide)]; exact hf) (by rw [mst_same] at h3; exact h3)) (fun r M3 z => ?_)
      rw [e2] at z
      rw [chgS, if_pos ⟨c136, Or.inl c140⟩]
      exact z
    · refine ev_iload_n 144 dX8_set_143 rfl rfl ?_
      refine ev_iconst 145 (nI 5) dX8_set_144 (by decide) rfl ?_
      refine ev_icmp_neN 148 153 dX8_set_145 (by decide) rfl (by omega) (by omega) (fun c145 => ?_) (fun c145 => ?_)
      · refine Ev.mono (s_X8_set_153 (M := mst M 1 (a * 18 + b) v) (n := n) (t := t) (sp := sp) (by rw [mst_same]; exact htu) hn ht2 (by rw [mst_other _ _ _ (by decide)]; exact hm) (by rw [mst_other _ _ _ (by decide)]; exact hf) (hsp.of (mst_other _ _ _ (by decide)) (by rw [mst_other _ _ _ (by decide)]))) (fun r M2 z => ?_)
        rw [mst_same] at z
        rw [chgS, if_neg (fun z => by have := z.2; omega)]
        exact z
      · refine ev_aload_n 149 dX8_set_148 rfl rfl ?_
        refine ev_iload_n 150 dX8_set_149 rfl rfl ?_
        refine ev_cV1 153 dX8_set_150 mlX8_100 moX8_speak rfl imX8_speak ⟨_, _, rfl, rfl, rfl⟩ (Nat.le_of_ble_eq_true rfl) (Nat.le_of_ble_eq_true rfl) rfl (s_X8_speak (M := mst M 1 (a * 18 + b) v) (n := n) (a := a) (by rw [mst_same]; exact htu) hn ha (hsp.of (mst_other _ _ _ (by decide)) (by rw [mst_other _ _ _ (by decide)])) hnd hsb) ?_
        rintro r M2 ⟨rfl, h2, h3⟩
        have e2 : M2 1 = upd (M 1) (a * 18 + b) v := by rw [h2.1 1 (by decide) (by decide), mst_same]
        refine Ev.mono (s_X8_set_153 (M := M2) (n := n) (t := t) (sp := spkS (upd (M 1) (a * 18 + b) v) sp a) (by rw [e2]; exact htu) hn ht2 (by rw [h2.2 0 (by decide), mst_other _ _ _ (by decide)]; exact hm) (by rw [h2.2 2 (by decide), mst_other _ _ _ (by decide)]; exact hf) (by rw [mst_same] at h3; exact h3)) (fun r M3 z => ?_)
        rw [e2] at z
        rw [chgS, if_pos ⟨c136, Or.inr (c145)⟩]
        exact z
theorem s_X8_set_73 {M : Mm} {n a : Nat} (hn : n ≤ 24) (hm : M 0 0 = nI n) {y v : Int32} {Q : Pst} (k : Ev MSh mX8_set 108 [.ref 0, .int (nI a), .int y, .int v, .int (nI (fb_ct (opC (M 1) (nI a) n) n)), .int (nI n)] [] M Q) : ∀ d i, 1 ≤ i → i + d = n → Ev MSh mX8_set 73 [.ref 0, .int (nI a), .int y, .int v, .int (nI (fb_ct (opC (M 1) (nI a) n) i)), .int (nI i)] [] M Q
  | 0, i, hi, h => by
    refine ev_iload 75 dX8_set_73 rfl rfl ?_
    refine ev_aload_n 76 dX8_set_75 rfl rfl ?_
    refine ev_getIv 79 (nI n) dX8_set_76 rfl flX8_57 rfl rfl hm ?_
    refine ev_icmp_geN 82 108 dX8_set_79 (by decide) rfl (by omega) (by omega) (fun c79 => ?_) (fun c79 => ?_)
    · have e : i = n := by omega
      rw [e]
      exact k
    · omega
  | d + 1, i, hi, h => by
    refine ev_iload 75 dX8_set_73 rfl rfl ?_
    refine ev_aload_n 76 dX8_set_75 rfl rfl ?_
    refine ev_getIv 79 (nI n) dX8_set_76 rfl flX8_57 rfl rfl hm ?_
    refine ev_icmp_geN 82 108 dX8_set_79 (by decide) rfl (by omega) (by omega) (fun c79 => ?_) (fun c79 => ?_)
    · omega
    · refine ev_iload 84 dX8_set_82 rfl rfl ?_
      refine ev_aload_n 85 dX8_set_84 rfl rfl ?_
      refine ev_iload 87 dX8_set_85 rfl rfl ?_
      refine ev_iload_n 88 dX8_set_87 rfl rfl ?_
      refine ev_cV2I _ M 91 dX8_set_88 mlX8_78 moX8_isOpenedBy rfl imX8_isOpenedBy ⟨_, _, rfl, rfl, rfl⟩ (Nat.le_of_ble_eq_true rfl) (Nat.le_of_ble_eq_true rfl) rfl (s_X8_isOpenedBy hn hm (nI a) i) ?_
      refine ev_if_eqB 94 98 dX8_set_91 (by decide) rfl (fun c91 => ?_) (fun c91 => ?_)
      · refine ev_iconst 99 (nI 0) dX8_set_98 (by decide) rfl ?_
        refine ev_iaddN 100 dX8_set_99 rfl ?_
        refine ev_eqI ((by rw [fb_ct_succ, opC, c91, Bool.and_false]; rfl) : _ = nI (fb_ct (opC (M 1) (nI a) n) (i + 1))) ?_
        refine ev_istore 102 _ dX8_set_100 (by decide) rfl rfl rfl ?_
        refine ev_iincN 105 _ dX8_set_102 rfl (by decide) rfl rfl rfl ?_
        refine ev_goto 73 dX8_set_105 (by decide) ?_
        refine s_X8_set_73 hn hm k d (i + 1) (by omega) (by omega)
      · refine ev_iconst 95 (nI 1) dX8_set_94 (by decide) rfl ?_
        refine ev_goto 99 dX8_set_95 (by decide) ?_
        refine ev_iaddN 100 dX8_set_99 rfl ?_
        refine ev_eqI ((by rw [fb_ct_succ, opC, c91, decide_eq_true hi]; rfl) : _ = nI (fb_ct (opC (M 1) (nI a) n) (i + 1))) ?_
        refine ev_istore 102 _ dX8_set_100 (by decide) rfl rfl rfl ?_
        refine ev_iincN 105 _ dX8_set_102 rfl (by decide) rfl rfl rfl ?_
        refine ev_goto 73 dX8_set_105 (by decide) ?_
        refine s_X8_set_73 hn hm k d (i + 1) (by omega) (by omega)
theorem r_set {M : Mm} {n t : Nat} {sp : List Nat} (g : GS (M 1, n, t, sp)) (hR : RS M (M 1, n, t, sp)) (x w v : Int32) : Ct MSh mX8_set [.ref 0, .int x, .int w, .int v] M (PS (spSet (M 1) n t sp x w v)) := by
  have hn0 : 0 < n := g.1.1.1
  have hn : n ≤ 24 := g.1.1.2
  have ht : TR (M 1) n := g.1.2.1
  have hlab : ∀ a, a < n → labOK (M 1) n a := g.1.2.2.1
  have hpl : ∀ y, y < n → plOK (M 1) y := g.1.2.2.2.1
  have hco : ∀ a, a < n → colOK (M 1) a := g.1.2.2.2.2.1
  have h01 : ∀ x, x < n → h01 (M 1) x := g.1.2.2.2.2.2.1
  have ho : opsOK (M 1) n := g.1.2.2.2.2.2.2.1
  have hz : ∀ j, n * 18 ≤ j → M 1 j = 0 := g.1.2.2.2.2.2.2.2
  have h6 : (dsF (M 1) n n).length ≤ 6 := g.2.1
  have ht2 : t ≤ n := g.2.2.1
  have hfs : ∀ a, t = a + 1 → shwn (M 1) a = true := g.2.2.2.1
  have hnd : sp.Nodup := g.2.2.2.2.1
  have hsb : ∀ y ∈ sp, y < 24 := g.2.2.2.2.2
  have hm : M 0 0 = nI n := hR.2.1
  have hf : M 0 2 = pm t := hR.2.2.1
  have hsp : rowAt M 2 0 3 sp := hR.2.2.2
  show Ev _ _ 0 [.ref 0, .int x, .int w, .int v, .null, .null] [] M _
  refine ev_aload_n 1 dX8_set_0 rfl rfl ?_
  refine ev_iload_n 2 dX8_set_1 rfl rfl ?_
  refine ev_cV1I _ M 5 dX8_set_2 mlX8_68 moX8_isPart rfl imX8_isPart ⟨_, _, rfl, rfl, rfl⟩ (Nat.le_of_ble_eq_true rfl) (Nat.le_of_ble_eq_true rfl) rfl (s_X8_isPart hn0 hn hm x) ?_
  refine ev_if_neB 8 11 dX8_set_5 (by decide) rfl (fun c5 => ?_) (fun c5 => ?_)
  · obtain ⟨a, ha, rfl⟩ := inB_of c5 (by omega)
    refine ev_iload_n 12 dX8_set_11 rfl rfl ?_
    refine ev_i2l 13 dX8_set_12 rfl ?_
    refine ev_lconst 14 (lN 0) dX8_set_13 rfl rfl ?_
    refine ev_ldc2 17 (lN 9) dX8_set_14 kX8_95 rfl ?_
    refine ev_cS3I (bI (inB w 10)) M 20 dX8_set_17 mlX8_64 moX8_in rfl smX8_in (Nat.le_of_ble_eq_true rfl) (Nat.le_of_ble_eq_true rfl) rfl (by have z := s_in (Sh := MSh) (M := M) (w).toInt64 (lN 0) (lN 9); rwa [in_eq w (by omega)] at z) ?_
    refine ev_if_eqB 23 32 dX8_set_20 (by decide) rfl (fun c20 => ?_) (fun c20 => ?_)
    · refine ev_bipush 34 (-102) dX8_set_32 (by decide) rfl ?_
      exact ev_iret dX8_set_34 rfl (ps_of (by rw [spSet, if_neg (by rw [c5]; decide), if_pos (alw_out (by rw [c20]; decide))]) hR)
    · obtain ⟨b, hb, rfl⟩ := inB_of c20 (by omega)
      refine ev_aload_n 24 dX8_set_23 rfl rfl ?_
      refine ev_iload_n 25 dX8_set_24 rfl rfl ?_
      refine ev_iload_n 26 dX8_set_25 rfl rfl ?_
      refine ev_cV2I _ M 29 dX8_set_26 mlX8_97 moX8_isFor rfl imX8_isFor ⟨_, _, rfl, rfl, rfl⟩ (Nat.le_of_ble_eq_true rfl) (Nat.le_of_ble_eq_true rfl) rfl (s_X8_isFor (b := b) hn0 hn hm hb v) ?_
      refine ev_if_neB 32 35 dX8_set_29 (by decide) rfl (fun c29 => ?_) (fun c29 => ?_)
      · have hle : fb_ct (opC (M 1) (nI a) n) n ≤ 6 := by
          have z := h6
          rw [ds_len] at z
          exact Nat.le_trans (fb_ct_sub (fun k hk e => opC_sub hn k e)) z
        have halw := c29
        refine ev_iload_n 36 dX8_set_35 rfl rfl ?_
        refine ev_if_neN 39 47 dX8_set_36 (by decide) rfl (by omega) (fun c36 => ?_) (fun c36 => ?_)
        · refine ev_iload_n 48 dX8_set_47 rfl rfl ?_
          refine ev_bipush 50 (nI 7) dX8_set_48 (by decide) rfl ?_
          refine ev_icmp_neN 53 118 dX8_set_50 (by decide) rfl (by omega) (by omega) (fun c50 => ?_) (fun c50 => ?_)
          · rw [spSet, if_neg (by rw [c5]; decide), if_neg (by rw [halw]; decide), if_neg (fun z => c36 ((nI_z (by omega)).mp z.1)), if_neg (fun z => c50 ((nI_eq (by omega) (by omega)).mp z.1)), nI_clamp (show a < 2 ^ 31 by omega), nI_clamp (show b < 2 ^ 31 by omega)]
            exact s_X8_set_118 g hR ha hb
          · refine ev_iload_n 54 dX8_set_53 rfl rfl ?_
            refine ev_iconst 55 (-1) dX8_set_54 (by decide) rfl ?_
            refine ev_icmp_eq 58 118 dX8_set_55 (by decide) rfl (fun c55 => ?_) (fun c55 => ?_)
            · rw [spSet, if_neg (by rw [c5]; decide), if_neg (by rw [halw]; decide), if_neg (fun z => c36 ((nI_z (by omega)).mp z.1)), if_neg (fun z => by have y := z.2; rw [tooF, decide_eq_false (fun q => q c55)] at y; exact absurd y Bool.false_ne_true), nI_clamp (show a < 2 ^ 31 by omega), nI_clamp (show b < 2 ^ 31 by omega)]
              exact s_X8_set_118 g hR ha hb
            · obtain ⟨c, hc, rfl⟩ : ∃ c, c < n ∧ v = nI c := by
                have q := (alw_ok hn hb halw).2.2.2.2.2.2.2 (c50)
                rcases q with q | ⟨c, _, h2, h3⟩
                · exact absurd q c55
                · exact ⟨c, h2, h3⟩
              refine ev_aload_n 59 dX8_set_58 rfl rfl ?_
              refine ev_iload_n 60 dX8_set_59 rfl rfl ?_
              refine ev_iload_n 61 dX8_set_60 rfl rfl ?_
              refine ev_cV2I _ M 64 dX8_set_61 mlX8_78 moX8_isOpenedBy rfl imX8_isOpenedBy ⟨_, _, rfl, rfl, rfl⟩ (Nat.le_of_ble_eq_true rfl) (Nat.le_of_ble_eq_true rfl) rfl (s_X8_isOpenedBy hn hm (nI a) c) ?_
              refine ev_if_neB 67 118 dX8_set_64 (by decide) rfl (fun c64 => ?_) (fun c64 => ?_)
              · rw [spSet, if_neg (by rw [c5]; decide), if_neg (by rw [halw]; decide), if_neg (fun z => c36 ((nI_z (by omega)).mp z.1)), if_neg (fun z => by have y := z.2; rw [nI_clamp (show a < 2 ^ 31 by omega), tooF, nI_clamp (show c < 2 ^ 31 by omega), c64, Bool.not_true, Bool.false_and, Bool.and_false] at y; exact absurd y Bool.false_ne_true), nI_clamp (show a < 2 ^ 31 by omega), nI_clamp (show b < 2 ^ 31 by omega)]
                exact s_X8_set_118 g hR ha hb
              · refine ev_iconst 68 (nI 0) dX8_set_67 (by decide) rfl ?_
                refine ev_istore 70 _ dX8_set_68 (by decide) rfl rfl rfl ?_
                refine ev_iconst 71 (nI 1) dX8_set_70 (by decide) rfl ?_
                refine ev_istore 73 _ dX8_set_71 (by decide) rfl rfl rfl ?_
                refine s_X8_set_73 hn hm ?_ (n - 1) 1 (by omega) (by omega)
                refine ev_iload 110 dX8_set_108 rfl rfl ?_
                refine ev_bipush 112 (nI 6) dX8_set_110 (by decide) rfl ?_
                refine ev_icmp_neN 115 118 dX8_set_112 (by decide) rfl (by have := fb_ct_le (opC (M 1) (nI a) n) n; omega) (by omega) (fun c112 => ?_) (fun c112 => ?_)
                · rw [spSet, if_neg (by rw [c5]; decide), if_neg (by rw [halw]; decide), if_neg (fun z => c36 ((nI_z (by omega)).mp z.1)), if_neg (fun z => by have y := z.2; rw [nI_clamp (show a < 2 ^ 31 by omega), tooF, nI_clamp (show c < 2 ^ 31 by omega), c64, decide_eq_false (show ¬ 6 ≤ fb_ct (opC (M 1) (nI a) n) n by omega), Bool.and_false, Bool.and_false] at y; exact absurd y Bool.false_ne_true), nI_clamp (show a < 2 ^ 31 by omega), nI_clamp (show b < 2 ^ 31 by omega)]
                  exact s_X8_set_118 g hR ha hb
                · refine ev_bipush 117 (-104) dX8_set_115 (by decide) rfl ?_
                  exact ev_iret dX8_set_117 rfl (ps_of (by rw [spSet, if_neg (by rw [c5]; decide), if_neg (by rw [halw]; decide), if_neg (fun z => c36 ((nI_z (by omega)).mp z.1)), if_pos ⟨by rw [c50], by rw [nI_clamp (show a < 2 ^ 31 by omega), tooF, nI_clamp (show c < 2 ^ 31 by omega), c64, decide_eq_true (nI_m1 (show c < 2 ^ 31 by omega)), decide_eq_true (show 6 ≤ fb_ct (opC (M 1) (nI a) n) n by omega)]; rfl⟩]) hR)
        · refine ev_iload_n 40 dX8_set_39 rfl rfl ?_
          refine ev_iconst 41 (nI 5) dX8_set_40 (by decide) rfl ?_
          refine ev_icmp_neN 44 47 dX8_set_41 (by decide) rfl (by omega) (by omega) (fun c41 => ?_) (fun c41 => ?_)
          · refine ev_iload_n 48 dX8_set_47 rfl rfl ?_
            refine ev_bipush 50 (nI 7) dX8_set_48 (by decide) rfl ?_
            refine ev_icmp_neN 53 118 dX8_set_50 (by decide) rfl (by omega) (by omega) (fun c50 => ?_) (fun c50 => ?_)
            · rw [spSet, if_neg (by rw [c5]; decide), if_neg (by rw [halw]; decide), if_neg (fun z => c41 ((nI_eq (by omega) (by omega)).mp z.2)), if_neg (fun z => c50 ((nI_eq (by omega) (by omega)).mp z.1)), nI_clamp (show a < 2 ^ 31 by omega), nI_clamp (show b < 2 ^ 31 by omega)]
              exact s_X8_set_118 g hR ha hb
            · refine ev_iload_n 54 dX8_set_53 rfl rfl ?_
              refine ev_iconst 55 (-1) dX8_set_54 (by decide) rfl ?_
              refine ev_icmp_eq 58 118 dX8_set_55 (by decide) rfl (fun c55 => ?_) (fun c55 => ?_)
              · rw [spSet, if_neg (by rw [c5]; decide), if_neg (by rw [halw]; decide), if_neg (fun z => c41 ((nI_eq (by omega) (by omega)).mp z.2)), if_neg (fun z => by have y := z.2; rw [tooF, decide_eq_false (fun q => q c55)] at y; exact absurd y Bool.false_ne_true), nI_clamp (show a < 2 ^ 31 by omega), nI_clamp (show b < 2 ^ 31 by omega)]
                exact s_X8_set_118 g hR ha hb
              · obtain ⟨c, hc, rfl⟩ : ∃ c, c < n ∧ v = nI c := by
                  have q := (alw_ok hn hb halw).2.2.2.2.2.2.2 (c50)
                  rcases q with q | ⟨c, _, h2, h3⟩
                  · exact absurd q c55
                  · exact ⟨c, h2, h3⟩
                refine ev_aload_n 59 dX8_set_58 rfl rfl ?_
                refine ev_iload_n 60 dX8_set_59 rfl rfl ?_
                refine ev_iload_n 61 dX8_set_60 rfl rfl ?_
                refine ev_cV2I _ M 64 dX8_set_61 mlX8_78 moX8_isOpenedBy rfl imX8_isOpenedBy ⟨_, _, rfl, rfl, rfl⟩ (Nat.le_of_ble_eq_true rfl) (Nat.le_of_ble_eq_true rfl) rfl (s_X8_isOpenedBy hn hm (nI a) c) ?_
                refine ev_if_neB 67 118 dX8_set_64 (by decide) rfl (fun c64 => ?_) (fun c64 => ?_)
                · rw [spSet, if_neg (by rw [c5]; decide), if_neg (by rw [halw]; decide), if_neg (fun z => c41 ((nI_eq (by omega) (by omega)).mp z.2)), if_neg (fun z => by have y := z.2; rw [nI_clamp (show a < 2 ^ 31 by omega), tooF, nI_clamp (show c < 2 ^ 31 by omega), c64, Bool.not_true, Bool.false_and, Bool.and_false] at y; exact absurd y Bool.false_ne_true), nI_clamp (show a < 2 ^ 31 by omega), nI_clamp (show b < 2 ^ 31 by omega)]
                  exact s_X8_set_118 g hR ha hb
                · refine ev_iconst 68 (nI 0) dX8_set_67 (by decide) rfl ?_
                  refine ev_istore 70 _ dX8_set_68 (by decide) rfl rfl rfl ?_
                  refine ev_iconst 71 (nI 1) dX8_set_70 (by decide) rfl ?_
                  refine ev_istore 73 _ dX8_set_71 (by decide) rfl rfl rfl ?_
                  refine s_X8_set_73 hn hm ?_ (n - 1) 1 (by omega) (by omega)
                  refine ev_iload 110 dX8_set_108 rfl rfl ?_
                  refine ev_bipush 112 (nI 6) dX8_set_110 (by decide) rfl ?_
                  refine ev_icmp_neN 115 118 dX8_set_112 (by decide) rfl (by have := fb_ct_le (opC (M 1) (nI a) n) n; omega) (by omega) (fun c112 => ?_) (fun c112 => ?_)
                  · rw [spSet, if_neg (by rw [c5]; decide), if_neg (by rw [halw]; decide), if_neg (fun z => c41 ((nI_eq (by omega) (by omega)).mp z.2)), if_neg (fun z => by have y := z.2; rw [nI_clamp (show a < 2 ^ 31 by omega), tooF, nI_clamp (show c < 2 ^ 31 by omega), c64, decide_eq_false (show ¬ 6 ≤ fb_ct (opC (M 1) (nI a) n) n by omega), Bool.and_false, Bool.and_false] at y; exact absurd y Bool.false_ne_true), nI_clamp (show a < 2 ^ 31 by omega), nI_clamp (show b < 2 ^ 31 by omega)]
                    exact s_X8_set_118 g hR ha hb
                  · refine ev_bipush 117 (-104) dX8_set_115 (by decide) rfl ?_
                    exact ev_iret dX8_set_117 rfl (ps_of (by rw [spSet, if_neg (by rw [c5]; decide), if_neg (by rw [halw]; decide), if_neg (fun z => c41 ((nI_eq (by omega) (by omega)).mp z.2)), if_pos ⟨by rw [c50], by rw [nI_clamp (show a < 2 ^ 31 by omega), tooF, nI_clamp (show c < 2 ^ 31 by omega), c64, decide_eq_true (nI_m1 (show c < 2 ^ 31 by omega)), decide_eq_true (show 6 ≤ fb_ct (opC (M 1) (nI a) n) n by omega)]; rfl⟩]) hR)
          · refine ev_bipush 46 (-103) dX8_set_44 (by decide) rfl ?_
            exact ev_iret dX8_set_46 rfl (ps_of (by rw [spSet, if_neg (by rw [c5]; decide), if_neg (by rw [halw]; decide), if_pos ⟨by rw [(show a = 0 by omega)]; rfl, by rw [c41]⟩]) hR)
      · refine ev_bipush 34 (-102) dX8_set_32 (by decide) rfl ?_
        exact ev_iret dX8_set_34 rfl (ps_of (by rw [spSet, if_neg (by rw [c5]; decide), if_pos c29]) hR)
  · refine ev_bipush 10 (-101) dX8_set_8 (by decide) rfl ?_
    exact ev_iret dX8_set_10 rfl (ps_of (by rw [spSet, if_pos c5]) hR)
end
