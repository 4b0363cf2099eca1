section
/-! the class's calls (III): mend, digest, walk, key, keeper -/
theorem xs_mend {M : Mm} {h : Nat → Int32} {n t L p s : Nat} {sp : List Nat} (hx : XS M (h, n, t, sp) L) : XS (mndF M p s) (mndH h p s, n, t, sp) L := by
  have e1 : M 1 = h := hx.1
  unfold mndF mndH
  split
  · exact xs_upd (xs_upd (xs_upd hx _ (by omega) (by omega) (by omega) (by omega)) _ (by omega) (by omega) (by omega) (by omega)) _ (by omega) (by omega) (by omega) (by omega)
  · split
    · rw [e1]
      exact xs_upd hx _ (by omega) (by omega) (by omega) (by omega)
    · split
      · exact xs_upd hx _ (by omega) (by omega) (by omega) (by omega)
      · exact hx
theorem x_gather2 {M : Mm} {n t L : Nat} {sp : List Nat} (g : GS (M 1, n, t, sp)) (hx : XS M (M 1, n, t, sp) L) : Ct XSh mX0_gather [.ref 19] M (fun r M2 => r = none ∧ wAt M2 (wrS (M 1) n) ∧ XS M2 (M 1, n, t, sp) L) := by
  have hn0 : 0 < n := g.1.1.1
  have hn : n ≤ 24 := g.1.1.2
  have ht : TR (M 1) n := g.1.2.1
  have hlab : ∀ a, a < n → labOK (M 1) n a := g.1.2.2.1
  have hpl : ∀ y, y < n → plOK (M 1) y := g.1.2.2.2.1
  have hco : ∀ a, a < n → colOK (M 1) a := g.1.2.2.2.2.1
  have h01 : ∀ x, x < n → h01 (M 1) x := g.1.2.2.2.2.2.1
  have ho : opsOK (M 1) n := g.1.2.2.2.2.2.2.1
  have hz : ∀ j, n * 18 ≤ j → M 1 j = 0 := g.1.2.2.2.2.2.2.2
  have h6 : (dsF (M 1) n n).length ≤ 6 := g.2.1
  have ht2 : t ≤ n := g.2.2.1
  have hfs : ∀ a, t = a + 1 → shwn (M 1) a = true := g.2.2.2.1
  have hnd : sp.Nodup := g.2.2.2.2.1
  have hsb : ∀ y ∈ sp, y < 24 := g.2.2.2.2.2
  have hsz : M 0 5 = nI n := hx.2.1
  have hor : rowAt M 5 0 5 (ordF (M 1) n) := hx.2.2.1
  have mk : MK M (M 1) n := hx.2.2.2.1
  have hst : rowAt M 12 11 2 (arrF (M 1) (ordF (M 1) n)) := hx.2.2.2.2.1
  have hsp : rowAt M 23 22 1 sp := hx.2.2.2.2.2.1
  have hf : M 24 7 = pm t := hx.2.2.2.2.2.2.1
  have hlk : lk0 M L := hx.2.2.2.2.2.2.2
  obtain ⟨o1, o2, o3⟩ := ord_facts n hn0 (by omega) ht
  have ob : ∀ x ∈ ordF (M 1) n, x < 24 := fun x hx => by have := o3 x hx; omega
  have ob2 : ∀ x ∈ ordF (M 1) n, x < (ordF (M 1) n).length := fun x hx => by rw [o1]; exact o3 x hx
  have ab : ∀ x ∈ arrF (M 1) (ordF (M 1) n), x < 24 := fun x hx => ob x (arrF_mem.mp hx).1
  have sb : shB (shN M n) (M 1) n := shB_now mk hn
  refine Ev.mono (s_X0_gather (M := M) hor ob2 (by rw [o1]; exact hco)) (fun r M2 z => ?_)
  obtain ⟨e, h2, h3⟩ := z
  rw [wr_eq mk ht hn0 hn hor ho hlab] at h3
  exact ⟨e, h3, xs_fr hx h2⟩
theorem x_mend {M : Mm} {n t L : Nat} {sp : List Nat} (g : GS (M 1, n, t, sp)) (hx : XS M (M 1, n, t, sp) L) (k : Int32) : Ct XSh mX7_mend [.ref 24, .int k] M (XP (spMend (M 1) n t sp k) L) := by
  have hn0 : 0 < n := g.1.1.1
  have hn : n ≤ 24 := g.1.1.2
  have ht : TR (M 1) n := g.1.2.1
  have hlab : ∀ a, a < n → labOK (M 1) n a := g.1.2.2.1
  have hpl : ∀ y, y < n → plOK (M 1) y := g.1.2.2.2.1
  have hco : ∀ a, a < n → colOK (M 1) a := g.1.2.2.2.2.1
  have h01 : ∀ x, x < n → h01 (M 1) x := g.1.2.2.2.2.2.1
  have ho : opsOK (M 1) n := g.1.2.2.2.2.2.2.1
  have hz : ∀ j, n * 18 ≤ j → M 1 j = 0 := g.1.2.2.2.2.2.2.2
  have h6 : (dsF (M 1) n n).length ≤ 6 := g.2.1
  have ht2 : t ≤ n := g.2.2.1
  have hfs : ∀ a, t = a + 1 → shwn (M 1) a = true := g.2.2.2.1
  have hnd : sp.Nodup := g.2.2.2.2.1
  have hsb : ∀ y ∈ sp, y < 24 := g.2.2.2.2.2
  have hsz : M 0 5 = nI n := hx.2.1
  have hor : rowAt M 5 0 5 (ordF (M 1) n) := hx.2.2.1
  have mk : MK M (M 1) n := hx.2.2.2.1
  have hst : rowAt M 12 11 2 (arrF (M 1) (ordF (M 1) n)) := hx.2.2.2.2.1
  have hsp : rowAt M 23 22 1 sp := hx.2.2.2.2.2.1
  have hf : M 24 7 = pm t := hx.2.2.2.2.2.2.1
  have hlk : lk0 M L := hx.2.2.2.2.2.2.2
  obtain ⟨o1, o2, o3⟩ := ord_facts n hn0 (by omega) ht
  have ob : ∀ x ∈ ordF (M 1) n, x < 24 := fun x hx => by have := o3 x hx; omega
  have ob2 : ∀ x ∈ ordF (M 1) n, x < (ordF (M 1) n).length := fun x hx => by rw [o1]; exact o3 x hx
  have ab : ∀ x ∈ arrF (M 1) (ordF (M 1) n), x < 24 := fun x hx => ob x (arrF_mem.mp hx).1
  have sb : shB (shN M n) (M 1) n := shB_now mk hn
  show Ev _ _ 0 [.ref 24, .int k, .null, .null] [] M _
  refine ev_aload_n 1 dX7_mend_0 rfl rfl ?_
  refine ev_getR 4 dX7_mend_1 rfl flX7_53 rfl rfl ?_
  refine ev_cV0 7 dX7_mend_4 mlX7_164 moX0_gather rfl imX0_gather ⟨_, _, rfl, rfl, rfl⟩ (Nat.le_of_ble_eq_true rfl) (Nat.le_of_ble_eq_true rfl) rfl (x_gather2 g hx) ?_
  rintro r M2 ⟨rfl, h3, hx2⟩
  have hle := h3.2.1
  refine ev_aload_n 8 dX7_mend_7 rfl rfl ?_
  refine ev_getR 11 dX7_mend_8 rfl flX7_53 rfl rfl ?_
  refine ev_iload_n 12 dX7_mend_11 rfl rfl ?_
  refine ev_cV1I _ M2 15 dX7_mend_12 mlX7_169 moX0_partAt rfl imX0_partAt ⟨_, _, rfl, rfl, rfl⟩ (Nat.le_of_ble_eq_true rfl) (Nat.le_of_ble_eq_true rfl) rfl (s_X0_partAt k h3) ?_
  refine ev_istore_n 16 _ dX7_mend_15 (by decide) rfl rfl rfl ?_
  refine ev_aload_n 17 dX7_mend_16 rfl rfl ?_
  refine ev_getR 20 dX7_mend_17 rfl flX7_53 rfl rfl ?_
  refine ev_iload_n 21 dX7_mend_20 rfl rfl ?_
  refine ev_cV1I _ M2 24 dX7_mend_21 mlX7_172 moX0_sortAt rfl imX0_sortAt ⟨_, _, rfl, rfl, rfl⟩ (Nat.le_of_ble_eq_true rfl) (Nat.le_of_ble_eq_true rfl) rfl (s_X0_sortAt k h3) ?_
  refine ev_istore_n 25 _ dX7_mend_24 (by decide) rfl rfl rfl ?_
  refine ev_iload_n 26 dX7_mend_25 rfl rfl ?_
  refine ev_iconst 27 (-1) dX7_mend_26 (by decide) rfl ?_
  refine ev_icmp_ne 30 33 dX7_mend_27 (by decide) rfl (fun c27 => ?_) (fun c27 => ?_)
  · obtain ⟨j, hj, rfl, hin⟩ : ∃ j, j < (wrS (M 1) n).length ∧ k = nI j ∧ inB k (wrS (M 1) n).length = true := by
      by_cases q : inB k (wrS (M 1) n).length = true
      · obtain ⟨j, hj, e⟩ := inB_of q (by omega)
        exact ⟨j, hj, e, q⟩
      · exact absurd (by rw [w1F, if_neg q]) c27
    obtain ⟨hp9, hs9⟩ := wrS_in hj
    have e1 : M2 1 = M 1 := hx2.1
    have hjc : (nI j).toNatClampNeg = j := nI_clamp (by omega)
    generalize hp1 : pr1 (wrS (M 1) n) j = p at hp9
    generalize hs2 : pr2 (wrS (M 1) n) j = s at hs9
    have ew1 : w1F (wrS (M 1) n) (nI j) = nI p := by rw [w1F, if_pos hin, hjc, hp1]
    have ew2 : w2F (wrS (M 1) n) (nI j) = nI s := by rw [w2F, if_pos hin, hjc, hs2]
    obtain ⟨vg, hvg, hvg2⟩ := (hco p hp9).2
    rw [ew1, ew2]
    show Ev _ _ _ [.ref 24, .int (nI j), .int (nI p), .int (nI s)] _ _ _
    refine ev_iload_n 34 dX7_mend_33 rfl rfl ?_
    refine ev_iconst 35 (nI 3) dX7_mend_34 (by decide) rfl ?_
    refine ev_icmp_eq 38 43 dX7_mend_35 (by decide) rfl (fun c35 => ?_) (fun c35 => ?_)
    · refine ev_bipush 45 (-103) dX7_mend_43 (by decide) rfl ?_
      exact ev_iret dX7_mend_45 rfl (xp_sm (by rw [spMend, if_neg (by rw [hin]; decide), hjc, hs2, if_pos (Or.inl ((nI_eq (by omega) (by omega)).mp c35))]) hx2)
    · refine ev_iload_n 39 dX7_mend_38 rfl rfl ?_
      refine ev_iconst 40 (nI 4) dX7_mend_39 (by decide) rfl ?_
      refine ev_icmp_ne 43 46 dX7_mend_40 (by decide) rfl (fun c40 => ?_) (fun c40 => ?_)
      · have e9 : mndF M2 p s 1 = mndH (M 1) p s := (xs_mend hx2).1
        have hx9 : XS (mndF M2 p s) (mndF M2 p s 1, n, t, sp) L := by rw [e9]; exact xs_mend hx2
        have g9 : GS (mndF M2 p s 1, n, t, sp) := by rw [e9]; exact gs_mend g hp9
        refine ev_aload_n 47 dX7_mend_46 rfl rfl ?_
        refine ev_getR 50 dX7_mend_47 rfl flX7_53 rfl rfl ?_
        refine ev_iload_n 51 dX7_mend_50 rfl rfl ?_
        refine ev_iload_n 52 dX7_mend_51 rfl rfl ?_
        refine ev_cV2V (mndF M2 p s) 55 dX7_mend_52 mlX7_175 moX0_mendAt rfl imX0_mendAt ⟨_, _, rfl, rfl, rfl⟩ (Nat.le_of_ble_eq_true rfl) (Nat.le_of_ble_eq_true rfl) rfl (s_X0_mendAt (M := M2) (by omega) hs9 hvg (by rw [e1]; exact hvg2)) ?_
        refine ev_aload_n 56 dX7_mend_55 rfl rfl ?_
        refine ev_getR 59 dX7_mend_56 rfl flX7_53 rfl rfl ?_
        refine ev_cV0 62 dX7_mend_59 mlX7_164 moX0_gather rfl imX0_gather ⟨_, _, rfl, rfl, rfl⟩ (Nat.le_of_ble_eq_true rfl) (Nat.le_of_ble_eq_true rfl) rfl (x_gather2 (M := mndF M2 p s) (n := n) (t := t) (sp := sp) (L := L) g9 hx9) ?_
        rintro r M4 ⟨rfl, h5, hx5⟩
        rw [e9] at h5 hx5
        refine ev_aload_n 63 dX7_mend_62 rfl rfl ?_
        refine ev_getR 66 dX7_mend_63 rfl flX7_53 rfl rfl ?_
        refine ev_getIv 69 (nI (wrS (mndH (M 1) p s) n).length) dX7_mend_66 rfl flX7_166 rfl rfl h5.1 ?_
        exact ev_iret dX7_mend_69 rfl (xp_sm (by rw [spMend, if_neg (by rw [hin]; decide), hjc, hs2, if_neg (fun z => by rcases z with z | z; exact c35 (by rw [z]); exact c40 (by rw [z])), hp1]) hx5)
      · refine ev_bipush 45 (-103) dX7_mend_43 (by decide) rfl ?_
        exact ev_iret dX7_mend_45 rfl (xp_sm (by rw [spMend, if_neg (by rw [hin]; decide), hjc, hs2, if_pos (Or.inr ((nI_eq (by omega) (by omega)).mp c40))]) hx2)
  · refine ev_bipush 32 (-101) dX7_mend_30 (by decide) rfl ?_
    exact ev_iret dX7_mend_32 rfl (xp_sm (by rw [spMend, if_pos (Bool.eq_false_iff.mpr (fun q => by obtain ⟨j, hj, rfl⟩ := inB_of q (by omega); rw [w1F, if_pos q, nI_clamp (by omega)] at c27; exact nI_m1 (by have := (wrS_in hj).1; omega) c27))]) hx2)
def XL (v : Int64) (s : St) (L : Nat) : Pst := fun r M => r = some (.long v) ∧ ∃ L2, L2 ≤ L + 1 ∧ XS M s L2
theorem s_X7_digest_20 {M : Mm} {p : Nat} {z : Int64} (hp : p < 24) {Q : Pst} (k : Ev XSh mX7_digest 51 [.ref 24, .long (dgI (M 1) p z 18), .null, .int (nI p), .int (nI 18)] [] M Q) : ∀ d i, i + d = 18 → Ev XSh mX7_digest 20 [.ref 24, .long (dgI (M 1) p z i), .null, .int (nI p), .int (nI i)] [] M Q
  | 0, i, h => by
    refine ev_iload 22 dX7_digest_20 rfl rfl ?_
    refine ev_bipush 24 (nI 18) dX7_digest_22 (by decide) rfl ?_
    refine ev_icmp_geN 27 51 dX7_digest_24 (by decide) rfl (by omega) (by omega) (fun c24 => ?_) (fun c24 => ?_)
    · rw [show i = 18 by omega]
      exact k
    · omega
  | d + 1, i, h => by
    refine ev_iload 22 dX7_digest_20 rfl rfl ?_
    refine ev_bipush 24 (nI 18) dX7_digest_22 (by decide) rfl ?_
    refine ev_icmp_geN 27 51 dX7_digest_24 (by decide) rfl (by omega) (by omega) (fun c24 => ?_) (fun c24 => ?_)
    · omega
    · refine ev_ldc2 30 (lN 31) dX7_digest_27 kX7_194 rfl ?_
      refine ev_lload_n 31 dX7_digest_30 rfl rfl ?_
      refine ev_lmul 32 dX7_digest_31 rfl ?_
      refine ev_aload_n 33 dX7_digest_32 rfl rfl ?_
      refine ev_getR 36 dX7_digest_33 rfl flX7_10 rfl rfl ?_
      refine ev_iload_n 37 dX7_digest_36 rfl rfl ?_
      refine ev_iload 39 dX7_digest_37 rfl rfl ?_
      refine ev_cV2I (M 1 (p * 18 + i)) M 42 dX7_digest_39 mlX7_101 moX2_get rfl imX2_get ⟨_, _, rfl, rfl, rfl⟩ (Nat.le_of_ble_eq_true rfl) (Nat.le_of_ble_eq_true rfl) rfl (s_X2_get (a := p) (b := i) (by omega) (by omega)) ?_
      refine ev_i2l 43 dX7_digest_42 rfl ?_
      refine ev_ladd 44 dX7_digest_43 rfl ?_
      refine ev_lstore_n 45 _ dX7_digest_44 (by decide) rfl rfl rfl ?_
      refine ev_iincN 48 _ dX7_digest_45 rfl (by decide) rfl rfl rfl ?_
      refine ev_goto 20 dX7_digest_48 (by decide) ?_
      exact s_X7_digest_20 hp k d (i + 1) (by omega)
theorem s_X7_digest_6 {M : Mm} {n : Nat} (hn : n ≤ 24) (hm : M 0 5 = nI n) {Q : Pst} (k : ∀ u : Value, Ev XSh mX7_digest 57 [.ref 24, .long (dgO (M 1) n), .null, .int (nI n), u] [] M Q) : ∀ d i (u : Value), i + d = n → Ev XSh mX7_digest 6 [.ref 24, .long (dgO (M 1) i), .null, .int (nI i), u] [] M Q
  | 0, i, u, h => by
    refine ev_iload_n 7 dX7_digest_6 rfl rfl ?_
    refine ev_aload_n 8 dX7_digest_7 rfl rfl ?_
    refine ev_getR 11 dX7_digest_8 rfl flX7_10 rfl rfl ?_
    refine ev_getIv 14 (nI n) dX7_digest_11 rfl flX7_178 rfl rfl hm ?_
    refine ev_icmp_geN 17 57 dX7_digest_14 (by decide) rfl (by omega) (by omega) (fun c14 => ?_) (fun c14 => ?_)
    · rw [show i = n by omega]
      exact k _
    · omega
  | d + 1, i, u, h => by
    refine ev_iload_n 7 dX7_digest_6 rfl rfl ?_
    refine ev_aload_n 8 dX7_digest_7 rfl rfl ?_
    refine ev_getR 11 dX7_digest_8 rfl flX7_10 rfl rfl ?_
    refine ev_getIv 14 (nI n) dX7_digest_11 rfl flX7_178 rfl rfl hm ?_
    refine ev_icmp_geN 17 57 dX7_digest_14 (by decide) rfl (by omega) (by omega) (fun c14 => ?_) (fun c14 => ?_)
    · omega
    · refine ev_iconst 18 (nI 0) dX7_digest_17 (by decide) rfl ?_
      refine ev_istore 20 _ dX7_digest_18 (by decide) rfl rfl rfl ?_
      refine s_X7_digest_20 (p := i) (by omega) ?_ 18 0 (by omega)
      refine ev_iincN 54 _ dX7_digest_51 rfl (by decide) rfl rfl rfl ?_
      refine ev_goto 6 dX7_digest_54 (by decide) ?_
      exact s_X7_digest_6 hn hm k d (i + 1) _ (by omega)
theorem s_X7_digest_71 {M : Mm} {sp : List Nat} (hsp : rowAt M 23 22 1 sp) {z : Int64} (u : Value) {Q : Pst} (k : Ev XSh mX7_digest 105 [.ref 24, .long (dgS sp z sp.length), .null, .int (nI sp.length), u] [] M Q) : ∀ d i, i + d = sp.length → Ev XSh mX7_digest 71 [.ref 24, .long (dgS sp z i), .null, .int (nI i), u] [] M Q
  | 0, i, h => by
    have hle := hsp.2.1
    refine ev_iload_n 72 dX7_digest_71 rfl rfl ?_
    refine ev_aload_n 73 dX7_digest_72 rfl rfl ?_
    refine ev_getR 76 dX7_digest_73 rfl flX7_60 rfl rfl ?_
    refine ev_getIv 79 (nI sp.length) dX7_digest_76 rfl flX7_188 rfl rfl hsp.1 ?_
    refine ev_icmp_geN 82 105 dX7_digest_79 (by decide) rfl (by omega) (by omega) (fun c79 => ?_) (fun c79 => ?_)
    · rw [show i = sp.length by omega]
      exact k
    · omega
  | d + 1, i, h => by
    have hle := hsp.2.1
    refine ev_iload_n 72 dX7_digest_71 rfl rfl ?_
    refine ev_aload_n 73 dX7_digest_72 rfl rfl ?_
    refine ev_getR 76 dX7_digest_73 rfl flX7_60 rfl rfl ?_
    refine ev_getIv 79 (nI sp.length) dX7_digest_76 rfl flX7_188 rfl rfl hsp.1 ?_
    refine ev_icmp_geN 82 105 dX7_digest_79 (by decide) rfl (by omega) (by omega) (fun c79 => ?_) (fun c79 => ?_)
    · omega
    · refine ev_ldc2 85 (lN 31) dX7_digest_82 kX7_194 rfl ?_
      refine ev_lload_n 86 dX7_digest_85 rfl rfl ?_
      refine ev_lmul 87 dX7_digest_86 rfl ?_
      refine ev_aload_n 88 dX7_digest_87 rfl rfl ?_
      refine ev_getR 91 dX7_digest_88 rfl flX7_60 rfl rfl ?_
      refine ev_getR 94 dX7_digest_91 rfl flX7_196 rfl rfl ?_
      refine ev_iload_n 95 dX7_digest_94 rfl rfl ?_
      refine ev_iaN 96 (nI (nth sp i)) dX7_digest_95 rfl (by omega) (by decide) rfl (hsp.2.2 i (by omega)) ?_
      refine ev_i2l 97 dX7_digest_96 rfl ?_
      refine ev_ladd 98 dX7_digest_97 rfl ?_
      refine ev_lstore_n 99 _ dX7_digest_98 (by decide) rfl rfl rfl ?_
      refine ev_iincN 102 _ dX7_digest_99 rfl (by decide) rfl rfl rfl ?_
      refine ev_goto 71 dX7_digest_102 (by decide) ?_
      exact s_X7_digest_71 hsp u k d (i + 1) (by omega)
theorem x_digest {M : Mm} {n t L : Nat} {sp : List Nat} (g : GS (M 1, n, t, sp)) (hx : XS M (M 1, n, t, sp) L) : Ct XSh mX7_digest [.ref 24] M (XL (spDig (M 1) n t sp) (M 1, n, t, sp) L) := by
  have hn0 : 0 < n := g.1.1.1
  have hn : n ≤ 24 := g.1.1.2
  have ht : TR (M 1) n := g.1.2.1
  have hlab : ∀ a, a < n → labOK (M 1) n a := g.1.2.2.1
  have hpl : ∀ y, y < n → plOK (M 1) y := g.1.2.2.2.1
  have hco : ∀ a, a < n → colOK (M 1) a := g.1.2.2.2.2.1
  have h01 : ∀ x, x < n → h01 (M 1) x := g.1.2.2.2.2.2.1
  have ho : opsOK (M 1) n := g.1.2.2.2.2.2.2.1
  have hz : ∀ j, n * 18 ≤ j → M 1 j = 0 := g.1.2.2.2.2.2.2.2
  have h6 : (dsF (M 1) n n).length ≤ 6 := g.2.1
  have ht2 : t ≤ n := g.2.2.1
  have hfs : ∀ a, t = a + 1 → shwn (M 1) a = true := g.2.2.2.1
  have hnd : sp.Nodup := g.2.2.2.2.1
  have hsb : ∀ y ∈ sp, y < 24 := g.2.2.2.2.2
  have hsz : M 0 5 = nI n := hx.2.1
  have hor : rowAt M 5 0 5 (ordF (M 1) n) := hx.2.2.1
  have mk : MK M (M 1) n := hx.2.2.2.1
  have hst : rowAt M 12 11 2 (arrF (M 1) (ordF (M 1) n)) := hx.2.2.2.2.1
  have hsp : rowAt M 23 22 1 sp := hx.2.2.2.2.2.1
  have hf : M 24 7 = pm t := hx.2.2.2.2.2.2.1
  have hlk : lk0 M L := hx.2.2.2.2.2.2.2
  obtain ⟨o1, o2, o3⟩ := ord_facts n hn0 (by omega) ht
  have ob : ∀ x ∈ ordF (M 1) n, x < 24 := fun x hx => by have := o3 x hx; omega
  have ob2 : ∀ x ∈ ordF (M 1) n, x < (ordF (M 1) n).length := fun x hx => by rw [o1]; exact o3 x hx
  have ab : ∀ x ∈ arrF (M 1) (ordF (M 1) n), x < 24 := fun x hx => ob x (arrF_mem.mp hx).1
  have sb : shB (shN M n) (M 1) n := shB_now mk hn
  show Ev _ _ 0 [.ref 24, .null, .null, .null, .null] [] M _
  refine ev_ldc2 3 (lN 107) dX7_digest_0 kX7_192 rfl ?_
  refine ev_lstore_n 4 _ dX7_digest_3 (by decide) rfl rfl rfl ?_
  refine ev_iconst 5 (nI 0) dX7_digest_4 (by decide) rfl ?_
  refine ev_istore_n 6 _ dX7_digest_5 (by decide) rfl rfl rfl ?_
  refine s_X7_digest_6 hn hsz (fun u => ?_) n 0 _ (by omega)
  refine ev_ldc2 60 (lN 31) dX7_digest_57 kX7_194 rfl ?_
  refine ev_lload_n 61 dX7_digest_60 rfl rfl ?_
  refine ev_lmul 62 dX7_digest_61 rfl ?_
  refine ev_aload_n 63 dX7_digest_62 rfl rfl ?_
  refine ev_getIv 66 (pm t) dX7_digest_63 rfl flX7_64 rfl rfl hf ?_
  refine ev_i2l 67 dX7_digest_66 rfl ?_
  refine ev_ladd 68 dX7_digest_67 rfl ?_
  refine ev_lstore_n 69 _ dX7_digest_68 (by decide) rfl rfl rfl ?_
  refine ev_iconst 70 (nI 0) dX7_digest_69 (by decide) rfl ?_
  refine ev_istore_n 71 _ dX7_digest_70 (by decide) rfl rfl rfl ?_
  refine s_X7_digest_71 hsp u ?_ sp.length 0 (by omega)
  refine ev_aload_n 106 dX7_digest_105 rfl rfl ?_
  refine ev_getR 109 dX7_digest_106 rfl flX7_53 rfl rfl ?_
  refine ev_cV0 112 dX7_digest_109 mlX7_164 moX0_gather rfl imX0_gather ⟨_, _, rfl, rfl, rfl⟩ (Nat.le_of_ble_eq_true rfl) (Nat.le_of_ble_eq_true rfl) rfl (x_gather2 g hx) ?_
  rintro r M2 ⟨rfl, h3, hx2⟩
  refine ev_ldc2 115 (lN 31) dX7_digest_112 kX7_194 rfl ?_
  refine ev_lload_n 116 dX7_digest_115 rfl rfl ?_
  refine ev_lmul 117 dX7_digest_116 rfl ?_
  refine ev_aload_n 118 dX7_digest_117 rfl rfl ?_
  refine ev_getR 121 dX7_digest_118 rfl flX7_53 rfl rfl ?_
  refine ev_getIv 124 (nI (wrS (M 1) n).length) dX7_digest_121 rfl flX7_166 rfl rfl h3.1 ?_
  refine ev_i2l 125 dX7_digest_124 rfl ?_
  refine ev_ladd 126 dX7_digest_125 rfl ?_
  exact ev_lret dX7_digest_126 rfl (⟨rfl, L, Nat.le_succ _, hx2⟩)
theorem fnd_eq {M : Mm} {n t : Nat} (mk : MK M (M 1) n) (ht : TR (M 1) n) (hn0 : 0 < n) (hn : n ≤ 24) (ho : opsOK (M 1) n) (h6 : (dsF (M 1) n n).length ≤ 6) (h0 : ∀ x, x < n → h01 (M 1) x) (ht2 : t ≤ n) (hfs : ∀ a, t = a + 1 → shwn (M 1) a = true) (goals : Int32) : fndR M n (arrF (M 1) (ordF (M 1) n)) t goals = fndF (pk3 (nxF (M 1) n)) goals 1600 0 (Q0 (s0F (M 1) n t)) := by
  obtain ⟨-, -, -, zv, z16⟩ := s0_ok hn h6 h0 ht2 hfs
  have e0 : q0F M n t = Q0 (s0F (M 1) n t) := by
    rw [q0F, dl_eq hn ho h6, comeF, if_neg (by rintro (z | z); exact absurd z List.not_mem_nil; exact z (by decide))]
    rfl
  rw [fndR, e0, dl_eq hn ho h6]
  exact fnd_cg goals (vs_clsd ht hn0 hn ho h6) (fun q a ha hv => pa_eq mk ht hn0 hn ho h6 ha hv) 1600 0 _ (li_0 z16 zv)
theorem x_walk {M : Mm} {n t L : Nat} {sp : List Nat} (g : GS (M 1, n, t, sp)) (hx : XS M (M 1, n, t, sp) L) (hL : L < 2 ^ 29) (x : Int32) : Ct XSh mX7_walk [.ref 24, .int x] M (XP (spWalk (M 1) n t x, (M 1, n, t, sp)) L) := by
  have hn0 : 0 < n := g.1.1.1
  have hn : n ≤ 24 := g.1.1.2
  have ht : TR (M 1) n := g.1.2.1
  have hlab : ∀ a, a < n → labOK (M 1) n a := g.1.2.2.1
  have hpl : ∀ y, y < n → plOK (M 1) y := g.1.2.2.2.1
  have hco : ∀ a, a < n → colOK (M 1) a := g.1.2.2.2.2.1
  have h01 : ∀ x, x < n → h01 (M 1) x := g.1.2.2.2.2.2.1
  have ho : opsOK (M 1) n := g.1.2.2.2.2.2.2.1
  have hz : ∀ j, n * 18 ≤ j → M 1 j = 0 := g.1.2.2.2.2.2.2.2
  have h6 : (dsF (M 1) n n).length ≤ 6 := g.2.1
  have ht2 : t ≤ n := g.2.2.1
  have hfs : ∀ a, t = a + 1 → shwn (M 1) a = true := g.2.2.2.1
  have hnd : sp.Nodup := g.2.2.2.2.1
  have hsb : ∀ y ∈ sp, y < 24 := g.2.2.2.2.2
  have hsz : M 0 5 = nI n := hx.2.1
  have hor : rowAt M 5 0 5 (ordF (M 1) n) := hx.2.2.1
  have mk : MK M (M 1) n := hx.2.2.2.1
  have hst : rowAt M 12 11 2 (arrF (M 1) (ordF (M 1) n)) := hx.2.2.2.2.1
  have hsp : rowAt M 23 22 1 sp := hx.2.2.2.2.2.1
  have hf : M 24 7 = pm t := hx.2.2.2.2.2.2.1
  have hlk : lk0 M L := hx.2.2.2.2.2.2.2
  obtain ⟨o1, o2, o3⟩ := ord_facts n hn0 (by omega) ht
  have ob : ∀ x ∈ ordF (M 1) n, x < 24 := fun x hx => by have := o3 x hx; omega
  have ob2 : ∀ x ∈ ordF (M 1) n, x < (ordF (M 1) n).length := fun x hx => by rw [o1]; exact o3 x hx
  have ab : ∀ x ∈ arrF (M 1) (ordF (M 1) n), x < 24 := fun x hx => ob x (arrF_mem.mp hx).1
  have sb : shB (shN M n) (M 1) n := shB_now mk hn
  obtain ⟨-, -, -, zv, z16⟩ := s0_ok hn h6 h01 ht2 hfs
  have hV := vs_clsd ht hn0 hn ho h6
  show Ev _ _ 0 [.ref 24, .int x] [] M _
  refine ev_aload_n 1 dX7_walk_0 rfl rfl ?_
  refine ev_getR 4 dX7_walk_1 rfl flX7_10 rfl rfl ?_
  refine ev_iload_n 5 dX7_walk_4 rfl rfl ?_
  refine ev_cV1I _ M 8 dX7_walk_5 mlX7_68 moX2_has rfl imX2_has ⟨_, _, rfl, rfl, rfl⟩ (Nat.le_of_ble_eq_true rfl) (Nat.le_of_ble_eq_true rfl) rfl (s_X2_has hn hsz x) ?_
  refine ev_if_eqB 11 26 dX7_walk_8 (by decide) rfl (fun c8 => ?_) (fun c8 => ?_)
  · refine ev_bipush 28 (-101) dX7_walk_26 (by decide) rfl ?_
    exact ev_iret dX7_walk_28 rfl (xp_sm (by rw [spWalk, if_pos c8]) hx)
  · obtain ⟨a, ha, rfl⟩ := inB_of c8 (by omega)
    refine ev_aload_n 12 dX7_walk_11 rfl rfl ?_
    refine ev_getR 15 dX7_walk_12 rfl flX7_44 rfl rfl ?_
    refine ev_aload_n 16 dX7_walk_15 rfl rfl ?_
    refine ev_getIv 19 (pm t) dX7_walk_16 rfl flX7_64 rfl rfl hf ?_
    refine ev_iload_n 20 dX7_walk_19 rfl rfl ?_
    refine ev_cV2 23 dX7_walk_20 mlX7_152 moX6_lengthTo rfl imX6_lengthTo ⟨_, _, rfl, rfl, rfl⟩ (Nat.le_of_ble_eq_true rfl) (Nat.le_of_ble_eq_true rfl) rfl (s_X6_lengthTo hn hsz hst ab hL hlk (by omega) (nI a)) ?_
    rintro r M2 ⟨rfl, h2⟩
    rw [fnd_eq mk ht hn0 hn ho h6 h01 ht2 hfs, walk_eq (nx := nxF (M 1) n) hV z16 zv (show a < 24 by omega)]
    refine ev_goto 28 dX7_walk_23 (by decide) ?_
    exact ev_iret dX7_walk_28 rfl (xp_of (by rw [spWalk, if_neg (by rw [c8]; decide), nI_clamp (show a < 2 ^ 31 by omega)]) (Nat.le_refl _) (xs_wk hx h2))
theorem x_key {M : Mm} {n t L : Nat} {sp : List Nat} (g : GS (M 1, n, t, sp)) (hx : XS M (M 1, n, t, sp) L) (hL : L < 2 ^ 29) (x : Int32) : Ct XSh mX7_key [.ref 24, .int x] M (XP (spKey (M 1) n t x, (M 1, n, t, sp)) L) := by
  have hn0 : 0 < n := g.1.1.1
  have hn : n ≤ 24 := g.1.1.2
  have ht : TR (M 1) n := g.1.2.1
  have hlab : ∀ a, a < n → labOK (M 1) n a := g.1.2.2.1
  have hpl : ∀ y, y < n → plOK (M 1) y := g.1.2.2.2.1
  have hco : ∀ a, a < n → colOK (M 1) a := g.1.2.2.2.2.1
  have h01 : ∀ x, x < n → h01 (M 1) x := g.1.2.2.2.2.2.1
  have ho : opsOK (M 1) n := g.1.2.2.2.2.2.2.1
  have hz : ∀ j, n * 18 ≤ j → M 1 j = 0 := g.1.2.2.2.2.2.2.2
  have h6 : (dsF (M 1) n n).length ≤ 6 := g.2.1
  have ht2 : t ≤ n := g.2.2.1
  have hfs : ∀ a, t = a + 1 → shwn (M 1) a = true := g.2.2.2.1
  have hnd : sp.Nodup := g.2.2.2.2.1
  have hsb : ∀ y ∈ sp, y < 24 := g.2.2.2.2.2
  have hsz : M 0 5 = nI n := hx.2.1
  have hor : rowAt M 5 0 5 (ordF (M 1) n) := hx.2.2.1
  have mk : MK M (M 1) n := hx.2.2.2.1
  have hst : rowAt M 12 11 2 (arrF (M 1) (ordF (M 1) n)) := hx.2.2.2.2.1
  have hsp : rowAt M 23 22 1 sp := hx.2.2.2.2.2.1
  have hf : M 24 7 = pm t := hx.2.2.2.2.2.2.1
  have hlk : lk0 M L := hx.2.2.2.2.2.2.2
  obtain ⟨o1, o2, o3⟩ := ord_facts n hn0 (by omega) ht
  have ob : ∀ x ∈ ordF (M 1) n, x < 24 := fun x hx => by have := o3 x hx; omega
  have ob2 : ∀ x ∈ ordF (M 1) n, x < (ordF (M 1) n).length := fun x hx => by rw [o1]; exact o3 x hx
  have ab : ∀ x ∈ arrF (M 1) (ordF (M 1) n), x < 24 := fun x hx => ob x (arrF_mem.mp hx).1
  have sb : shB (shN M n) (M 1) n := shB_now mk hn
  obtain ⟨-, -, -, zv, z16⟩ := s0_ok hn h6 h01 ht2 hfs
  have hV := vs_clsd ht hn0 hn ho h6
  show Ev _ _ 0 [.ref 24, .int x] [] M _
  refine ev_aload_n 1 dX7_key_0 rfl rfl ?_
  refine ev_getR 4 dX7_key_1 rfl flX7_10 rfl rfl ?_
  refine ev_iload_n 5 dX7_key_4 rfl rfl ?_
  refine ev_cV1I _ M 8 dX7_key_5 mlX7_68 moX2_has rfl imX2_has ⟨_, _, rfl, rfl, rfl⟩ (Nat.le_of_ble_eq_true rfl) (Nat.le_of_ble_eq_true rfl) rfl (s_X2_has hn hsz x) ?_
  refine ev_if_eqB 11 26 dX7_key_8 (by decide) rfl (fun c8 => ?_) (fun c8 => ?_)
  · refine ev_bipush 28 (-101) dX7_key_26 (by decide) rfl ?_
    exact ev_iret dX7_key_28 rfl (xp_sm (by rw [spKey, if_pos c8]) hx)
  · obtain ⟨a, ha, rfl⟩ := inB_of c8 (by omega)
    refine ev_aload_n 12 dX7_key_11 rfl rfl ?_
    refine ev_getR 15 dX7_key_12 rfl flX7_44 rfl rfl ?_
    refine ev_aload_n 16 dX7_key_15 rfl rfl ?_
    refine ev_getIv 19 (pm t) dX7_key_16 rfl flX7_64 rfl rfl hf ?_
    refine ev_iload_n 20 dX7_key_19 rfl rfl ?_
    refine ev_cV2 23 dX7_key_20 mlX7_155 moX6_firstKeyTo rfl imX6_firstKeyTo ⟨_, _, rfl, rfl, rfl⟩ (Nat.le_of_ble_eq_true rfl) (Nat.le_of_ble_eq_true rfl) rfl (s_X6_firstKeyTo hn hsz hst ab hL hlk (by omega) (nI a)) ?_
    rintro r M2 ⟨rfl, h2⟩
    rw [fnd_eq mk ht hn0 hn ho h6 h01 ht2 hfs, key_eq (nx := nxF (M 1) n) hV z16 zv (show a < 24 by omega)]
    refine ev_goto 28 dX7_key_23 (by decide) ?_
    exact ev_iret dX7_key_28 rfl (xp_of (by rw [spKey, if_neg (by rw [c8]; decide), nI_clamp (show a < 2 ^ 31 by omega)]) (Nat.le_refl _) (xs_wk hx h2))
theorem kpR_iff {h : Nat → Int32} {tr : Nat} {q : List (Nat × Nat)} : ∀ {k : Nat}, kpR h tr q k = true ↔ ∃ i, i < k ∧ outQ h tr (pr1 q i) = true
  | 0 => ⟨fun e => absurd e Bool.false_ne_true, fun ⟨i, hi, _⟩ => absurd hi (Nat.not_lt_zero _)⟩
  | k + 1 => by
    rw [kpR, Bool.or_eq_true, kpR_iff]
    constructor
    · rintro (⟨i, h1, h2⟩ | h2)
      · exact ⟨i, by omega, h2⟩
      · exact ⟨k, by omega, h2⟩
    · rintro ⟨i, h1, h2⟩
      by_cases c : i = k
      · right; rw [← c]; exact h2
      · left; exact ⟨i, by omega, h2⟩
theorem gl_out {M : Mm} {n tr s : Nat} (mk : MK M (M 1) n) (hn : n ≤ 24) (htr : tr < n) (hs : s % 25 ≤ n) : gl (M 3 tr ^^^ (-1)) s = outQ (M 1) tr s := by
  rw [gl, outQ]
  generalize s % 25 = u at hs
  cases u with
  | zero => rw [pm_0]; exact hB_m1 _
  | succ f =>
    rw [pm_s, hB_nI (by omega), b_xor, b_m1 f (by omega), mk.2.1 tr (by omega) f (by omega), Bool.xor_true]
    show _ = !decide (tr ∈ chain (M 1) f)
    congr 1
    exact decide_eq_decide.mpr ⟨fun z => z.2, fun z => ⟨by omega, z⟩⟩
theorem keep_eq {M : Mm} {n t tr : Nat} (mk : MK M (M 1) n) (ht : TR (M 1) n) (hn0 : 0 < n) (hn : n ≤ 24) (ho : opsOK (M 1) n) (h6 : (dsF (M 1) n n).length ≤ 6) (h0 : ∀ x, x < n → h01 (M 1) x) (ht2 : t ≤ n) (hfs : ∀ a, t = a + 1 → shwn (M 1) a = true) (htr : tr < n) : decide (¬ (fndR M n (arrF (M 1) (ordF (M 1) n)) t (M 3 tr ^^^ (-1))).1 = -1) = kpR (M 1) tr ((QF (nxF (M 1) n) (s0F (M 1) n t)).map pj) (QF (nxF (M 1) n) (s0F (M 1) n t)).length := by
  obtain ⟨-, -, -, zv, z16⟩ := s0_ok hn h6 h0 ht2 hfs
  have hV := vs_clsd ht hn0 hn ho h6
  have hB := (QF_ok (nx := nxF (M 1) n) hV z16 zv).1
  have hl := bi_len hB
  have hg : ∀ i, i < (QF (nxF (M 1) n) (s0F (M 1) n t)).length → gl (M 3 tr ^^^ (-1)) (qe (QF (nxF (M 1) n) (s0F (M 1) n t)) i).1 = outQ (M 1) tr (pr1 ((QF (nxF (M 1) n) (s0F (M 1) n t)).map pj) i) := fun i hi => by
    rw [(pr_pj hi).1]
    exact gl_out mk hn htr (hB.2.2.1 _ (qe_mem hi)).2.2.1
  rw [fnd_eq mk ht hn0 hn ho h6 h0 ht2 hfs, Bool.eq_iff_iff, decide_eq_true_eq, kpR_iff]
  rcases fnd_spec (M 3 tr ^^^ (-1)) hV 1600 0 (Q0 (s0F (M 1) n t)) rfl (li_0 z16 zv) (fun i hi => absurd hi (Nat.not_lt_zero _)) with ⟨e, h⟩ | ⟨j, hj, e, -, h1, -⟩
  · constructor
    · intro z
      exact absurd e z
    · rintro ⟨i, hi, z⟩
      have h9 : gl (M 3 tr ^^^ (-1)) (qe (QF (nxF (M 1) n) (s0F (M 1) n t)) i).1 = false := h i hi
      rw [← hg i hi, h9] at z
      exact absurd z Bool.false_ne_true
  · constructor
    · intro _
      exact ⟨j, hj, by rw [← hg j hj]; exact h1⟩
    · intro _ z
      have hj2 : j < (QF (nxF (M 1) n) (s0F (M 1) n t)).length := hj
      rw [show (fndF (pk3 (nxF (M 1) n)) (M 3 tr ^^^ -1) 1600 0 (Q0 (s0F (M 1) n t))).1 = nI j from e] at z
      exact nI_m1 (by omega) z
theorem x_keeper {M : Mm} {n t L : Nat} {sp : List Nat} (g : GS (M 1, n, t, sp)) (hx : XS M (M 1, n, t, sp) L) (hL : L < 2 ^ 29) : Ct XSh mX7_keeper [.ref 24] M (XP (spKeep (M 1) n t, (M 1, n, t, sp)) L) := by
  have hn0 : 0 < n := g.1.1.1
  have hn : n ≤ 24 := g.1.1.2
  have ht : TR (M 1) n := g.1.2.1
  have hlab : ∀ a, a < n → labOK (M 1) n a := g.1.2.2.1
  have hpl : ∀ y, y < n → plOK (M 1) y := g.1.2.2.2.1
  have hco : ∀ a, a < n → colOK (M 1) a := g.1.2.2.2.2.1
  have h01 : ∀ x, x < n → h01 (M 1) x := g.1.2.2.2.2.2.1
  have ho : opsOK (M 1) n := g.1.2.2.2.2.2.2.1
  have hz : ∀ j, n * 18 ≤ j → M 1 j = 0 := g.1.2.2.2.2.2.2.2
  have h6 : (dsF (M 1) n n).length ≤ 6 := g.2.1
  have ht2 : t ≤ n := g.2.2.1
  have hfs : ∀ a, t = a + 1 → shwn (M 1) a = true := g.2.2.2.1
  have hnd : sp.Nodup := g.2.2.2.2.1
  have hsb : ∀ y ∈ sp, y < 24 := g.2.2.2.2.2
  have hsz : M 0 5 = nI n := hx.2.1
  have hor : rowAt M 5 0 5 (ordF (M 1) n) := hx.2.2.1
  have mk : MK M (M 1) n := hx.2.2.2.1
  have hst : rowAt M 12 11 2 (arrF (M 1) (ordF (M 1) n)) := hx.2.2.2.2.1
  have hsp : rowAt M 23 22 1 sp := hx.2.2.2.2.2.1
  have hf : M 24 7 = pm t := hx.2.2.2.2.2.2.1
  have hlk : lk0 M L := hx.2.2.2.2.2.2.2
  obtain ⟨o1, o2, o3⟩ := ord_facts n hn0 (by omega) ht
  have ob : ∀ x ∈ ordF (M 1) n, x < 24 := fun x hx => by have := o3 x hx; omega
  have ob2 : ∀ x ∈ ordF (M 1) n, x < (ordF (M 1) n).length := fun x hx => by rw [o1]; exact o3 x hx
  have ab : ∀ x ∈ arrF (M 1) (ordF (M 1) n), x < 24 := fun x hx => ob x (arrF_mem.mp hx).1
  have sb : shB (shN M n) (M 1) n := shB_now mk hn
  show Ev _ _ 0 [.ref 24, .null] [] M _
  refine ev_aload_n 1 dX7_keeper_0 rfl rfl ?_
  refine ev_getR 4 dX7_keeper_1 rfl flX7_10 rfl rfl ?_
  refine ev_aload_n 5 dX7_keeper_4 rfl rfl ?_
  refine ev_getIv 8 (pm t) dX7_keeper_5 rfl flX7_64 rfl rfl hf ?_
  refine ev_aload_n 9 dX7_keeper_8 rfl rfl ?_
  refine ev_getR 12 dX7_keeper_9 rfl flX7_10 rfl rfl ?_
  refine ev_cV0I _ M 15 dX7_keeper_12 mlX7_94 moX2_shownNow rfl imX2_shownNow ⟨_, _, rfl, rfl, rfl⟩ (Nat.le_of_ble_eq_true rfl) (Nat.le_of_ble_eq_true rfl) rfl (s_X2_shownNow hn hsz) ?_
  refine ev_cV2I (optI (trS (M 1) t)) M 18 dX7_keeper_15 mlX7_149 moX2_trapAround rfl imX2_trapAround ⟨_, _, rfl, rfl, rfl⟩ (Nat.le_of_ble_eq_true rfl) (Nat.le_of_ble_eq_true rfl) rfl (by have z := s_X2_trapAround (X := XS0) (M := M) hn hsz (pm t) (shN M n); rwa [show (if inB (pm t) n then lastF ((M 2 (pm t).toNatClampNeg &&& M 4 5) &&& shN M n) 24 else -1) = trpF M n (shN M n) (pm t) from rfl, trp_eq mk (TE.rf _) ht hn sb t ht2 hfs] at z) ?_
  refine ev_istore_n 19 _ dX7_keeper_18 (by decide) rfl rfl rfl ?_
  refine ev_iload_n 20 dX7_keeper_19 rfl rfl ?_
  refine ev_iconst 21 (-1) dX7_keeper_20 (by decide) rfl ?_
  refine ev_icmp_eq 24 43 dX7_keeper_21 (by decide) rfl (fun c21 => ?_) (fun c21 => ?_)
  · refine ev_iload_n 44 dX7_keeper_43 rfl rfl ?_
    exact ev_iret dX7_keeper_44 rfl (xp_sm (by rw [spKeep, optI_none c21 (fun a e => by have := trS_lt e; omega)]; rfl) hx)
  · obtain ⟨tr, htr⟩ : ∃ tr, trS (M 1) t = some tr := by
      cases e : trS (M 1) t with
      | none => rw [e] at c21; exact absurd rfl c21
      | some tr => exact ⟨tr, rfl⟩
    have htl := trS_lt htr
    rw [htr]
    show Ev _ _ _ [.ref 24, .int (nI tr)] _ _ _
    refine ev_aload_n 25 dX7_keeper_24 rfl rfl ?_
    refine ev_getR 28 dX7_keeper_25 rfl flX7_44 rfl rfl ?_
    refine ev_aload_n 29 dX7_keeper_28 rfl rfl ?_
    refine ev_getIv 32 (pm t) dX7_keeper_29 rfl flX7_64 rfl rfl hf ?_
    refine ev_iload_n 33 dX7_keeper_32 rfl rfl ?_
    refine ev_cV2 36 dX7_keeper_33 mlX7_158 moX6_leadOutOf rfl imX6_leadOutOf ⟨_, _, rfl, rfl, rfl⟩ (Nat.le_of_ble_eq_true rfl) (Nat.le_of_ble_eq_true rfl) rfl (s_X6_leadOutOf (a := tr) hn hsz hst ab hL hlk (by omega) (by omega)) ?_
    rintro r M2 ⟨rfl, h2⟩
    rw [keep_eq mk ht hn0 hn ho h6 h01 ht2 hfs (show tr < n by omega)]
    refine ev_if_eqB 39 43 dX7_keeper_36 (by decide) rfl (fun c36 => ?_) (fun c36 => ?_)
    · refine ev_iload_n 44 dX7_keeper_43 rfl rfl ?_
      exact ev_iret dX7_keeper_44 rfl (xp_of (by rw [spKeep, htr]; show (if _ then _ else _, _) = _; rw [if_neg (by rw [c36]; decide)]) (Nat.le_refl _) (xs_wk hx h2))
    · refine ev_iconst 40 (-1) dX7_keeper_39 (by decide) rfl ?_
      refine ev_goto 44 dX7_keeper_40 (by decide) ?_
      exact ev_iret dX7_keeper_44 rfl (xp_of (by rw [spKeep, htr]; show (if _ then _ else _, _) = _; rw [if_pos c36]) (Nat.le_refl _) (xs_wk hx h2))
end
