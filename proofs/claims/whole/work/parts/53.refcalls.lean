section
/-! what the calls answer, and the reference's calls (I) -/
def PS (z : Int32 × St) : Pst := fun r M => r = some (.int z.1) ∧ RS M z.2
theorem ps_of {z : Int32 × St} {v : Int32} {s : St} {M : Mm} (e : z = (v, s)) (h : RS M s) : PS z (some (.int v)) M := by
  rw [e]
  exact ⟨rfl, h⟩
theorem rs_mk {M M2 : Mm} {h2 : Nat → Int32} {n2 t2 : Nat} {sp : List Nat} (hsp : rowAt M 2 0 3 sp) (e1 : M2 1 = h2) (e0 : M2 0 0 = nI n2) (e2 : M2 0 2 = pm t2) (e3 : M2 0 3 = M 0 3) (e4 : M2 2 = M 2) : RS M2 (h2, n2, t2, sp) := ⟨e1, e0, e2, hsp.of e4 e3⟩
def spPart (h : Nat → Int32) (n t : Nat) (sp : List Nat) (x k : Int32) : Int32 × St := if inB x n = false then (-101, (h, n, t, sp)) else if inB k 7 = false then (-102, (h, n, t, sp)) else if n = 24 then (-104, (h, n, t, sp)) else (nI n, (pfH h n x k.toNatClampNeg, n + 1, t, sp))
def spTold (h : Nat → Int32) (n : Nat) (x w : Int32) : Int32 := if inB x n = false then -101 else if inB w 18 = true then h (x.toNatClampNeg * 18 + w.toNatClampNeg) else if w = nI 18 then bI (shwn h x.toNatClampNeg) else -102
def spBox (h : Nat → Int32) (n t : Nat) (sp : List Nat) (x a b c d : Int32) : Int32 × St := if inB x n = false then (-101, (h, n, t, sp)) else if (inB a 10001 && (inB b 10001 && (inB c 10001 && inB d 10001))) = false then (-102, (h, n, t, sp)) else (nI 1, (upd (upd (upd (upd h (x.toNatClampNeg * 18 + 12) a) (x.toNatClampNeg * 18 + 13) b) (x.toNatClampNeg * 18 + 14) c) (x.toNatClampNeg * 18 + 15) d, n, t, sp))
def spCol (h : Nat → Int32) (n t : Nat) (sp : List Nat) (x a b : Int32) : Int32 × St := if inB x n = false then (-101, (h, n, t, sp)) else if (inB a 16777216 && inB b 16777216) = false then (-102, (h, n, t, sp)) else (nI (ctN a.toNatClampNeg b.toNatClampNeg), (upd (upd h (x.toNatClampNeg * 18 + 16) a) (x.toNatClampNeg * 18 + 17) b, n, t, sp))
def spName (h : Nat → Int32) (n : Nat) (x : Int32) : Int32 := if inB x n = false then -101 else nI (nmS h n x.toNatClampNeg).length
def spWord (h : Nat → Int32) (n : Nat) (x k : Int32) : Int32 := if inB x n = false then nI 0 else wdF (nmS h n x.toNatClampNeg) k
def spWrong (h : Nat → Int32) (n : Nat) (k w : Int32) : Int32 := if inB w 2 = false then -102 else if w = 0 then w1F (wrS h n) k else w2F (wrS h n) k
theorem r_part {M : Mm} {n t : Nat} {sp : List Nat} (g : GS (M 1, n, t, sp)) (hR : RS M (M 1, n, t, sp)) (x k : Int32) : Ct MSh mX8_part [.ref 0, .int x, .int k] M (PS (spPart (M 1) n t sp x k)) := by
  have hn0 : 0 < n := g.1.1.1
  have hn : n ≤ 24 := g.1.1.2
  have ht : TR (M 1) n := g.1.2.1
  have hlab : ∀ a, a < n → labOK (M 1) n a := g.1.2.2.1
  have hpl : ∀ y, y < n → plOK (M 1) y := g.1.2.2.2.1
  have hco : ∀ a, a < n → colOK (M 1) a := g.1.2.2.2.2.1
  have h01 : ∀ x, x < n → h01 (M 1) x := g.1.2.2.2.2.2.1
  have ho : opsOK (M 1) n := g.1.2.2.2.2.2.2.1
  have hz : ∀ j, n * 18 ≤ j → M 1 j = 0 := g.1.2.2.2.2.2.2.2
  have h6 : (dsF (M 1) n n).length ≤ 6 := g.2.1
  have ht2 : t ≤ n := g.2.2.1
  have hfs : ∀ a, t = a + 1 → shwn (M 1) a = true := g.2.2.2.1
  have hnd : sp.Nodup := g.2.2.2.2.1
  have hsb : ∀ y ∈ sp, y < 24 := g.2.2.2.2.2
  have hm : M 0 0 = nI n := hR.2.1
  have hf : M 0 2 = pm t := hR.2.2.1
  have hsp : rowAt M 2 0 3 sp := hR.2.2.2
  show Ev _ _ 0 [.ref 0, .int x, .int k] [] M _
  refine ev_aload_n 1 dX8_part_0 rfl rfl ?_
  refine ev_iload_n 2 dX8_part_1 rfl rfl ?_
  refine ev_cV1I _ M 5 dX8_part_2 mlX8_68 moX8_isPart rfl imX8_isPart ⟨_, _, rfl, rfl, rfl⟩ (Nat.le_of_ble_eq_true rfl) (Nat.le_of_ble_eq_true rfl) rfl (s_X8_isPart hn0 hn hm x) ?_
  refine ev_if_neB 8 11 dX8_part_5 (by decide) rfl (fun c5 => ?_) (fun c5 => ?_)
  · refine ev_iload_n 12 dX8_part_11 rfl rfl ?_
    refine ev_i2l 13 dX8_part_12 rfl ?_
    refine ev_lconst 14 (lN 0) dX8_part_13 rfl rfl ?_
    refine ev_ldc2 17 (lN 6) dX8_part_14 kX8_72 rfl ?_
    refine ev_cS3I (bI (inB k 7)) M 20 dX8_part_17 mlX8_64 moX8_in rfl smX8_in (Nat.le_of_ble_eq_true rfl) (Nat.le_of_ble_eq_true rfl) rfl (by have z := s_in (Sh := MSh) (M := M) (k).toInt64 (lN 0) (lN 6); rwa [in_eq k (by omega)] at z) ?_
    refine ev_if_neB 23 26 dX8_part_20 (by decide) rfl (fun c20 => ?_) (fun c20 => ?_)
    · refine ev_aload_n 27 dX8_part_26 rfl rfl ?_
      refine ev_getIv 30 (nI n) dX8_part_27 rfl flX8_57 rfl rfl hm ?_
      refine ev_bipush 32 (nI 24) dX8_part_30 (by decide) rfl ?_
      refine ev_icmp_neN 35 38 dX8_part_32 (by decide) rfl (by omega) (by omega) (fun c32 => ?_) (fun c32 => ?_)
      · obtain ⟨a, ha, rfl⟩ := inB_of c5 (by omega)
        obtain ⟨kk, hkk, rfl⟩ := inB_of c20 (by omega)
        refine ev_aload_n 39 dX8_part_38 rfl rfl ?_
        refine ev_aload_n 40 dX8_part_39 rfl rfl ?_
        refine ev_getIv 43 (nI n) dX8_part_40 rfl flX8_57 rfl rfl hm ?_
        refine ev_iload_n 44 dX8_part_43 rfl rfl ?_
        refine ev_iload_n 45 dX8_part_44 rfl rfl ?_
        refine ev_cV3 48 dX8_part_45 mlX8_53 moX8_begin rfl imX8_begin ⟨_, _, rfl, rfl, rfl⟩ (Nat.le_of_ble_eq_true rfl) (Nat.le_of_ble_eq_true rfl) rfl (s_X8_begin (M := M) (a := n) (k := kk) (x := nI a) (by omega) hz) ?_
        rintro r M2 ⟨rfl, h2⟩
        refine ev_aload_n 49 dX8_part_48 rfl rfl ?_
        refine ev_dup 50 dX8_part_49 rfl rfl ?_
        refine ev_getIv 53 (nI n) dX8_part_50 rfl flX8_57 rfl rfl (by rw [h2.1 0 (by decide)]; exact hm) ?_
        refine ev_iconst 54 (nI 1) dX8_part_53 (by decide) rfl ?_
        refine ev_iaddN 55 dX8_part_54 rfl ?_
        refine ev_putI 58 dX8_part_55 rfl flX8_57 fiX8_0 rfl rfl ?_
        refine ev_aload_n 59 dX8_part_58 rfl rfl ?_
        refine ev_getIv 62 (nI (n + 1)) dX8_part_59 rfl flX8_57 rfl rfl (by rw [mst_same, upd, if_pos rfl]) ?_
        refine ev_iconst 63 (nI 1) dX8_part_62 (by decide) rfl ?_
        refine ev_isubN 64 dX8_part_63 (by omega) rfl ?_
        exact ev_iret dX8_part_64 rfl (ps_of (by rw [spPart, if_neg (by rw [c5]; decide), if_neg (by rw [c20]; decide), if_neg c32, nI_clamp (show kk < 2 ^ 31 by omega)]; rfl) (rs_mk hsp (by rw [mst_other _ _ _ (by decide)]; exact h2.2) (by rw [mst_same, upd, if_pos rfl]) (by rw [mst_same, upd, if_neg (by decide), h2.1 0 (by decide)]; exact hf) (by rw [mst_same, upd, if_neg (by decide), h2.1 0 (by decide)]) (by rw [mst_other _ _ _ (by decide), h2.1 2 (by decide)])))
      · refine ev_bipush 37 (-104) dX8_part_35 (by decide) rfl ?_
        exact ev_iret dX8_part_37 rfl (ps_of (by rw [spPart, if_neg (by rw [c5]; decide), if_neg (by rw [c20]; decide), if_pos c32]) hR)
    · refine ev_bipush 25 (-102) dX8_part_23 (by decide) rfl ?_
      exact ev_iret dX8_part_25 rfl (ps_of (by rw [spPart, if_neg (by rw [c5]; decide), if_pos c20]) hR)
  · refine ev_bipush 10 (-101) dX8_part_8 (by decide) rfl ?_
    exact ev_iret dX8_part_10 rfl (ps_of (by rw [spPart, if_pos c5]) hR)
theorem r_told {M : Mm} {n t : Nat} {sp : List Nat} (g : GS (M 1, n, t, sp)) (hR : RS M (M 1, n, t, sp)) (x w : Int32) : Ct MSh mX8_told [.ref 0, .int x, .int w] M (PS (spTold (M 1) n x w, (M 1, n, t, sp))) := by
  have hn0 : 0 < n := g.1.1.1
  have hn : n ≤ 24 := g.1.1.2
  have ht : TR (M 1) n := g.1.2.1
  have hlab : ∀ a, a < n → labOK (M 1) n a := g.1.2.2.1
  have hpl : ∀ y, y < n → plOK (M 1) y := g.1.2.2.2.1
  have hco : ∀ a, a < n → colOK (M 1) a := g.1.2.2.2.2.1
  have h01 : ∀ x, x < n → h01 (M 1) x := g.1.2.2.2.2.2.1
  have ho : opsOK (M 1) n := g.1.2.2.2.2.2.2.1
  have hz : ∀ j, n * 18 ≤ j → M 1 j = 0 := g.1.2.2.2.2.2.2.2
  have h6 : (dsF (M 1) n n).length ≤ 6 := g.2.1
  have ht2 : t ≤ n := g.2.2.1
  have hfs : ∀ a, t = a + 1 → shwn (M 1) a = true := g.2.2.2.1
  have hnd : sp.Nodup := g.2.2.2.2.1
  have hsb : ∀ y ∈ sp, y < 24 := g.2.2.2.2.2
  have hm : M 0 0 = nI n := hR.2.1
  have hf : M 0 2 = pm t := hR.2.2.1
  have hsp : rowAt M 2 0 3 sp := hR.2.2.2
  show Ev _ _ 0 [.ref 0, .int x, .int w] [] M _
  refine ev_aload_n 1 dX8_told_0 rfl rfl ?_
  refine ev_iload_n 2 dX8_told_1 rfl rfl ?_
  refine ev_cV1I _ M 5 dX8_told_2 mlX8_68 moX8_isPart rfl imX8_isPart ⟨_, _, rfl, rfl, rfl⟩ (Nat.le_of_ble_eq_true rfl) (Nat.le_of_ble_eq_true rfl) rfl (s_X8_isPart hn0 hn hm x) ?_
  refine ev_if_neB 8 11 dX8_told_5 (by decide) rfl (fun c5 => ?_) (fun c5 => ?_)
  · obtain ⟨a, ha, rfl⟩ := inB_of c5 (by omega)
    refine ev_iload_n 12 dX8_told_11 rfl rfl ?_
    refine ev_i2l 13 dX8_told_12 rfl ?_
    refine ev_lconst 14 (lN 0) dX8_told_13 rfl rfl ?_
    refine ev_ldc2 17 (lN 17) dX8_told_14 kX8_107 rfl ?_
    refine ev_cS3I (bI (inB w 18)) M 20 dX8_told_17 mlX8_64 moX8_in rfl smX8_in (Nat.le_of_ble_eq_true rfl) (Nat.le_of_ble_eq_true rfl) rfl (by have z := s_in (Sh := MSh) (M := M) (w).toInt64 (lN 0) (lN 17); rwa [in_eq w (by omega)] at z) ?_
    refine ev_if_eqB 23 32 dX8_told_20 (by decide) rfl (fun c20 => ?_) (fun c20 => ?_)
    · refine ev_iload_n 33 dX8_told_32 rfl rfl ?_
      refine ev_bipush 35 (nI 18) dX8_told_33 (by decide) rfl ?_
      refine ev_icmp_ne 38 54 dX8_told_35 (by decide) rfl (fun c35 => ?_) (fun c35 => ?_)
      · refine ev_bipush 56 (-102) dX8_told_54 (by decide) rfl ?_
        exact ev_iret dX8_told_56 rfl (ps_of (by rw [spTold, if_neg (by rw [c5]; decide), if_neg (by rw [c20]; decide), if_neg c35]) hR)
      · refine ev_aload_n 39 dX8_told_38 rfl rfl ?_
        refine ev_iload_n 40 dX8_told_39 rfl rfl ?_
        refine ev_cV1I _ M 43 dX8_told_40 mlX8_89 moX8_isShown rfl imX8_isShown ⟨_, _, rfl, rfl, rfl⟩ (Nat.le_of_ble_eq_true rfl) (Nat.le_of_ble_eq_true rfl) rfl (s_X8_isShown ht hn ha) ?_
        refine ev_if_eqB 46 50 dX8_told_43 (by decide) rfl (fun c43 => ?_) (fun c43 => ?_)
        · refine ev_iconst 51 (nI 0) dX8_told_50 (by decide) rfl ?_
          refine ev_goto 56 dX8_told_51 (by decide) ?_
          exact ev_iret dX8_told_56 rfl (ps_of (by rw [spTold, if_neg (by rw [c5]; decide), if_neg (by rw [c20]; decide), if_pos c35, nI_clamp (show a < 2 ^ 31 by omega), c43]; rfl) hR)
        · refine ev_iconst 47 (nI 1) dX8_told_46 (by decide) rfl ?_
          refine ev_goto 56 dX8_told_47 (by decide) ?_
          exact ev_iret dX8_told_56 rfl (ps_of (by rw [spTold, if_neg (by rw [c5]; decide), if_neg (by rw [c20]; decide), if_pos c35, nI_clamp (show a < 2 ^ 31 by omega), c43]; rfl) hR)
    · obtain ⟨b, hb, rfl⟩ := inB_of c20 (by omega)
      refine ev_aload_n 24 dX8_told_23 rfl rfl ?_
      refine ev_iload_n 25 dX8_told_24 rfl rfl ?_
      refine ev_iload_n 26 dX8_told_25 rfl rfl ?_
      refine ev_cV2I (M 1 (a * 18 + b)) M 29 dX8_told_26 mlX8_74 moX8_get rfl imX8_get ⟨_, _, rfl, rfl, rfl⟩ (Nat.le_of_ble_eq_true rfl) (Nat.le_of_ble_eq_true rfl) rfl (s_X8_get (a := a) (b := b) (by omega) hb) ?_
      refine ev_goto 56 dX8_told_29 (by decide) ?_
      exact ev_iret dX8_told_56 rfl (ps_of (by rw [spTold, if_neg (by rw [c5]; decide), if_pos c20, nI_clamp (show a < 2 ^ 31 by omega), nI_clamp (show b < 2 ^ 31 by omega)]) hR)
  · refine ev_bipush 10 (-101) dX8_told_8 (by decide) rfl ?_
    exact ev_iret dX8_told_10 rfl (ps_of (by rw [spTold, if_pos c5]) hR)
theorem r_box {M : Mm} {n t : Nat} {sp : List Nat} (g : GS (M 1, n, t, sp)) (hR : RS M (M 1, n, t, sp)) (x p q r s : Int32) : Ct MSh mX8_box [.ref 0, .int x, .int p, .int q, .int r, .int s] M (PS (spBox (M 1) n t sp x p q r s)) := by
  have hn0 : 0 < n := g.1.1.1
  have hn : n ≤ 24 := g.1.1.2
  have ht : TR (M 1) n := g.1.2.1
  have hlab : ∀ a, a < n → labOK (M 1) n a := g.1.2.2.1
  have hpl : ∀ y, y < n → plOK (M 1) y := g.1.2.2.2.1
  have hco : ∀ a, a < n → colOK (M 1) a := g.1.2.2.2.2.1
  have h01 : ∀ x, x < n → h01 (M 1) x := g.1.2.2.2.2.2.1
  have ho : opsOK (M 1) n := g.1.2.2.2.2.2.2.1
  have hz : ∀ j, n * 18 ≤ j → M 1 j = 0 := g.1.2.2.2.2.2.2.2
  have h6 : (dsF (M 1) n n).length ≤ 6 := g.2.1
  have ht2 : t ≤ n := g.2.2.1
  have hfs : ∀ a, t = a + 1 → shwn (M 1) a = true := g.2.2.2.1
  have hnd : sp.Nodup := g.2.2.2.2.1
  have hsb : ∀ y ∈ sp, y < 24 := g.2.2.2.2.2
  have hm : M 0 0 = nI n := hR.2.1
  have hf : M 0 2 = pm t := hR.2.2.1
  have hsp : rowAt M 2 0 3 sp := hR.2.2.2
  show Ev _ _ 0 [.ref 0, .int x, .int p, .int q, .int r, .int s] [] M _
  refine ev_aload_n 1 dX8_box_0 rfl rfl ?_
  refine ev_iload_n 2 dX8_box_1 rfl rfl ?_
  refine ev_cV1I _ M 5 dX8_box_2 mlX8_68 moX8_isPart rfl imX8_isPart ⟨_, _, rfl, rfl, rfl⟩ (Nat.le_of_ble_eq_true rfl) (Nat.le_of_ble_eq_true rfl) rfl (s_X8_isPart hn0 hn hm x) ?_
  refine ev_if_neB 8 11 dX8_box_5 (by decide) rfl (fun c5 => ?_) (fun c5 => ?_)
  · obtain ⟨a, ha, rfl⟩ := inB_of c5 (by omega)
    refine ev_iload_n 12 dX8_box_11 rfl rfl ?_
    refine ev_i2l 13 dX8_box_12 rfl ?_
    refine ev_lconst 14 (lN 0) dX8_box_13 rfl rfl ?_
    refine ev_ldc2 17 (lN 10000) dX8_box_14 kX8_109 rfl ?_
    refine ev_cS3I (bI (inB p 10001)) M 20 dX8_box_17 mlX8_64 moX8_in rfl smX8_in (Nat.le_of_ble_eq_true rfl) (Nat.le_of_ble_eq_true rfl) rfl (by have z := s_in (Sh := MSh) (M := M) (p).toInt64 (lN 0) (lN 10000); rwa [in_eq p (by omega)] at z) ?_
    refine ev_if_eqB 23 61 dX8_box_20 (by decide) rfl (fun c20 => ?_) (fun c20 => ?_)
    · refine ev_bipush 63 (-102) dX8_box_61 (by decide) rfl ?_
      exact ev_iret dX8_box_63 rfl (ps_of (by rw [spBox, if_neg (by rw [c5]; decide), if_pos (by rw [c20]; rfl)]) hR)
    · refine ev_iload_n 24 dX8_box_23 rfl rfl ?_
      refine ev_i2l 25 dX8_box_24 rfl ?_
      refine ev_lconst 26 (lN 0) dX8_box_25 rfl rfl ?_
      refine ev_ldc2 29 (lN 10000) dX8_box_26 kX8_109 rfl ?_
      refine ev_cS3I (bI (inB q 10001)) M 32 dX8_box_29 mlX8_64 moX8_in rfl smX8_in (Nat.le_of_ble_eq_true rfl) (Nat.le_of_ble_eq_true rfl) rfl (by have z := s_in (Sh := MSh) (M := M) (q).toInt64 (lN 0) (lN 10000); rwa [in_eq q (by omega)] at z) ?_
      refine ev_if_eqB 35 61 dX8_box_32 (by decide) rfl (fun c32 => ?_) (fun c32 => ?_)
      · refine ev_bipush 63 (-102) dX8_box_61 (by decide) rfl ?_
        exact ev_iret dX8_box_63 rfl (ps_of (by rw [spBox, if_neg (by rw [c5]; decide), if_pos (by rw [c20, c32]; rfl)]) hR)
      · refine ev_iload 37 dX8_box_35 rfl rfl ?_
        refine ev_i2l 38 dX8_box_37 rfl ?_
        refine ev_lconst 39 (lN 0) dX8_box_38 rfl rfl ?_
        refine ev_ldc2 42 (lN 10000) dX8_box_39 kX8_109 rfl ?_
        refine ev_cS3I (bI (inB r 10001)) M 45 dX8_box_42 mlX8_64 moX8_in rfl smX8_in (Nat.le_of_ble_eq_true rfl) (Nat.le_of_ble_eq_true rfl) rfl (by have z := s_in (Sh := MSh) (M := M) (r).toInt64 (lN 0) (lN 10000); rwa [in_eq r (by omega)] at z) ?_
        refine ev_if_eqB 48 61 dX8_box_45 (by decide) rfl (fun c45 => ?_) (fun c45 => ?_)
        · refine ev_bipush 63 (-102) dX8_box_61 (by decide) rfl ?_
          exact ev_iret dX8_box_63 rfl (ps_of (by rw [spBox, if_neg (by rw [c5]; decide), if_pos (by rw [c20, c32, c45]; rfl)]) hR)
        · refine ev_iload 50 dX8_box_48 rfl rfl ?_
          refine ev_i2l 51 dX8_box_50 rfl ?_
          refine ev_lconst 52 (lN 0) dX8_box_51 rfl rfl ?_
          refine ev_ldc2 55 (lN 10000) dX8_box_52 kX8_109 rfl ?_
          refine ev_cS3I (bI (inB s 10001)) M 58 dX8_box_55 mlX8_64 moX8_in rfl smX8_in (Nat.le_of_ble_eq_true rfl) (Nat.le_of_ble_eq_true rfl) rfl (by have z := s_in (Sh := MSh) (M := M) (s).toInt64 (lN 0) (lN 10000); rwa [in_eq s (by omega)] at z) ?_
          refine ev_if_neB 61 64 dX8_box_58 (by decide) rfl (fun c58 => ?_) (fun c58 => ?_)
          · refine ev_aload_n 65 dX8_box_64 rfl rfl ?_
            refine ev_iload_n 66 dX8_box_65 rfl rfl ?_
            refine ev_bipush 68 (nI 12) dX8_box_66 (by decide) rfl ?_
            refine ev_iload_n 69 dX8_box_68 rfl rfl ?_
            refine ev_cV3V _ 72 dX8_box_69 mlX8_60 moX8_put rfl imX8_put ⟨_, _, rfl, rfl, rfl⟩ (Nat.le_of_ble_eq_true rfl) (Nat.le_of_ble_eq_true rfl) rfl (s_X8_put (a := a) (b := 12) (by omega) (by omega)) ?_
            refine ev_aload_n 73 dX8_box_72 rfl rfl ?_
            refine ev_iload_n 74 dX8_box_73 rfl rfl ?_
            refine ev_bipush 76 (nI 13) dX8_box_74 (by decide) rfl ?_
            refine ev_iload_n 77 dX8_box_76 rfl rfl ?_
            refine ev_cV3V _ 80 dX8_box_77 mlX8_60 moX8_put rfl imX8_put ⟨_, _, rfl, rfl, rfl⟩ (Nat.le_of_ble_eq_true rfl) (Nat.le_of_ble_eq_true rfl) rfl (s_X8_put (a := a) (b := 13) (by omega) (by omega)) ?_
            refine ev_aload_n 81 dX8_box_80 rfl rfl ?_
            refine ev_iload_n 82 dX8_box_81 rfl rfl ?_
            refine ev_bipush 84 (nI 14) dX8_box_82 (by decide) rfl ?_
            refine ev_iload 86 dX8_box_84 rfl rfl ?_
            refine ev_cV3V _ 89 dX8_box_86 mlX8_60 moX8_put rfl imX8_put ⟨_, _, rfl, rfl, rfl⟩ (Nat.le_of_ble_eq_true rfl) (Nat.le_of_ble_eq_true rfl) rfl (s_X8_put (a := a) (b := 14) (by omega) (by omega)) ?_
            refine ev_aload_n 90 dX8_box_89 rfl rfl ?_
            refine ev_iload_n 91 dX8_box_90 rfl rfl ?_
            refine ev_bipush 93 (nI 15) dX8_box_91 (by decide) rfl ?_
            refine ev_iload 95 dX8_box_93 rfl rfl ?_
            refine ev_cV3V _ 98 dX8_box_95 mlX8_60 moX8_put rfl imX8_put ⟨_, _, rfl, rfl, rfl⟩ (Nat.le_of_ble_eq_true rfl) (Nat.le_of_ble_eq_true rfl) rfl (s_X8_put (a := a) (b := 15) (by omega) (by omega)) ?_
            refine ev_iconst 99 (nI 1) dX8_box_98 (by decide) rfl ?_
            exact ev_iret dX8_box_99 rfl (ps_of (by rw [spBox, if_neg (by rw [c5]; decide), if_neg (by rw [c20, c32, c45, c58]; decide), nI_clamp (show a < 2 ^ 31 by omega)]) (rs_mk hsp (by rw [mst_same, mst_same, mst_same, mst_same]) (by rw [mst_other _ _ _ (by decide), mst_other _ _ _ (by decide), mst_other _ _ _ (by decide), mst_other _ _ _ (by decide)]; exact hm) (by rw [mst_other _ _ _ (by decide), mst_other _ _ _ (by decide), mst_other _ _ _ (by decide), mst_other _ _ _ (by decide)]; exact hf) (by rw [mst_other _ _ _ (by decide), mst_other _ _ _ (by decide), mst_other _ _ _ (by decide), mst_other _ _ _ (by decide)]) (by rw [mst_other _ _ _ (by decide), mst_other _ _ _ (by decide), mst_other _ _ _ (by decide), mst_other _ _ _ (by decide)])))
          · refine ev_bipush 63 (-102) dX8_box_61 (by decide) rfl ?_
            exact ev_iret dX8_box_63 rfl (ps_of (by rw [spBox, if_neg (by rw [c5]; decide), if_pos (by rw [c20, c32, c45, c58]; rfl)]) hR)
  · refine ev_bipush 10 (-101) dX8_box_8 (by decide) rfl ?_
    exact ev_iret dX8_box_10 rfl (ps_of (by rw [spBox, if_pos c5]) hR)
theorem r_colours {M : Mm} {n t : Nat} {sp : List Nat} (g : GS (M 1, n, t, sp)) (hR : RS M (M 1, n, t, sp)) (x p q : Int32) : Ct MSh mX8_colours [.ref 0, .int x, .int p, .int q] M (PS (spCol (M 1) n t sp x p q)) := by
  have hn0 : 0 < n := g.1.1.1
  have hn : n ≤ 24 := g.1.1.2
  have ht : TR (M 1) n := g.1.2.1
  have hlab : ∀ a, a < n → labOK (M 1) n a := g.1.2.2.1
  have hpl : ∀ y, y < n → plOK (M 1) y := g.1.2.2.2.1
  have hco : ∀ a, a < n → colOK (M 1) a := g.1.2.2.2.2.1
  have h01 : ∀ x, x < n → h01 (M 1) x := g.1.2.2.2.2.2.1
  have ho : opsOK (M 1) n := g.1.2.2.2.2.2.2.1
  have hz : ∀ j, n * 18 ≤ j → M 1 j = 0 := g.1.2.2.2.2.2.2.2
  have h6 : (dsF (M 1) n n).length ≤ 6 := g.2.1
  have ht2 : t ≤ n := g.2.2.1
  have hfs : ∀ a, t = a + 1 → shwn (M 1) a = true := g.2.2.2.1
  have hnd : sp.Nodup := g.2.2.2.2.1
  have hsb : ∀ y ∈ sp, y < 24 := g.2.2.2.2.2
  have hm : M 0 0 = nI n := hR.2.1
  have hf : M 0 2 = pm t := hR.2.2.1
  have hsp : rowAt M 2 0 3 sp := hR.2.2.2
  show Ev _ _ 0 [.ref 0, .int x, .int p, .int q] [] M _
  refine ev_aload_n 1 dX8_colours_0 rfl rfl ?_
  refine ev_iload_n 2 dX8_colours_1 rfl rfl ?_
  refine ev_cV1I _ M 5 dX8_colours_2 mlX8_68 moX8_isPart rfl imX8_isPart ⟨_, _, rfl, rfl, rfl⟩ (Nat.le_of_ble_eq_true rfl) (Nat.le_of_ble_eq_true rfl) rfl (s_X8_isPart hn0 hn hm x) ?_
  refine ev_if_neB 8 11 dX8_colours_5 (by decide) rfl (fun c5 => ?_) (fun c5 => ?_)
  · obtain ⟨a, ha, rfl⟩ := inB_of c5 (by omega)
    refine ev_iload_n 12 dX8_colours_11 rfl rfl ?_
    refine ev_i2l 13 dX8_colours_12 rfl ?_
    refine ev_lconst 14 (lN 0) dX8_colours_13 rfl rfl ?_
    refine ev_ldc2 17 (lN 16777215) dX8_colours_14 kX8_123 rfl ?_
    refine ev_cS3I (bI (inB p 16777216)) M 20 dX8_colours_17 mlX8_64 moX8_in rfl smX8_in (Nat.le_of_ble_eq_true rfl) (Nat.le_of_ble_eq_true rfl) rfl (by have z := s_in (Sh := MSh) (M := M) (p).toInt64 (lN 0) (lN 16777215); rwa [in_eq p (by omega)] at z) ?_
    refine ev_if_eqB 23 35 dX8_colours_20 (by decide) rfl (fun c20 => ?_) (fun c20 => ?_)
    · refine ev_bipush 37 (-102) dX8_colours_35 (by decide) rfl ?_
      exact ev_iret dX8_colours_37 rfl (ps_of (by rw [spCol, if_neg (by rw [c5]; decide), if_pos (by rw [c20]; rfl)]) hR)
    · refine ev_iload_n 24 dX8_colours_23 rfl rfl ?_
      refine ev_i2l 25 dX8_colours_24 rfl ?_
      refine ev_lconst 26 (lN 0) dX8_colours_25 rfl rfl ?_
      refine ev_ldc2 29 (lN 16777215) dX8_colours_26 kX8_123 rfl ?_
      refine ev_cS3I (bI (inB q 16777216)) M 32 dX8_colours_29 mlX8_64 moX8_in rfl smX8_in (Nat.le_of_ble_eq_true rfl) (Nat.le_of_ble_eq_true rfl) rfl (by have z := s_in (Sh := MSh) (M := M) (q).toInt64 (lN 0) (lN 16777215); rwa [in_eq q (by omega)] at z) ?_
      refine ev_if_neB 35 38 dX8_colours_32 (by decide) rfl (fun c32 => ?_) (fun c32 => ?_)
      · obtain ⟨va, hva, rfl⟩ := inB_of c20 (by omega)
        obtain ⟨vb, hvb, rfl⟩ := inB_of c32 (by omega)
        refine ev_aload_n 39 dX8_colours_38 rfl rfl ?_
        refine ev_iload_n 40 dX8_colours_39 rfl rfl ?_
        refine ev_bipush 42 (nI 16) dX8_colours_40 (by decide) rfl ?_
        refine ev_iload_n 43 dX8_colours_42 rfl rfl ?_
        refine ev_cV3V _ 46 dX8_colours_43 mlX8_60 moX8_put rfl imX8_put ⟨_, _, rfl, rfl, rfl⟩ (Nat.le_of_ble_eq_true rfl) (Nat.le_of_ble_eq_true rfl) rfl (s_X8_put (a := a) (b := 16) (by omega) (by omega)) ?_
        refine ev_aload_n 47 dX8_colours_46 rfl rfl ?_
        refine ev_iload_n 48 dX8_colours_47 rfl rfl ?_
        refine ev_bipush 50 (nI 17) dX8_colours_48 (by decide) rfl ?_
        refine ev_iload_n 51 dX8_colours_50 rfl rfl ?_
        refine ev_cV3V _ 54 dX8_colours_51 mlX8_60 moX8_put rfl imX8_put ⟨_, _, rfl, rfl, rfl⟩ (Nat.le_of_ble_eq_true rfl) (Nat.le_of_ble_eq_true rfl) rfl (s_X8_put (a := a) (b := 17) (by omega) (by omega)) ?_
        refine ev_iload_n 55 dX8_colours_54 rfl rfl ?_
        refine ev_iload_n 56 dX8_colours_55 rfl rfl ?_
        refine ev_cS2I _ _ 59 dX8_colours_56 mlX8_125 moX8_contrastOf rfl smX8_contrastOf (Nat.le_of_ble_eq_true rfl) (Nat.le_of_ble_eq_true rfl) rfl (s_X8_contrastOf hva hvb) ?_
        exact ev_iret dX8_colours_59 rfl (ps_of (by rw [spCol, if_neg (by rw [c5]; decide), if_neg (by rw [c20, c32]; decide), nI_clamp (show a < 2 ^ 31 by omega), nI_clamp (show va < 2 ^ 31 by omega), nI_clamp (show vb < 2 ^ 31 by omega)]) (rs_mk hsp (by rw [mst_same, mst_same]) (by rw [mst_other _ _ _ (by decide), mst_other _ _ _ (by decide)]; exact hm) (by rw [mst_other _ _ _ (by decide), mst_other _ _ _ (by decide)]; exact hf) (by rw [mst_other _ _ _ (by decide), mst_other _ _ _ (by decide)]) (by rw [mst_other _ _ _ (by decide), mst_other _ _ _ (by decide)])))
      · refine ev_bipush 37 (-102) dX8_colours_35 (by decide) rfl ?_
        exact ev_iret dX8_colours_37 rfl (ps_of (by rw [spCol, if_neg (by rw [c5]; decide), if_pos (by rw [c20, c32]; rfl)]) hR)
  · refine ev_bipush 10 (-101) dX8_colours_8 (by decide) rfl ?_
    exact ev_iret dX8_colours_10 rfl (ps_of (by rw [spCol, if_pos c5]) hR)
theorem r_contrast {M : Mm} {n t : Nat} {sp : List Nat} (g : GS (M 1, n, t, sp)) (hR : RS M (M 1, n, t, sp)) (x : Int32) : Ct MSh mX8_contrast [.ref 0, .int x] M (PS (ctF (M 1) n x, (M 1, n, t, sp))) := by
  have hn0 : 0 < n := g.1.1.1
  have hn : n ≤ 24 := g.1.1.2
  have ht : TR (M 1) n := g.1.2.1
  have hlab : ∀ a, a < n → labOK (M 1) n a := g.1.2.2.1
  have hpl : ∀ y, y < n → plOK (M 1) y := g.1.2.2.2.1
  have hco : ∀ a, a < n → colOK (M 1) a := g.1.2.2.2.2.1
  have h01 : ∀ x, x < n → h01 (M 1) x := g.1.2.2.2.2.2.1
  have ho : opsOK (M 1) n := g.1.2.2.2.2.2.2.1
  have hz : ∀ j, n * 18 ≤ j → M 1 j = 0 := g.1.2.2.2.2.2.2.2
  have h6 : (dsF (M 1) n n).length ≤ 6 := g.2.1
  have ht2 : t ≤ n := g.2.2.1
  have hfs : ∀ a, t = a + 1 → shwn (M 1) a = true := g.2.2.2.1
  have hnd : sp.Nodup := g.2.2.2.2.1
  have hsb : ∀ y ∈ sp, y < 24 := g.2.2.2.2.2
  have hm : M 0 0 = nI n := hR.2.1
  have hf : M 0 2 = pm t := hR.2.2.1
  have hsp : rowAt M 2 0 3 sp := hR.2.2.2
  exact Ev.mono (s_X8_contrast hn0 hn hm hco x) (fun r M2 z => ⟨z.1, by rw [z.2]; exact hR⟩)
theorem r_name {M : Mm} {n t : Nat} {sp : List Nat} (g : GS (M 1, n, t, sp)) (hR : RS M (M 1, n, t, sp)) (x : Int32) : Ct MSh mX8_name [.ref 0, .int x] M (PS (spName (M 1) n x, (M 1, n, t, sp))) := by
  have hn0 : 0 < n := g.1.1.1
  have hn : n ≤ 24 := g.1.1.2
  have ht : TR (M 1) n := g.1.2.1
  have hlab : ∀ a, a < n → labOK (M 1) n a := g.1.2.2.1
  have hpl : ∀ y, y < n → plOK (M 1) y := g.1.2.2.2.1
  have hco : ∀ a, a < n → colOK (M 1) a := g.1.2.2.2.2.1
  have h01 : ∀ x, x < n → h01 (M 1) x := g.1.2.2.2.2.2.1
  have ho : opsOK (M 1) n := g.1.2.2.2.2.2.2.1
  have hz : ∀ j, n * 18 ≤ j → M 1 j = 0 := g.1.2.2.2.2.2.2.2
  have h6 : (dsF (M 1) n n).length ≤ 6 := g.2.1
  have ht2 : t ≤ n := g.2.2.1
  have hfs : ∀ a, t = a + 1 → shwn (M 1) a = true := g.2.2.2.1
  have hnd : sp.Nodup := g.2.2.2.2.1
  have hsb : ∀ y ∈ sp, y < 24 := g.2.2.2.2.2
  have hm : M 0 0 = nI n := hR.2.1
  have hf : M 0 2 = pm t := hR.2.2.1
  have hsp : rowAt M 2 0 3 sp := hR.2.2.2
  show Ev _ _ 0 [.ref 0, .int x] [] M _
  refine ev_aload_n 1 dX8_name_0 rfl rfl ?_
  refine ev_iload_n 2 dX8_name_1 rfl rfl ?_
  refine ev_cV1I _ M 5 dX8_name_2 mlX8_68 moX8_isPart rfl imX8_isPart ⟨_, _, rfl, rfl, rfl⟩ (Nat.le_of_ble_eq_true rfl) (Nat.le_of_ble_eq_true rfl) rfl (s_X8_isPart hn0 hn hm x) ?_
  refine ev_if_neB 8 11 dX8_name_5 (by decide) rfl (fun c5 => ?_) (fun c5 => ?_)
  · obtain ⟨a, ha, rfl⟩ := inB_of c5 (by omega)
    refine ev_aload_n 12 dX8_name_11 rfl rfl ?_
    refine ev_iload_n 13 dX8_name_12 rfl rfl ?_
    refine ev_cV1 16 dX8_name_13 mlX8_138 moX8_findName rfl imX8_findName ⟨_, _, rfl, rfl, rfl⟩ (Nat.le_of_ble_eq_true rfl) (Nat.le_of_ble_eq_true rfl) rfl (s_X8_findName (M := M) (n := n) (a := a) ht hn0 hn hm (by omega) (hlab a ha)) ?_
    rintro r M2 ⟨rfl, h2⟩
    have hR2 : RS M2 (M 1, n, t, sp) := rs_mk hsp (h2.1.1 1 (by decide) (by decide) (by decide) (by decide)) (by rw [h2.1.1 0 (by decide) (by decide) (by decide) (by decide)]; exact hm) (by rw [h2.1.1 0 (by decide) (by decide) (by decide) (by decide)]; exact hf) (by rw [h2.1.1 0 (by decide) (by decide) (by decide) (by decide)]) (h2.1.1 2 (by decide) (by decide) (by decide) (by decide))
    have hle := h2.2.1
    refine ev_aload_n 17 dX8_name_16 rfl rfl ?_
    refine ev_getR 20 dX8_name_17 rfl flX8_25 rfl rfl ?_
    refine ev_iload_n 21 dX8_name_20 rfl rfl ?_
    refine ev_iaN 22 (nI (nmS (M 1) n a).length) dX8_name_21 rfl (by omega) (by decide) rfl h2.2.2.1 ?_
    exact ev_iret dX8_name_22 rfl (ps_of (by rw [spName, if_neg (by rw [c5]; decide), nI_clamp (show a < 2 ^ 31 by omega)]) hR2)
  · refine ev_bipush 10 (-101) dX8_name_8 (by decide) rfl ?_
    exact ev_iret dX8_name_10 rfl (ps_of (by rw [spName, if_pos c5]) hR)
theorem r_word {M : Mm} {n t : Nat} {sp : List Nat} (g : GS (M 1, n, t, sp)) (hR : RS M (M 1, n, t, sp)) (x k : Int32) : Ct MSh mX8_word [.ref 0, .int x, .int k] M (PS (spWord (M 1) n x k, (M 1, n, t, sp))) := by
  have hn0 : 0 < n := g.1.1.1
  have hn : n ≤ 24 := g.1.1.2
  have ht : TR (M 1) n := g.1.2.1
  have hlab : ∀ a, a < n → labOK (M 1) n a := g.1.2.2.1
  have hpl : ∀ y, y < n → plOK (M 1) y := g.1.2.2.2.1
  have hco : ∀ a, a < n → colOK (M 1) a := g.1.2.2.2.2.1
  have h01 : ∀ x, x < n → h01 (M 1) x := g.1.2.2.2.2.2.1
  have ho : opsOK (M 1) n := g.1.2.2.2.2.2.2.1
  have hz : ∀ j, n * 18 ≤ j → M 1 j = 0 := g.1.2.2.2.2.2.2.2
  have h6 : (dsF (M 1) n n).length ≤ 6 := g.2.1
  have ht2 : t ≤ n := g.2.2.1
  have hfs : ∀ a, t = a + 1 → shwn (M 1) a = true := g.2.2.2.1
  have hnd : sp.Nodup := g.2.2.2.2.1
  have hsb : ∀ y ∈ sp, y < 24 := g.2.2.2.2.2
  have hm : M 0 0 = nI n := hR.2.1
  have hf : M 0 2 = pm t := hR.2.2.1
  have hsp : rowAt M 2 0 3 sp := hR.2.2.2
  show Ev _ _ 0 [.ref 0, .int x, .int k] [] M _
  refine ev_aload_n 1 dX8_word_0 rfl rfl ?_
  refine ev_iload_n 2 dX8_word_1 rfl rfl ?_
  refine ev_cV1I _ M 5 dX8_word_2 mlX8_68 moX8_isPart rfl imX8_isPart ⟨_, _, rfl, rfl, rfl⟩ (Nat.le_of_ble_eq_true rfl) (Nat.le_of_ble_eq_true rfl) rfl (s_X8_isPart hn0 hn hm x) ?_
  refine ev_if_neB 8 10 dX8_word_5 (by decide) rfl (fun c5 => ?_) (fun c5 => ?_)
  · obtain ⟨a, ha, rfl⟩ := inB_of c5 (by omega)
    refine ev_aload_n 11 dX8_word_10 rfl rfl ?_
    refine ev_iload_n 12 dX8_word_11 rfl rfl ?_
    refine ev_cV1 15 dX8_word_12 mlX8_138 moX8_findName rfl imX8_findName ⟨_, _, rfl, rfl, rfl⟩ (Nat.le_of_ble_eq_true rfl) (Nat.le_of_ble_eq_true rfl) rfl (s_X8_findName (M := M) (n := n) (a := a) ht hn0 hn hm (by omega) (hlab a ha)) ?_
    rintro r M2 ⟨rfl, h2⟩
    have hR2 : RS M2 (M 1, n, t, sp) := rs_mk hsp (h2.1.1 1 (by decide) (by decide) (by decide) (by decide)) (by rw [h2.1.1 0 (by decide) (by decide) (by decide) (by decide)]; exact hm) (by rw [h2.1.1 0 (by decide) (by decide) (by decide) (by decide)]; exact hf) (by rw [h2.1.1 0 (by decide) (by decide) (by decide) (by decide)]) (h2.1.1 2 (by decide) (by decide) (by decide) (by decide))
    have hle := h2.2.1
    refine ev_iload_n 16 dX8_word_15 rfl rfl ?_
    refine ev_i2l 17 dX8_word_16 rfl ?_
    refine ev_lconst 18 (lN 0) dX8_word_17 rfl rfl ?_
    refine ev_aload_n 19 dX8_word_18 rfl rfl ?_
    refine ev_getR 22 dX8_word_19 rfl flX8_25 rfl rfl ?_
    refine ev_iload_n 23 dX8_word_22 rfl rfl ?_
    refine ev_iaN 24 (nI (nmS (M 1) n a).length) dX8_word_23 rfl (by omega) (by decide) rfl h2.2.2.1 ?_
    refine ev_iconst 25 (nI 1) dX8_word_24 (by decide) rfl ?_
    refine ev_isub 26 dX8_word_25 rfl ?_
    refine ev_eqI (show nI (nmS (M 1) n a).length - nI 1 = pm (nmS (M 1) n a).length from rfl) ?_
    refine ev_i2l 27 dX8_word_26 rfl ?_
    refine ev_cS3I (bI (inB k (nmS (M 1) n a).length)) M2 30 dX8_word_27 mlX8_64 moX8_in rfl smX8_in (Nat.le_of_ble_eq_true rfl) (Nat.le_of_ble_eq_true rfl) rfl (by have z := s_in (Sh := MSh) (M := M2) (k).toInt64 (lN 0) (pm (nmS (M 1) n a).length).toInt64; rwa [in_pm k (by omega)] at z) ?_
    refine ev_if_eqB 33 47 dX8_word_30 (by decide) rfl (fun c30 => ?_) (fun c30 => ?_)
    · refine ev_iconst 48 (nI 0) dX8_word_47 (by decide) rfl ?_
      exact ev_iret dX8_word_48 rfl (ps_of (by rw [spWord, if_neg (by rw [c5]; decide), nI_clamp (show a < 2 ^ 31 by omega), wdF, if_neg (by rw [c30]; decide)]; rfl) hR2)
    · obtain ⟨j, hj, rfl⟩ := inB_of c30 (by omega)
      refine ev_aload_n 34 dX8_word_33 rfl rfl ?_
      refine ev_getR 37 dX8_word_34 rfl flX8_22 rfl rfl ?_
      refine ev_bipush 39 (nI 8) dX8_word_37 (by decide) rfl ?_
      refine ev_iload_n 40 dX8_word_39 rfl rfl ?_
      refine ev_imulN 41 dX8_word_40 rfl ?_
      refine ev_iload_n 42 dX8_word_41 rfl rfl ?_
      refine ev_iaddN 43 dX8_word_42 rfl ?_
      refine ev_iaN 44 ((nmS (M 1) n a).getD j 0) dX8_word_43 rfl (by omega) (by decide) rfl (by rw [Nat.mul_comm]; exact h2.2.2.2 j hj) ?_
      refine ev_goto 48 dX8_word_44 (by decide) ?_
      exact ev_iret dX8_word_48 rfl (ps_of (by rw [spWord, if_neg (by rw [c5]; decide), nI_clamp (show a < 2 ^ 31 by omega), wdF, if_pos c30, nI_clamp (show j < 2 ^ 31 by omega)]) hR2)
  · refine ev_iconst 9 (nI 0) dX8_word_8 (by decide) rfl ?_
    exact ev_iret dX8_word_9 rfl (ps_of (by rw [spWord, if_pos c5]) hR)
theorem r_said {M : Mm} {n t : Nat} {sp : List Nat} (g : GS (M 1, n, t, sp)) (hR : RS M (M 1, n, t, sp)) (k : Int32) : Ct MSh mX8_said [.ref 0, .int k] M (PS (rowF (saidF (M 1) n) k, (M 1, n, t, sp))) := by
  have hn0 : 0 < n := g.1.1.1
  have hn : n ≤ 24 := g.1.1.2
  have ht : TR (M 1) n := g.1.2.1
  have hlab : ∀ a, a < n → labOK (M 1) n a := g.1.2.2.1
  have hpl : ∀ y, y < n → plOK (M 1) y := g.1.2.2.2.1
  have hco : ∀ a, a < n → colOK (M 1) a := g.1.2.2.2.2.1
  have h01 : ∀ x, x < n → h01 (M 1) x := g.1.2.2.2.2.2.1
  have ho : opsOK (M 1) n := g.1.2.2.2.2.2.2.1
  have hz : ∀ j, n * 18 ≤ j → M 1 j = 0 := g.1.2.2.2.2.2.2.2
  have h6 : (dsF (M 1) n n).length ≤ 6 := g.2.1
  have ht2 : t ≤ n := g.2.2.1
  have hfs : ∀ a, t = a + 1 → shwn (M 1) a = true := g.2.2.2.1
  have hnd : sp.Nodup := g.2.2.2.2.1
  have hsb : ∀ y ∈ sp, y < 24 := g.2.2.2.2.2
  have hm : M 0 0 = nI n := hR.2.1
  have hf : M 0 2 = pm t := hR.2.2.1
  have hsp : rowAt M 2 0 3 sp := hR.2.2.2
  show Ev _ _ 0 [.ref 0, .int k] [] M _
  refine ev_aload_n 1 dX8_said_0 rfl rfl ?_
  refine ev_cV0 4 dX8_said_1 mlX8_144 moX8_findSaid rfl imX8_findSaid ⟨_, _, rfl, rfl, rfl⟩ (Nat.le_of_ble_eq_true rfl) (Nat.le_of_ble_eq_true rfl) rfl (s_X8_findSaid ht hn0 hn hm) ?_
  rintro r M2 ⟨rfl, h2, h3⟩
  have hR2 : RS M2 (M 1, n, t, sp) := rs_mk hsp h2.e1 (by rw [h2.2 0 (by decide)]; exact hm) (by rw [h2.2 2 (by decide)]; exact hf) (h2.2 3 (by decide)) (h2.1 2 (by decide) (by decide) (by decide) (by decide))
  have hle := h3.2.1
  refine ev_iload_n 5 dX8_said_4 rfl rfl ?_
  refine ev_i2l 6 dX8_said_5 rfl ?_
  refine ev_lconst 7 (lN 0) dX8_said_6 rfl rfl ?_
  refine ev_aload_n 8 dX8_said_7 rfl rfl ?_
  refine ev_getIv 11 (nI (saidF (M 1) n).length) dX8_said_8 rfl flX8_141 rfl rfl h3.1 ?_
  refine ev_iconst 12 (nI 1) dX8_said_11 (by decide) rfl ?_
  refine ev_isub 13 dX8_said_12 rfl ?_
  refine ev_eqI (show nI (saidF (M 1) n).length - nI 1 = pm (saidF (M 1) n).length from rfl) ?_
  refine ev_i2l 14 dX8_said_13 rfl ?_
  refine ev_cS3I (bI (inB k (saidF (M 1) n).length)) M2 17 dX8_said_14 mlX8_64 moX8_in rfl smX8_in (Nat.le_of_ble_eq_true rfl) (Nat.le_of_ble_eq_true rfl) rfl (by have z := s_in (Sh := MSh) (M := M2) (k).toInt64 (lN 0) (pm (saidF (M 1) n).length).toInt64; rwa [in_pm k (by omega)] at z) ?_
  refine ev_if_eqB 20 29 dX8_said_17 (by decide) rfl (fun c17 => ?_) (fun c17 => ?_)
  · refine ev_iconst 30 (-1) dX8_said_29 (by decide) rfl ?_
    exact ev_iret dX8_said_30 rfl (ps_of (by rw [rowF, if_neg (by rw [c17]; decide)]) hR2)
  · obtain ⟨j, hj, rfl⟩ := inB_of c17 (by omega)
    refine ev_aload_n 21 dX8_said_20 rfl rfl ?_
    refine ev_getR 24 dX8_said_21 rfl flX8_28 rfl rfl ?_
    refine ev_iload_n 25 dX8_said_24 rfl rfl ?_
    refine ev_iaN 26 (nI (nth (saidF (M 1) n) j)) dX8_said_25 rfl (by omega) (by decide) rfl (h3.2.2 j hj) ?_
    refine ev_goto 30 dX8_said_26 (by decide) ?_
    exact ev_iret dX8_said_30 rfl (ps_of (by rw [rowF, if_pos c17, nI_clamp (show j < 2 ^ 31 by omega)]) hR2)
theorem r_stop {M : Mm} {n t : Nat} {sp : List Nat} (g : GS (M 1, n, t, sp)) (hR : RS M (M 1, n, t, sp)) (k : Int32) : Ct MSh mX8_stop [.ref 0, .int k] M (PS (rowF (stpL (M 1) none (ordF (M 1) n)) k, (M 1, n, t, sp))) := by
  have hn0 : 0 < n := g.1.1.1
  have hn : n ≤ 24 := g.1.1.2
  have ht : TR (M 1) n := g.1.2.1
  have hlab : ∀ a, a < n → labOK (M 1) n a := g.1.2.2.1
  have hpl : ∀ y, y < n → plOK (M 1) y := g.1.2.2.2.1
  have hco : ∀ a, a < n → colOK (M 1) a := g.1.2.2.2.2.1
  have h01 : ∀ x, x < n → h01 (M 1) x := g.1.2.2.2.2.2.1
  have ho : opsOK (M 1) n := g.1.2.2.2.2.2.2.1
  have hz : ∀ j, n * 18 ≤ j → M 1 j = 0 := g.1.2.2.2.2.2.2.2
  have h6 : (dsF (M 1) n n).length ≤ 6 := g.2.1
  have ht2 : t ≤ n := g.2.2.1
  have hfs : ∀ a, t = a + 1 → shwn (M 1) a = true := g.2.2.2.1
  have hnd : sp.Nodup := g.2.2.2.2.1
  have hsb : ∀ y ∈ sp, y < 24 := g.2.2.2.2.2
  have hm : M 0 0 = nI n := hR.2.1
  have hf : M 0 2 = pm t := hR.2.2.1
  have hsp : rowAt M 2 0 3 sp := hR.2.2.2
  show Ev _ _ 0 [.ref 0, .int k] [] M _
  refine ev_aload_n 1 dX8_stop_0 rfl rfl ?_
  refine ev_iconst 2 (-1) dX8_stop_1 (by decide) rfl ?_
  refine ev_cV1 5 dX8_stop_2 mlX8_162 moX8_findStops rfl imX8_findStops ⟨_, _, rfl, rfl, rfl⟩ (Nat.le_of_ble_eq_true rfl) (Nat.le_of_ble_eq_true rfl) rfl (s_X8_findStops ht hn0 hn hm hpl none (fun t e => by cases e)) ?_
  rintro r M2 ⟨rfl, h2, h3⟩
  have hR2 : RS M2 (M 1, n, t, sp) := rs_mk hsp h2.e1 (by rw [h2.2 0 (by decide)]; exact hm) (by rw [h2.2 2 (by decide)]; exact hf) (h2.2 3 (by decide)) (h2.1 2 (by decide) (by decide) (by decide) (by decide))
  have hle := h3.2.1
  refine ev_iload_n 6 dX8_stop_5 rfl rfl ?_
  refine ev_i2l 7 dX8_stop_6 rfl ?_
  refine ev_lconst 8 (lN 0) dX8_stop_7 rfl rfl ?_
  refine ev_aload_n 9 dX8_stop_8 rfl rfl ?_
  refine ev_getIv 12 (nI (stpL (M 1) none (ordF (M 1) n)).length) dX8_stop_9 rfl flX8_156 rfl rfl h3.1 ?_
  refine ev_iconst 13 (nI 1) dX8_stop_12 (by decide) rfl ?_
  refine ev_isub 14 dX8_stop_13 rfl ?_
  refine ev_eqI (show nI (stpL (M 1) none (ordF (M 1) n)).length - nI 1 = pm (stpL (M 1) none (ordF (M 1) n)).length from rfl) ?_
  refine ev_i2l 15 dX8_stop_14 rfl ?_
  refine ev_cS3I (bI (inB k (stpL (M 1) none (ordF (M 1) n)).length)) M2 18 dX8_stop_15 mlX8_64 moX8_in rfl smX8_in (Nat.le_of_ble_eq_true rfl) (Nat.le_of_ble_eq_true rfl) rfl (by have z := s_in (Sh := MSh) (M := M2) (k).toInt64 (lN 0) (pm (stpL (M 1) none (ordF (M 1) n)).length).toInt64; rwa [in_pm k (by omega)] at z) ?_
  refine ev_if_eqB 21 30 dX8_stop_18 (by decide) rfl (fun c18 => ?_) (fun c18 => ?_)
  · refine ev_iconst 31 (-1) dX8_stop_30 (by decide) rfl ?_
    exact ev_iret dX8_stop_31 rfl (ps_of (by rw [rowF, if_neg (by rw [c18]; decide)]) hR2)
  · obtain ⟨j, hj, rfl⟩ := inB_of c18 (by omega)
    refine ev_aload_n 22 dX8_stop_21 rfl rfl ?_
    refine ev_getR 25 dX8_stop_22 rfl flX8_31 rfl rfl ?_
    refine ev_iload_n 26 dX8_stop_25 rfl rfl ?_
    refine ev_iaN 27 (nI (nth (stpL (M 1) none (ordF (M 1) n)) j)) dX8_stop_26 rfl (by omega) (by decide) rfl (h3.2.2 j hj) ?_
    refine ev_goto 31 dX8_stop_27 (by decide) ?_
    exact ev_iret dX8_stop_31 rfl (ps_of (by rw [rowF, if_pos c18, nI_clamp (show j < 2 ^ 31 by omega)]) hR2)
theorem r_pairs {M : Mm} {n t : Nat} {sp : List Nat} (g : GS (M 1, n, t, sp)) (hR : RS M (M 1, n, t, sp)) : Ct MSh mX8_pairs [.ref 0] M (PS (nI (prO (M 1) (saidF (M 1) n) (saidF (M 1) n).length), (M 1, n, t, sp))) := by
  have hn0 : 0 < n := g.1.1.1
  have hn : n ≤ 24 := g.1.1.2
  have ht : TR (M 1) n := g.1.2.1
  have hlab : ∀ a, a < n → labOK (M 1) n a := g.1.2.2.1
  have hpl : ∀ y, y < n → plOK (M 1) y := g.1.2.2.2.1
  have hco : ∀ a, a < n → colOK (M 1) a := g.1.2.2.2.2.1
  have h01 : ∀ x, x < n → h01 (M 1) x := g.1.2.2.2.2.2.1
  have ho : opsOK (M 1) n := g.1.2.2.2.2.2.2.1
  have hz : ∀ j, n * 18 ≤ j → M 1 j = 0 := g.1.2.2.2.2.2.2.2
  have h6 : (dsF (M 1) n n).length ≤ 6 := g.2.1
  have ht2 : t ≤ n := g.2.2.1
  have hfs : ∀ a, t = a + 1 → shwn (M 1) a = true := g.2.2.2.1
  have hnd : sp.Nodup := g.2.2.2.2.1
  have hsb : ∀ y ∈ sp, y < 24 := g.2.2.2.2.2
  have hm : M 0 0 = nI n := hR.2.1
  have hf : M 0 2 = pm t := hR.2.2.1
  have hsp : rowAt M 2 0 3 sp := hR.2.2.2
  exact Ev.mono (s_X8_pairs ht hn0 hn hm) (fun r M2 z => ⟨z.1, rs_mk hsp z.2.e1 (by rw [z.2.2 0 (by decide)]; exact hm) (by rw [z.2.2 2 (by decide)]; exact hf) (z.2.2 3 (by decide)) (z.2.1 2 (by decide) (by decide) (by decide) (by decide))⟩)
theorem r_focus {M : Mm} {n t : Nat} {sp : List Nat} (g : GS (M 1, n, t, sp)) (hR : RS M (M 1, n, t, sp)) : Ct MSh mX8_focus [.ref 0] M (PS (pm t, (M 1, n, t, sp))) := by
  have hn0 : 0 < n := g.1.1.1
  have hn : n ≤ 24 := g.1.1.2
  have ht : TR (M 1) n := g.1.2.1
  have hlab : ∀ a, a < n → labOK (M 1) n a := g.1.2.2.1
  have hpl : ∀ y, y < n → plOK (M 1) y := g.1.2.2.2.1
  have hco : ∀ a, a < n → colOK (M 1) a := g.1.2.2.2.2.1
  have h01 : ∀ x, x < n → h01 (M 1) x := g.1.2.2.2.2.2.1
  have ho : opsOK (M 1) n := g.1.2.2.2.2.2.2.1
  have hz : ∀ j, n * 18 ≤ j → M 1 j = 0 := g.1.2.2.2.2.2.2.2
  have h6 : (dsF (M 1) n n).length ≤ 6 := g.2.1
  have ht2 : t ≤ n := g.2.2.1
  have hfs : ∀ a, t = a + 1 → shwn (M 1) a = true := g.2.2.2.1
  have hnd : sp.Nodup := g.2.2.2.2.1
  have hsb : ∀ y ∈ sp, y < 24 := g.2.2.2.2.2
  have hm : M 0 0 = nI n := hR.2.1
  have hf : M 0 2 = pm t := hR.2.2.1
  have hsp : rowAt M 2 0 3 sp := hR.2.2.2
  show Ev _ _ 0 [.ref 0] [] M _
  refine ev_aload_n 1 dX8_focus_0 rfl rfl ?_
  refine ev_getIv 4 (pm t) dX8_focus_1 rfl flX8_49 rfl rfl hf ?_
  exact ev_iret dX8_focus_4 rfl (ps_of rfl hR)
theorem r_caught {M : Mm} {n t : Nat} {sp : List Nat} (g : GS (M 1, n, t, sp)) (hR : RS M (M 1, n, t, sp)) : Ct MSh mX8_caught [.ref 0] M (PS (optI (trS (M 1) t), (M 1, n, t, sp))) := by
  have hn0 : 0 < n := g.1.1.1
  have hn : n ≤ 24 := g.1.1.2
  have ht : TR (M 1) n := g.1.2.1
  have hlab : ∀ a, a < n → labOK (M 1) n a := g.1.2.2.1
  have hpl : ∀ y, y < n → plOK (M 1) y := g.1.2.2.2.1
  have hco : ∀ a, a < n → colOK (M 1) a := g.1.2.2.2.2.1
  have h01 : ∀ x, x < n → h01 (M 1) x := g.1.2.2.2.2.2.1
  have ho : opsOK (M 1) n := g.1.2.2.2.2.2.2.1
  have hz : ∀ j, n * 18 ≤ j → M 1 j = 0 := g.1.2.2.2.2.2.2.2
  have h6 : (dsF (M 1) n n).length ≤ 6 := g.2.1
  have ht2 : t ≤ n := g.2.2.1
  have hfs : ∀ a, t = a + 1 → shwn (M 1) a = true := g.2.2.2.1
  have hnd : sp.Nodup := g.2.2.2.2.1
  have hsb : ∀ y ∈ sp, y < 24 := g.2.2.2.2.2
  have hm : M 0 0 = nI n := hR.2.1
  have hf : M 0 2 = pm t := hR.2.2.1
  have hsp : rowAt M 2 0 3 sp := hR.2.2.2
  show Ev _ _ 0 [.ref 0] [] M _
  refine ev_aload_n 1 dX8_caught_0 rfl rfl ?_
  refine ev_aload_n 2 dX8_caught_1 rfl rfl ?_
  refine ev_getIv 5 (pm t) dX8_caught_2 rfl flX8_49 rfl rfl hf ?_
  refine ev_cV1I _ M 8 dX8_caught_5 mlX8_165 moX8_trapOf rfl imX8_trapOf ⟨_, _, rfl, rfl, rfl⟩ (Nat.le_of_ble_eq_true rfl) (Nat.le_of_ble_eq_true rfl) rfl (s_X8_trapOf ht hn t ht2) ?_
  exact ev_iret dX8_caught_8 rfl (ps_of rfl hR)
theorem r_leave {M : Mm} {n t : Nat} {sp : List Nat} (g : GS (M 1, n, t, sp)) (hR : RS M (M 1, n, t, sp)) : Ct MSh mX8_leave [.ref 0] M (PS (pm t, (M 1, n, 0, sp))) := by
  have hn0 : 0 < n := g.1.1.1
  have hn : n ≤ 24 := g.1.1.2
  have ht : TR (M 1) n := g.1.2.1
  have hlab : ∀ a, a < n → labOK (M 1) n a := g.1.2.2.1
  have hpl : ∀ y, y < n → plOK (M 1) y := g.1.2.2.2.1
  have hco : ∀ a, a < n → colOK (M 1) a := g.1.2.2.2.2.1
  have h01 : ∀ x, x < n → h01 (M 1) x := g.1.2.2.2.2.2.1
  have ho : opsOK (M 1) n := g.1.2.2.2.2.2.2.1
  have hz : ∀ j, n * 18 ≤ j → M 1 j = 0 := g.1.2.2.2.2.2.2.2
  have h6 : (dsF (M 1) n n).length ≤ 6 := g.2.1
  have ht2 : t ≤ n := g.2.2.1
  have hfs : ∀ a, t = a + 1 → shwn (M 1) a = true := g.2.2.2.1
  have hnd : sp.Nodup := g.2.2.2.2.1
  have hsb : ∀ y ∈ sp, y < 24 := g.2.2.2.2.2
  have hm : M 0 0 = nI n := hR.2.1
  have hf : M 0 2 = pm t := hR.2.2.1
  have hsp : rowAt M 2 0 3 sp := hR.2.2.2
  show Ev _ _ 0 [.ref 0, .null] [] M _
  refine ev_aload_n 1 dX8_leave_0 rfl rfl ?_
  refine ev_getIv 4 (pm t) dX8_leave_1 rfl flX8_49 rfl rfl hf ?_
  refine ev_istore_n 5 _ dX8_leave_4 (by decide) rfl rfl rfl ?_
  refine ev_aload_n 6 dX8_leave_5 rfl rfl ?_
  refine ev_iconst 7 (-1) dX8_leave_6 (by decide) rfl ?_
  refine ev_putI 10 dX8_leave_7 rfl flX8_49 fiX8_2 rfl rfl ?_
  refine ev_iload_n 11 dX8_leave_10 rfl rfl ?_
  exact ev_iret dX8_leave_11 rfl (ps_of rfl (rs_mk hsp (mst_other _ _ _ (by decide)) (by rw [mst_same, upd, if_neg (by decide)]; exact hm) (by rw [mst_same, upd, if_pos rfl, pm_0]) (by rw [mst_same, upd, if_neg (by decide)]) (mst_other _ _ _ (by decide))))
theorem r_hear {M : Mm} {n t : Nat} {sp : List Nat} (g : GS (M 1, n, t, sp)) (hR : RS M (M 1, n, t, sp)) : Ct MSh mX8_hear [.ref 0] M (PS (hdF sp, (M 1, n, t, sp.tail))) := by
  have hn0 : 0 < n := g.1.1.1
  have hn : n ≤ 24 := g.1.1.2
  have ht : TR (M 1) n := g.1.2.1
  have hlab : ∀ a, a < n → labOK (M 1) n a := g.1.2.2.1
  have hpl : ∀ y, y < n → plOK (M 1) y := g.1.2.2.2.1
  have hco : ∀ a, a < n → colOK (M 1) a := g.1.2.2.2.2.1
  have h01 : ∀ x, x < n → h01 (M 1) x := g.1.2.2.2.2.2.1
  have ho : opsOK (M 1) n := g.1.2.2.2.2.2.2.1
  have hz : ∀ j, n * 18 ≤ j → M 1 j = 0 := g.1.2.2.2.2.2.2.2
  have h6 : (dsF (M 1) n n).length ≤ 6 := g.2.1
  have ht2 : t ≤ n := g.2.2.1
  have hfs : ∀ a, t = a + 1 → shwn (M 1) a = true := g.2.2.2.1
  have hnd : sp.Nodup := g.2.2.2.2.1
  have hsb : ∀ y ∈ sp, y < 24 := g.2.2.2.2.2
  have hm : M 0 0 = nI n := hR.2.1
  have hf : M 0 2 = pm t := hR.2.2.1
  have hsp : rowAt M 2 0 3 sp := hR.2.2.2
  exact Ev.mono (s_X8_hear hsp) (fun r M2 z => ⟨z.1, z.2.1.1 1 (by decide) (by decide), by show M2 0 0 = _; rw [z.2.1.2 0 (by decide)]; exact hm, by show M2 0 2 = _; rw [z.2.1.2 2 (by decide)]; exact hf, z.2.2⟩)
theorem r_wrongs {M : Mm} {n t : Nat} {sp : List Nat} (g : GS (M 1, n, t, sp)) (hR : RS M (M 1, n, t, sp)) : Ct MSh mX8_wrongs [.ref 0] M (PS (nI (wrS (M 1) n).length, (M 1, n, t, sp))) := by
  have hn0 : 0 < n := g.1.1.1
  have hn : n ≤ 24 := g.1.1.2
  have ht : TR (M 1) n := g.1.2.1
  have hlab : ∀ a, a < n → labOK (M 1) n a := g.1.2.2.1
  have hpl : ∀ y, y < n → plOK (M 1) y := g.1.2.2.2.1
  have hco : ∀ a, a < n → colOK (M 1) a := g.1.2.2.2.2.1
  have h01 : ∀ x, x < n → h01 (M 1) x := g.1.2.2.2.2.2.1
  have ho : opsOK (M 1) n := g.1.2.2.2.2.2.2.1
  have hz : ∀ j, n * 18 ≤ j → M 1 j = 0 := g.1.2.2.2.2.2.2.2
  have h6 : (dsF (M 1) n n).length ≤ 6 := g.2.1
  have ht2 : t ≤ n := g.2.2.1
  have hfs : ∀ a, t = a + 1 → shwn (M 1) a = true := g.2.2.2.1
  have hnd : sp.Nodup := g.2.2.2.2.1
  have hsb : ∀ y ∈ sp, y < 24 := g.2.2.2.2.2
  have hm : M 0 0 = nI n := hR.2.1
  have hf : M 0 2 = pm t := hR.2.2.1
  have hsp : rowAt M 2 0 3 sp := hR.2.2.2
  show Ev _ _ 0 [.ref 0] [] M _
  refine ev_aload_n 1 dX8_wrongs_0 rfl rfl ?_
  refine ev_cV0 4 dX8_wrongs_1 mlX8_217 moX8_findWrongs rfl imX8_findWrongs ⟨_, _, rfl, rfl, rfl⟩ (Nat.le_of_ble_eq_true rfl) (Nat.le_of_ble_eq_true rfl) rfl (s_X8_findWrongs ht hn0 hn hm ho hco hlab) ?_
  rintro r M2 ⟨rfl, h2, h3⟩
  have hR2 : RS M2 (M 1, n, t, sp) := rs_mk hsp (h2.1 1 (by decide)) (by rw [h2.2 0 (by decide) (by decide)]; exact hm) (by rw [h2.2 2 (by decide) (by decide)]; exact hf) (h2.2 3 (by decide) (by decide)) (h2.1 2 (by decide))
  have hle := h3.2.1
  refine ev_aload_n 5 dX8_wrongs_4 rfl rfl ?_
  refine ev_getIv 8 (nI (wrS (M 1) n).length) dX8_wrongs_5 rfl flX8_211 rfl rfl h3.1 ?_
  exact ev_iret dX8_wrongs_8 rfl (ps_of rfl hR2)
theorem r_wrong {M : Mm} {n t : Nat} {sp : List Nat} (g : GS (M 1, n, t, sp)) (hR : RS M (M 1, n, t, sp)) (k w : Int32) : Ct MSh mX8_wrong [.ref 0, .int k, .int w] M (PS (spWrong (M 1) n k w, (M 1, n, t, sp))) := by
  have hn0 : 0 < n := g.1.1.1
  have hn : n ≤ 24 := g.1.1.2
  have ht : TR (M 1) n := g.1.2.1
  have hlab : ∀ a, a < n → labOK (M 1) n a := g.1.2.2.1
  have hpl : ∀ y, y < n → plOK (M 1) y := g.1.2.2.2.1
  have hco : ∀ a, a < n → colOK (M 1) a := g.1.2.2.2.2.1
  have h01 : ∀ x, x < n → h01 (M 1) x := g.1.2.2.2.2.2.1
  have ho : opsOK (M 1) n := g.1.2.2.2.2.2.2.1
  have hz : ∀ j, n * 18 ≤ j → M 1 j = 0 := g.1.2.2.2.2.2.2.2
  have h6 : (dsF (M 1) n n).length ≤ 6 := g.2.1
  have ht2 : t ≤ n := g.2.2.1
  have hfs : ∀ a, t = a + 1 → shwn (M 1) a = true := g.2.2.2.1
  have hnd : sp.Nodup := g.2.2.2.2.1
  have hsb : ∀ y ∈ sp, y < 24 := g.2.2.2.2.2
  have hm : M 0 0 = nI n := hR.2.1
  have hf : M 0 2 = pm t := hR.2.2.1
  have hsp : rowAt M 2 0 3 sp := hR.2.2.2
  show Ev _ _ 0 [.ref 0, .int k, .int w] [] M _
  refine ev_iload_n 1 dX8_wrong_0 rfl rfl ?_
  refine ev_i2l 2 dX8_wrong_1 rfl ?_
  refine ev_lconst 3 (lN 0) dX8_wrong_2 rfl rfl ?_
  refine ev_lconst 4 (lN 1) dX8_wrong_3 rfl rfl ?_
  refine ev_cS3I (bI (inB w 2)) M 7 dX8_wrong_4 mlX8_64 moX8_in rfl smX8_in (Nat.le_of_ble_eq_true rfl) (Nat.le_of_ble_eq_true rfl) rfl (by have z := s_in (Sh := MSh) (M := M) (w).toInt64 (lN 0) (lN 1); rwa [in_eq w (by omega)] at z) ?_
  refine ev_if_neB 10 13 dX8_wrong_7 (by decide) rfl (fun c7 => ?_) (fun c7 => ?_)
  · refine ev_aload_n 14 dX8_wrong_13 rfl rfl ?_
    refine ev_cV0 17 dX8_wrong_14 mlX8_217 moX8_findWrongs rfl imX8_findWrongs ⟨_, _, rfl, rfl, rfl⟩ (Nat.le_of_ble_eq_true rfl) (Nat.le_of_ble_eq_true rfl) rfl (s_X8_findWrongs ht hn0 hn hm ho hco hlab) ?_
    rintro r M2 ⟨rfl, h2, h3⟩
    have hR2 : RS M2 (M 1, n, t, sp) := rs_mk hsp (h2.1 1 (by decide)) (by rw [h2.2 0 (by decide) (by decide)]; exact hm) (by rw [h2.2 2 (by decide) (by decide)]; exact hf) (h2.2 3 (by decide) (by decide)) (h2.1 2 (by decide))
    have hle := h3.2.1
    refine ev_iload_n 18 dX8_wrong_17 rfl rfl ?_
    refine ev_i2l 19 dX8_wrong_18 rfl ?_
    refine ev_lconst 20 (lN 0) dX8_wrong_19 rfl rfl ?_
    refine ev_aload_n 21 dX8_wrong_20 rfl rfl ?_
    refine ev_getIv 24 (nI (wrS (M 1) n).length) dX8_wrong_21 rfl flX8_211 rfl rfl h3.1 ?_
    refine ev_iconst 25 (nI 1) dX8_wrong_24 (by decide) rfl ?_
    refine ev_isub 26 dX8_wrong_25 rfl ?_
    refine ev_eqI (show nI (wrS (M 1) n).length - nI 1 = pm (wrS (M 1) n).length from rfl) ?_
    refine ev_i2l 27 dX8_wrong_26 rfl ?_
    refine ev_cS3I (bI (inB k (wrS (M 1) n).length)) M2 30 dX8_wrong_27 mlX8_64 moX8_in rfl smX8_in (Nat.le_of_ble_eq_true rfl) (Nat.le_of_ble_eq_true rfl) rfl (by have z := s_in (Sh := MSh) (M := M2) (k).toInt64 (lN 0) (pm (wrS (M 1) n).length).toInt64; rwa [in_pm k (by omega)] at z) ?_
    refine ev_if_neB 33 37 dX8_wrong_30 (by decide) rfl (fun c30 => ?_) (fun c30 => ?_)
    · obtain ⟨j, hj, rfl⟩ := inB_of c30 (by omega)
      refine ev_iload_n 38 dX8_wrong_37 rfl rfl ?_
      refine ev_if_ne 41 50 dX8_wrong_38 (by decide) rfl (fun c38 => ?_) (fun c38 => ?_)
      · refine ev_aload_n 51 dX8_wrong_50 rfl rfl ?_
        refine ev_getR 54 dX8_wrong_51 rfl flX8_46 rfl rfl ?_
        refine ev_iload_n 55 dX8_wrong_54 rfl rfl ?_
        refine ev_iaN 56 (nI (pr2 (wrS (M 1) n) j)) dX8_wrong_55 rfl (by omega) (by decide) rfl (h3.2.2 j hj).2 ?_
        exact ev_iret dX8_wrong_56 rfl (ps_of (by rw [spWrong, if_neg (by rw [c7]; decide), if_neg c38, w2F, if_pos c30, nI_clamp (show j < 2 ^ 31 by omega)]) hR2)
      · refine ev_aload_n 42 dX8_wrong_41 rfl rfl ?_
        refine ev_getR 45 dX8_wrong_42 rfl flX8_43 rfl rfl ?_
        refine ev_iload_n 46 dX8_wrong_45 rfl rfl ?_
        refine ev_iaN 47 (nI (pr1 (wrS (M 1) n) j)) dX8_wrong_46 rfl (by omega) (by decide) rfl (h3.2.2 j hj).1 ?_
        refine ev_goto 56 dX8_wrong_47 (by decide) ?_
        exact ev_iret dX8_wrong_56 rfl (ps_of (by rw [spWrong, if_neg (by rw [c7]; decide), if_pos c38, w1F, if_pos c30, nI_clamp (show j < 2 ^ 31 by omega)]) hR2)
    · refine ev_iconst 34 (-1) dX8_wrong_33 (by decide) rfl ?_
      refine ev_goto 56 dX8_wrong_34 (by decide) ?_
      exact ev_iret dX8_wrong_56 rfl (ps_of (by rw [spWrong, if_neg (by rw [c7]; decide)]; split <;> first | rw [w1F, if_neg (by rw [c30]; decide)] | rw [w2F, if_neg (by rw [c30]; decide)]) hR2)
  · refine ev_bipush 12 (-102) dX8_wrong_10 (by decide) rfl ?_
    exact ev_iret dX8_wrong_12 rfl (ps_of (by rw [spWrong, if_pos c7]) hR)
end
