section
/-! the class's calls (I) -/
def XP (z : Int32 × St) (L : Nat) : Pst := fun r M => r = some (.int z.1) ∧ ∃ L2, L2 ≤ L + 1 ∧ XS M z.2 L2
theorem xp_of {z : Int32 × St} {v : Int32} {s : St} {M : Mm} {L L2 : Nat} (e : z = (v, s)) (hl : L2 ≤ L + 1) (h : XS M s L2) : XP z L (some (.int v)) M := by
  rw [e]
  exact ⟨rfl, L2, hl, h⟩
theorem xp_sm {z : Int32 × St} {v : Int32} {s : St} {M : Mm} {L : Nat} (e : z = (v, s)) (h : XS M s L) : XP z L (some (.int v)) M := xp_of e (Nat.le_succ _) h
theorem mk_of {M M2 : Mm} {h : Nat → Int32} {n : Nat} (m2 : M2 2 = M 2) (m3 : M2 3 = M 3) (m4 : M2 4 = M 4) (mk : MK M h n) : MK M2 h n := by
  unfold MK
  rw [m2, m3, m4]
  exact mk
theorem lk_of {M M2 : Mm} {L : Nat} (e1 : M2 13 = M 13) (e2 : M2 18 = M 18) (h : lk0 M L) : lk0 M2 L := by
  unfold lk0
  rw [e1, e2]
  exact h
theorem xs_fr {M M2 : Mm} {s : St} {L : Nat} (hx : XS M s L) (e : ∀ k, k ∉ FrS → M2 k = M k) : XS M2 s L := by
  obtain ⟨x1, x2, x3, x4, x5, x6, x7, x8⟩ := hx
  exact ⟨(e 1 (by decide)).trans x1, by rw [e 0 (by decide)]; exact x2, x3.of (e 5 (by decide)) (by rw [e 0 (by decide)]), mk_of (e 2 (by decide)) (e 3 (by decide)) (e 4 (by decide)) x4, x5.of (e 12 (by decide)) (by rw [e 11 (by decide)]), x6.of (e 23 (by decide)) (by rw [e 22 (by decide)]), by rw [e 24 (by decide)]; exact x7, lk_of (e 13 (by decide)) (e 18 (by decide)) x8⟩
theorem xs_wk {M M2 : Mm} {s : St} {L : Nat} (hx : XS M s L) (h : wkQ M M2 L) : XS M2 s (L + 1) := by
  obtain ⟨x1, x2, x3, x4, x5, x6, x7, x8⟩ := hx
  have e := h.1
  exact ⟨(e 1 (by decide)).trans x1, by rw [e 0 (by decide)]; exact x2, x3.of (e 5 (by decide)) (by rw [e 0 (by decide)]), mk_of (e 2 (by decide)) (e 3 (by decide)) (e 4 (by decide)) x4, x5.of (e 12 (by decide)) (by rw [e 11 (by decide)]), x6.of (e 23 (by decide)) (by rw [e 22 (by decide)]), by rw [e 24 (by decide)]; exact x7, h.2⟩
theorem xs_upd {M : Mm} {h : Nat → Int32} {n t L : Nat} {sp : List Nat} (hx : XS M (h, n, t, sp) L) {a w : Nat} (v : Int32) (hw : w < 18) (h6 : w ≠ 6) (h10 : w ≠ 10) (h11 : w ≠ 11) : XS (mst M 1 (a * 18 + w) v) (upd h (a * 18 + w) v, n, t, sp) L := by
  obtain ⟨x1, x2, x3, x4, x5, x6, x7, x8⟩ := hx
  have e := ue_upd h (p := a) hw v
  have o : ∀ k, k ≠ 1 → mst M 1 (a * 18 + w) v k = M k := fun k hk => mst_other _ _ _ hk
  refine ⟨?_, by rw [o 0 (by decide)]; exact x2, ?_, ue_mk e h11 h10 (o 2 (by decide)) (o 3 (by decide)) (o 4 (by decide)) x4, ?_, x6.of (o 23 (by decide)) (by rw [o 22 (by decide)]), by rw [o 24 (by decide)]; exact x7, lk_of (o 13 (by decide)) (o 18 (by decide)) x8⟩
  · rw [mst_same]
    show upd (M 1) _ _ = upd h _ _
    rw [show M 1 = h from x1]
  · show rowAt _ 5 0 5 (ordF (upd h (a * 18 + w) v) n)
    rw [ue_ord e h11]
    exact x3.of (o 5 (by decide)) (by rw [o 0 (by decide)])
  · show rowAt _ 12 11 2 (arrF (upd h (a * 18 + w) v) (ordF (upd h (a * 18 + w) v) n))
    rw [ue_ord e h11, ue_arr e h6 h10]
    exact x5.of (o 12 (by decide)) (by rw [o 11 (by decide)])
theorem fAt_row {l F : List Nat} {sh : Int32} (hl : l.filter (bt sh) = F) (k : Int32) (h24 : F.length ≤ 24) : fAt l sh k = rowF F k := by
  rw [fAt, rowF, hl]
  by_cases c : inB k F.length = true
  · obtain ⟨j, hj, rfl⟩ := inB_of c (by omega)
    rw [if_pos c, nI_clamp (by omega), if_neg (by rw [int_lt0, nI_toInt (by omega)]; omega), List.getElem?_eq_getElem hj, nth_get hj]
    rfl
  · rw [if_neg c]
    split
    · rfl
    · rename_i c2
      have z : F.length ≤ k.toNatClampNeg := by
        rw [int_lt0] at c2
        unfold inB at c
        rw [decide_eq_true_eq] at c
        unfold Int32.toNatClampNeg
        omega
      rw [List.getElem?_eq_none z]
      rfl
theorem s_isLength {Sh : Shp} {M : Mm} (v : Int32) : Ct Sh mX7_isLength [.int v] M (RetI (bI (inB v 10001)) M) := by
  show Ev _ _ 0 [.int v] [] M _
  refine ev_iload_n 1 dX7_isLength_0 rfl rfl ?_
  refine ev_if_lt 4 15 dX7_isLength_1 (by decide) rfl (fun c1 => ?_) (fun c1 => ?_)
  · refine ev_iconst 16 (nI 0) dX7_isLength_15 (by decide) rfl ?_
    exact ev_zret dX7_isLength_16 rfl (Or.inl rfl) (⟨by rw [inB_lt c1]; rfl, rfl⟩)
  · refine ev_iload_n 5 dX7_isLength_4 rfl rfl ?_
    refine ev_sipush 8 (nI 10000) dX7_isLength_5 (by decide) rfl ?_
    refine ev_icmp_gt 11 15 dX7_isLength_8 (by decide) rfl (fun c8 => ?_) (fun c8 => ?_)
    · refine ev_iconst 16 (nI 0) dX7_isLength_15 (by decide) rfl ?_
      exact ev_zret dX7_isLength_16 rfl (Or.inl rfl) (⟨by rw [inB_gt (by omega) (c8)]; rfl, rfl⟩)
    · refine ev_iconst 12 (nI 1) dX7_isLength_11 (by decide) rfl ?_
      refine ev_goto 16 dX7_isLength_12 (by decide) ?_
      exact ev_zret dX7_isLength_16 rfl (Or.inr rfl) (⟨by rw [inB_ok (by omega) c1 c8]; rfl, rfl⟩)
theorem s_isColour {Sh : Shp} {M : Mm} (v : Int32) : Ct Sh mX7_isColour [.int v] M (RetI (bI (inB v 16777216)) M) := by
  show Ev _ _ 0 [.int v] [] M _
  refine ev_iload_n 1 dX7_isColour_0 rfl rfl ?_
  refine ev_if_lt 4 14 dX7_isColour_1 (by decide) rfl (fun c1 => ?_) (fun c1 => ?_)
  · refine ev_iconst 15 (nI 0) dX7_isColour_14 (by decide) rfl ?_
    exact ev_zret dX7_isColour_15 rfl (Or.inl rfl) (⟨by rw [inB_lt c1]; rfl, rfl⟩)
  · refine ev_iload_n 5 dX7_isColour_4 rfl rfl ?_
    refine ev_ldc 7 (nI 16777215) dX7_isColour_5 kX7_211 rfl ?_
    refine ev_icmp_gt 10 14 dX7_isColour_7 (by decide) rfl (fun c7 => ?_) (fun c7 => ?_)
    · refine ev_iconst 15 (nI 0) dX7_isColour_14 (by decide) rfl ?_
      exact ev_zret dX7_isColour_15 rfl (Or.inl rfl) (⟨by rw [inB_gt (by omega) (c7)]; rfl, rfl⟩)
    · refine ev_iconst 11 (nI 1) dX7_isColour_10 (by decide) rfl ?_
      refine ev_goto 15 dX7_isColour_11 (by decide) ?_
      exact ev_zret dX7_isColour_15 rfl (Or.inr rfl) (⟨by rw [inB_ok (by omega) c1 c7]; rfl, rfl⟩)
theorem le_ng {x y : Int32} (h : x ≤ y) : ¬ y < x := fun z => by
  rw [fa_le] at h
  rw [fa_lt] at z
  omega
theorem nle_g {x y : Int32} (h : ¬ x ≤ y) : y < x := by
  rw [fa_le] at h
  rw [fa_lt]
  omega
theorem x_part {M : Mm} {n t L : Nat} {sp : List Nat} (g : GS (M 1, n, t, sp)) (hx : XS M (M 1, n, t, sp) L) (x k : Int32) : Ct XSh mX7_part [.ref 24, .int x, .int k] M (XP (spPart (M 1) n t sp x k) L) := by
  have hn0 : 0 < n := g.1.1.1
  have hn : n ≤ 24 := g.1.1.2
  have ht : TR (M 1) n := g.1.2.1
  have hlab : ∀ a, a < n → labOK (M 1) n a := g.1.2.2.1
  have hpl : ∀ y, y < n → plOK (M 1) y := g.1.2.2.2.1
  have hco : ∀ a, a < n → colOK (M 1) a := g.1.2.2.2.2.1
  have h01 : ∀ x, x < n → h01 (M 1) x := g.1.2.2.2.2.2.1
  have ho : opsOK (M 1) n := g.1.2.2.2.2.2.2.1
  have hz : ∀ j, n * 18 ≤ j → M 1 j = 0 := g.1.2.2.2.2.2.2.2
  have h6 : (dsF (M 1) n n).length ≤ 6 := g.2.1
  have ht2 : t ≤ n := g.2.2.1
  have hfs : ∀ a, t = a + 1 → shwn (M 1) a = true := g.2.2.2.1
  have hnd : sp.Nodup := g.2.2.2.2.1
  have hsb : ∀ y ∈ sp, y < 24 := g.2.2.2.2.2
  have hsz : M 0 5 = nI n := hx.2.1
  have hor : rowAt M 5 0 5 (ordF (M 1) n) := hx.2.2.1
  have mk : MK M (M 1) n := hx.2.2.2.1
  have hst : rowAt M 12 11 2 (arrF (M 1) (ordF (M 1) n)) := hx.2.2.2.2.1
  have hsp : rowAt M 23 22 1 sp := hx.2.2.2.2.2.1
  have hf : M 24 7 = pm t := hx.2.2.2.2.2.2.1
  have hlk : lk0 M L := hx.2.2.2.2.2.2.2
  obtain ⟨o1, o2, o3⟩ := ord_facts n hn0 (by omega) ht
  have ob : ∀ x ∈ ordF (M 1) n, x < 24 := fun x hx => by have := o3 x hx; omega
  have ob2 : ∀ x ∈ ordF (M 1) n, x < (ordF (M 1) n).length := fun x hx => by rw [o1]; exact o3 x hx
  have ab : ∀ x ∈ arrF (M 1) (ordF (M 1) n), x < 24 := fun x hx => ob x (arrF_mem.mp hx).1
  have sb : shB (shN M n) (M 1) n := shB_now mk hn
  show Ev _ _ 0 [.ref 24, .int x, .int k, .null] [] M _
  refine ev_aload_n 1 dX7_part_0 rfl rfl ?_
  refine ev_getR 4 dX7_part_1 rfl flX7_10 rfl rfl ?_
  refine ev_iload_n 5 dX7_part_4 rfl rfl ?_
  refine ev_cV1I _ M 8 dX7_part_5 mlX7_68 moX2_has rfl imX2_has ⟨_, _, rfl, rfl, rfl⟩ (Nat.le_of_ble_eq_true rfl) (Nat.le_of_ble_eq_true rfl) rfl (s_X2_has hn hsz x) ?_
  refine ev_if_neB 11 14 dX7_part_8 (by decide) rfl (fun c8 => ?_) (fun c8 => ?_)
  · refine ev_iload_n 15 dX7_part_14 rfl rfl ?_
    refine ev_if_lt 18 24 dX7_part_15 (by decide) rfl (fun c15 => ?_) (fun c15 => ?_)
    · refine ev_bipush 26 (-102) dX7_part_24 (by decide) rfl ?_
      exact ev_iret dX7_part_26 rfl (xp_sm (by rw [spPart, if_neg (by rw [c8]; decide), if_pos (inB_lt c15)]) hx)
    · refine ev_iload_n 19 dX7_part_18 rfl rfl ?_
      refine ev_bipush 21 (nI 6) dX7_part_19 (by decide) rfl ?_
      refine ev_icmp_le 24 27 dX7_part_21 (by decide) rfl (fun c21 => ?_) (fun c21 => ?_)
      · obtain ⟨a, ha, rfl⟩ := inB_of c8 (by omega)
        obtain ⟨kk, hkk, rfl⟩ := inB_of (inB_ok (k := 6) (by omega) c15 (le_ng c21)) (by omega)
        refine ev_aload_n 28 dX7_part_27 rfl rfl ?_
        refine ev_getR 31 dX7_part_28 rfl flX7_10 rfl rfl ?_
        refine ev_cV0I _ M 34 dX7_part_31 mlX7_72 moX2_isFull rfl imX2_isFull ⟨_, _, rfl, rfl, rfl⟩ (Nat.le_of_ble_eq_true rfl) (Nat.le_of_ble_eq_true rfl) rfl (s_X2_isFull hn hsz) ?_
        refine ev_if_eqB 37 40 dX7_part_34 (by decide) rfl (fun c34 => ?_) (fun c34 => ?_)
        · have h24 : n < 24 := by
            have z := of_decide_eq_false c34
            omega
          obtain ⟨kp, hk, eo⟩ := ord_part (k := kk) ht hn0 h24 ha mk
          refine ev_aload_n 41 dX7_part_40 rfl rfl ?_
          refine ev_getR 44 dX7_part_41 rfl flX7_10 rfl rfl ?_
          refine ev_iload_n 45 dX7_part_44 rfl rfl ?_
          refine ev_iload_n 46 dX7_part_45 rfl rfl ?_
          refine ev_cV2 49 dX7_part_46 mlX7_76 moX2_add rfl imX2_add ⟨_, _, rfl, rfl, rfl⟩ (Nat.le_of_ble_eq_true rfl) (Nat.le_of_ble_eq_true rfl) rfl (s_X2_add (M := M) (k := kk) hor ob (by rw [o1]; omega) hkk hk) ?_
          rintro r M2 ⟨rfl, ad⟩
          have g2 := pf_g0 (k := kk) g.1 h24 ha
          have mk2 := mk_part ht hn0 h24 ha hkk o1 mk ad
          obtain ⟨a0, a1, -, -, -, a5, a6⟩ := ad
          rw [o1] at a0 a1 a5
          have e1 : M2 1 = pfH (M 1) n (nI a) kk := a1
          obtain ⟨p1, -, p3⟩ := ord_facts (h := pfH (M 1) n (nI a) kk) (n + 1) (by omega) (by omega) g2.2.1
          have hor2 : rowAt M2 5 0 5 (ordF (pfH (M 1) n (nI a) kk) (n + 1)) := by
            refine ⟨by rw [p1]; exact a0, by omega, fun i hi => ?_⟩
            rw [eo]
            exact a5 i (by omega)
          rw [o1]
          refine ev_istore_n 50 _ dX7_part_49 (by decide) rfl rfl rfl ?_
          refine ev_aload_n 51 dX7_part_50 rfl rfl ?_
          refine ev_getR 54 dX7_part_51 rfl flX7_35 rfl rfl ?_
          refine ev_cV0 57 dX7_part_54 mlX7_80 moX5_arrange rfl imX5_arrange ⟨_, _, rfl, rfl, rfl⟩ (Nat.le_of_ble_eq_true rfl) (Nat.le_of_ble_eq_true rfl) rfl (s_X5_arrange (M := M2) (ol := ordF (pfH (M 1) n (nI a) kk) (n + 1)) hor2 (fun x hx => by have := p3 x hx; omega) (fun x hx => by rw [e1]; exact g2.2.2.2.1 x (p3 x hx))) ?_
          rintro r M3 ⟨rfl, s3, r3⟩
          rw [e1] at r3
          refine ev_iload_n 58 dX7_part_57 rfl rfl ?_
          exact ev_iret dX7_part_58 rfl (xp_sm (by rw [spPart, if_neg (by rw [c8]; decide), if_neg (by rw [inB_nI (by omega), decide_eq_true hkk]; decide), if_neg (by omega), nI_clamp (show kk < 2 ^ 31 by omega)]) ⟨(s3 1 (by decide) (by decide)).trans e1, by show M3 0 5 = _; rw [s3 0 (by decide) (by decide)]; exact a0, hor2.of (s3 5 (by decide) (by decide)) (by rw [s3 0 (by decide) (by decide)]), mk_of (s3 2 (by decide) (by decide)) (s3 3 (by decide) (by decide)) (s3 4 (by decide) (by decide)) mk2, r3, hsp.of (M' := M3) (by rw [s3 23 (by decide) (by decide), a6 23 (by decide)]) (by rw [s3 22 (by decide) (by decide), a6 22 (by decide)]), by show M3 24 7 = _; rw [s3 24 (by decide) (by decide), a6 24 (by decide)]; exact hf, lk_of (M := M) (M2 := M3) (by rw [s3 13 (by decide) (by decide), a6 13 (by decide)]) (by rw [s3 18 (by decide) (by decide), a6 18 (by decide)]) hlk⟩)
        · refine ev_bipush 39 (-104) dX7_part_37 (by decide) rfl ?_
          exact ev_iret dX7_part_39 rfl (xp_sm (by rw [spPart, if_neg (by rw [c8]; decide), if_neg (by rw [inB_nI (by omega), decide_eq_true hkk]; decide), if_pos (by have z := of_decide_eq_true c34; omega)]) hx)
      · refine ev_bipush 26 (-102) dX7_part_24 (by decide) rfl ?_
        exact ev_iret dX7_part_26 rfl (xp_sm (by rw [spPart, if_neg (by rw [c8]; decide), if_pos (inB_gt (k := 6) (by omega) (nle_g c21))]) hx)
  · refine ev_bipush 13 (-101) dX7_part_11 (by decide) rfl ?_
    exact ev_iret dX7_part_13 rfl (xp_sm (by rw [spPart, if_pos c8]) hx)
theorem x_told {M : Mm} {n t L : Nat} {sp : List Nat} (g : GS (M 1, n, t, sp)) (hx : XS M (M 1, n, t, sp) L) (x w : Int32) : Ct XSh mX7_told [.ref 24, .int x, .int w] M (XP (spTold (M 1) n x w, (M 1, n, t, sp)) L) := by
  have hn0 : 0 < n := g.1.1.1
  have hn : n ≤ 24 := g.1.1.2
  have ht : TR (M 1) n := g.1.2.1
  have hlab : ∀ a, a < n → labOK (M 1) n a := g.1.2.2.1
  have hpl : ∀ y, y < n → plOK (M 1) y := g.1.2.2.2.1
  have hco : ∀ a, a < n → colOK (M 1) a := g.1.2.2.2.2.1
  have h01 : ∀ x, x < n → h01 (M 1) x := g.1.2.2.2.2.2.1
  have ho : opsOK (M 1) n := g.1.2.2.2.2.2.2.1
  have hz : ∀ j, n * 18 ≤ j → M 1 j = 0 := g.1.2.2.2.2.2.2.2
  have h6 : (dsF (M 1) n n).length ≤ 6 := g.2.1
  have ht2 : t ≤ n := g.2.2.1
  have hfs : ∀ a, t = a + 1 → shwn (M 1) a = true := g.2.2.2.1
  have hnd : sp.Nodup := g.2.2.2.2.1
  have hsb : ∀ y ∈ sp, y < 24 := g.2.2.2.2.2
  have hsz : M 0 5 = nI n := hx.2.1
  have hor : rowAt M 5 0 5 (ordF (M 1) n) := hx.2.2.1
  have mk : MK M (M 1) n := hx.2.2.2.1
  have hst : rowAt M 12 11 2 (arrF (M 1) (ordF (M 1) n)) := hx.2.2.2.2.1
  have hsp : rowAt M 23 22 1 sp := hx.2.2.2.2.2.1
  have hf : M 24 7 = pm t := hx.2.2.2.2.2.2.1
  have hlk : lk0 M L := hx.2.2.2.2.2.2.2
  obtain ⟨o1, o2, o3⟩ := ord_facts n hn0 (by omega) ht
  have ob : ∀ x ∈ ordF (M 1) n, x < 24 := fun x hx => by have := o3 x hx; omega
  have ob2 : ∀ x ∈ ordF (M 1) n, x < (ordF (M 1) n).length := fun x hx => by rw [o1]; exact o3 x hx
  have ab : ∀ x ∈ arrF (M 1) (ordF (M 1) n), x < 24 := fun x hx => ob x (arrF_mem.mp hx).1
  have sb : shB (shN M n) (M 1) n := shB_now mk hn
  show Ev _ _ 0 [.ref 24, .int x, .int w] [] M _
  refine ev_aload_n 1 dX7_told_0 rfl rfl ?_
  refine ev_getR 4 dX7_told_1 rfl flX7_10 rfl rfl ?_
  refine ev_iload_n 5 dX7_told_4 rfl rfl ?_
  refine ev_cV1I _ M 8 dX7_told_5 mlX7_68 moX2_has rfl imX2_has ⟨_, _, rfl, rfl, rfl⟩ (Nat.le_of_ble_eq_true rfl) (Nat.le_of_ble_eq_true rfl) rfl (s_X2_has hn hsz x) ?_
  refine ev_if_neB 11 14 dX7_told_8 (by decide) rfl (fun c8 => ?_) (fun c8 => ?_)
  · obtain ⟨a, ha, rfl⟩ := inB_of c8 (by omega)
    refine ev_iload_n 15 dX7_told_14 rfl rfl ?_
    refine ev_if_lt 18 24 dX7_told_15 (by decide) rfl (fun c15 => ?_) (fun c15 => ?_)
    · refine ev_bipush 26 (-102) dX7_told_24 (by decide) rfl ?_
      exact ev_iret dX7_told_26 rfl (xp_sm (by rw [spTold, if_neg (by rw [c8]; decide), if_neg (by rw [inB_lt c15]; decide), if_neg (fun z => by rw [z] at c15; exact absurd c15 (by decide))]) hx)
    · refine ev_iload_n 19 dX7_told_18 rfl rfl ?_
      refine ev_bipush 21 (nI 18) dX7_told_19 (by decide) rfl ?_
      refine ev_icmp_le 24 27 dX7_told_21 (by decide) rfl (fun c21 => ?_) (fun c21 => ?_)
      · refine ev_iload_n 28 dX7_told_27 rfl rfl ?_
        refine ev_bipush 30 (nI 18) dX7_told_28 (by decide) rfl ?_
        refine ev_icmp_ne 33 53 dX7_told_30 (by decide) rfl (fun c30 => ?_) (fun c30 => ?_)
        · obtain ⟨b, hb, rfl⟩ := inB_of (inB_ok (k := 18) (by omega) c15 (le_ng c21)) (by omega)
          have hb18 : b < 18 := by
            have : b ≠ 18 := fun e => c30 (by rw [e])
            omega
          refine ev_aload_n 54 dX7_told_53 rfl rfl ?_
          refine ev_getR 57 dX7_told_54 rfl flX7_10 rfl rfl ?_
          refine ev_iload_n 58 dX7_told_57 rfl rfl ?_
          refine ev_iload_n 59 dX7_told_58 rfl rfl ?_
          refine ev_cV2I (M 1 (a * 18 + b)) M 62 dX7_told_59 mlX7_101 moX2_get rfl imX2_get ⟨_, _, rfl, rfl, rfl⟩ (Nat.le_of_ble_eq_true rfl) (Nat.le_of_ble_eq_true rfl) rfl (s_X2_get (a := a) (b := b) (by omega) (by omega)) ?_
          exact ev_iret dX7_told_62 rfl (xp_sm (by rw [spTold, if_neg (by rw [c8]; decide), if_pos (by rw [inB_nI (by omega)]; exact decide_eq_true hb18), nI_clamp (show a < 2 ^ 31 by omega), nI_clamp (show b < 2 ^ 31 by omega)]) hx)
        · refine ev_aload_n 34 dX7_told_33 rfl rfl ?_
          refine ev_getR 37 dX7_told_34 rfl flX7_10 rfl rfl ?_
          refine ev_cV0I _ M 40 dX7_told_37 mlX7_94 moX2_shownNow rfl imX2_shownNow ⟨_, _, rfl, rfl, rfl⟩ (Nat.le_of_ble_eq_true rfl) (Nat.le_of_ble_eq_true rfl) rfl (s_X2_shownNow hn hsz) ?_
          refine ev_iload_n 41 dX7_told_40 rfl rfl ?_
          refine ev_cS2I (bI (shwn (M 1) a)) M 44 dX7_told_41 mlX7_98 moX7_holds rfl smX7_holds (Nat.le_of_ble_eq_true rfl) (Nat.le_of_ble_eq_true rfl) rfl (by have z := s_holds (Sh := XSh) (M := M) (shN M n) (nI a); rwa [sb.hB hn ha] at z) ?_
          refine ev_if_eqB 47 51 dX7_told_44 (by decide) rfl (fun c44 => ?_) (fun c44 => ?_)
          · refine ev_iconst 52 (nI 0) dX7_told_51 (by decide) rfl ?_
            exact ev_iret dX7_told_52 rfl (xp_sm (by rw [spTold, if_neg (by rw [c8]; decide), if_neg (by rw [c30]; decide), if_pos c30, nI_clamp (show a < 2 ^ 31 by omega), c44]; rfl) hx)
          · refine ev_iconst 48 (nI 1) dX7_told_47 (by decide) rfl ?_
            refine ev_goto 52 dX7_told_48 (by decide) ?_
            exact ev_iret dX7_told_52 rfl (xp_sm (by rw [spTold, if_neg (by rw [c8]; decide), if_neg (by rw [c30]; decide), if_pos c30, nI_clamp (show a < 2 ^ 31 by omega), c44]; rfl) hx)
      · refine ev_bipush 26 (-102) dX7_told_24 (by decide) rfl ?_
        exact ev_iret dX7_told_26 rfl (xp_sm (by rw [spTold, if_neg (by rw [c8]; decide), if_neg (fun z => by obtain ⟨j, hj, rfl⟩ := inB_of z (by omega); exact c21 (by rw [fa_le, nI_toInt (by omega), nI_toInt (by omega)]; omega)), if_neg (fun z => c21 (by rw [z]; decide))]) hx)
  · refine ev_bipush 13 (-101) dX7_told_11 (by decide) rfl ?_
    exact ev_iret dX7_told_13 rfl (xp_sm (by rw [spTold, if_pos c8]) hx)
theorem x_box {M : Mm} {n t L : Nat} {sp : List Nat} (g : GS (M 1, n, t, sp)) (hx : XS M (M 1, n, t, sp) L) (x p q r s : Int32) : Ct XSh mX7_box [.ref 24, .int x, .int p, .int q, .int r, .int s] M (XP (spBox (M 1) n t sp x p q r s) L) := by
  have hn0 : 0 < n := g.1.1.1
  have hn : n ≤ 24 := g.1.1.2
  have ht : TR (M 1) n := g.1.2.1
  have hlab : ∀ a, a < n → labOK (M 1) n a := g.1.2.2.1
  have hpl : ∀ y, y < n → plOK (M 1) y := g.1.2.2.2.1
  have hco : ∀ a, a < n → colOK (M 1) a := g.1.2.2.2.2.1
  have h01 : ∀ x, x < n → h01 (M 1) x := g.1.2.2.2.2.2.1
  have ho : opsOK (M 1) n := g.1.2.2.2.2.2.2.1
  have hz : ∀ j, n * 18 ≤ j → M 1 j = 0 := g.1.2.2.2.2.2.2.2
  have h6 : (dsF (M 1) n n).length ≤ 6 := g.2.1
  have ht2 : t ≤ n := g.2.2.1
  have hfs : ∀ a, t = a + 1 → shwn (M 1) a = true := g.2.2.2.1
  have hnd : sp.Nodup := g.2.2.2.2.1
  have hsb : ∀ y ∈ sp, y < 24 := g.2.2.2.2.2
  have hsz : M 0 5 = nI n := hx.2.1
  have hor : rowAt M 5 0 5 (ordF (M 1) n) := hx.2.2.1
  have mk : MK M (M 1) n := hx.2.2.2.1
  have hst : rowAt M 12 11 2 (arrF (M 1) (ordF (M 1) n)) := hx.2.2.2.2.1
  have hsp : rowAt M 23 22 1 sp := hx.2.2.2.2.2.1
  have hf : M 24 7 = pm t := hx.2.2.2.2.2.2.1
  have hlk : lk0 M L := hx.2.2.2.2.2.2.2
  obtain ⟨o1, o2, o3⟩ := ord_facts n hn0 (by omega) ht
  have ob : ∀ x ∈ ordF (M 1) n, x < 24 := fun x hx => by have := o3 x hx; omega
  have ob2 : ∀ x ∈ ordF (M 1) n, x < (ordF (M 1) n).length := fun x hx => by rw [o1]; exact o3 x hx
  have ab : ∀ x ∈ arrF (M 1) (ordF (M 1) n), x < 24 := fun x hx => ob x (arrF_mem.mp hx).1
  have sb : shB (shN M n) (M 1) n := shB_now mk hn
  show Ev _ _ 0 [.ref 24, .int x, .int p, .int q, .int r, .int s] [] M _
  refine ev_aload_n 1 dX7_box_0 rfl rfl ?_
  refine ev_getR 4 dX7_box_1 rfl flX7_10 rfl rfl ?_
  refine ev_iload_n 5 dX7_box_4 rfl rfl ?_
  refine ev_cV1I _ M 8 dX7_box_5 mlX7_68 moX2_has rfl imX2_has ⟨_, _, rfl, rfl, rfl⟩ (Nat.le_of_ble_eq_true rfl) (Nat.le_of_ble_eq_true rfl) rfl (s_X2_has hn hsz x) ?_
  refine ev_if_neB 11 14 dX7_box_8 (by decide) rfl (fun c8 => ?_) (fun c8 => ?_)
  · obtain ⟨a, ha, rfl⟩ := inB_of c8 (by omega)
    refine ev_iload_n 15 dX7_box_14 rfl rfl ?_
    refine ev_cS1I _ M 18 dX7_box_15 mlX7_104 moX7_isLength rfl smX7_isLength (Nat.le_of_ble_eq_true rfl) (Nat.le_of_ble_eq_true rfl) rfl (s_isLength p) ?_
    refine ev_if_eqB 21 44 dX7_box_18 (by decide) rfl (fun c18 => ?_) (fun c18 => ?_)
    · refine ev_bipush 46 (-102) dX7_box_44 (by decide) rfl ?_
      exact ev_iret dX7_box_46 rfl (xp_sm (by rw [spBox, if_neg (by rw [c8]; decide), if_pos (by rw [c18]; rfl)]) hx)
    · refine ev_iload_n 22 dX7_box_21 rfl rfl ?_
      refine ev_cS1I _ M 25 dX7_box_22 mlX7_104 moX7_isLength rfl smX7_isLength (Nat.le_of_ble_eq_true rfl) (Nat.le_of_ble_eq_true rfl) rfl (s_isLength q) ?_
      refine ev_if_eqB 28 44 dX7_box_25 (by decide) rfl (fun c25 => ?_) (fun c25 => ?_)
      · refine ev_bipush 46 (-102) dX7_box_44 (by decide) rfl ?_
        exact ev_iret dX7_box_46 rfl (xp_sm (by rw [spBox, if_neg (by rw [c8]; decide), if_pos (by rw [c18, c25]; rfl)]) hx)
      · refine ev_iload 30 dX7_box_28 rfl rfl ?_
        refine ev_cS1I _ M 33 dX7_box_30 mlX7_104 moX7_isLength rfl smX7_isLength (Nat.le_of_ble_eq_true rfl) (Nat.le_of_ble_eq_true rfl) rfl (s_isLength r) ?_
        refine ev_if_eqB 36 44 dX7_box_33 (by decide) rfl (fun c33 => ?_) (fun c33 => ?_)
        · refine ev_bipush 46 (-102) dX7_box_44 (by decide) rfl ?_
          exact ev_iret dX7_box_46 rfl (xp_sm (by rw [spBox, if_neg (by rw [c8]; decide), if_pos (by rw [c18, c25, c33]; rfl)]) hx)
        · refine ev_iload 38 dX7_box_36 rfl rfl ?_
          refine ev_cS1I _ M 41 dX7_box_38 mlX7_104 moX7_isLength rfl smX7_isLength (Nat.le_of_ble_eq_true rfl) (Nat.le_of_ble_eq_true rfl) rfl (s_isLength s) ?_
          refine ev_if_neB 44 47 dX7_box_41 (by decide) rfl (fun c41 => ?_) (fun c41 => ?_)
          · refine ev_aload_n 48 dX7_box_47 rfl rfl ?_
            refine ev_getR 51 dX7_box_48 rfl flX7_10 rfl rfl ?_
            refine ev_iload_n 52 dX7_box_51 rfl rfl ?_
            refine ev_bipush 54 (nI 12) dX7_box_52 (by decide) rfl ?_
            refine ev_iload_n 55 dX7_box_54 rfl rfl ?_
            refine ev_cV3V _ 58 dX7_box_55 mlX7_107 moX2_put rfl imX2_put ⟨_, _, rfl, rfl, rfl⟩ (Nat.le_of_ble_eq_true rfl) (Nat.le_of_ble_eq_true rfl) rfl (s_X2_put (a := a) (b := 12) (by omega) (by omega)) ?_
            refine ev_aload_n 59 dX7_box_58 rfl rfl ?_
            refine ev_getR 62 dX7_box_59 rfl flX7_10 rfl rfl ?_
            refine ev_iload_n 63 dX7_box_62 rfl rfl ?_
            refine ev_bipush 65 (nI 13) dX7_box_63 (by decide) rfl ?_
            refine ev_iload_n 66 dX7_box_65 rfl rfl ?_
            refine ev_cV3V _ 69 dX7_box_66 mlX7_107 moX2_put rfl imX2_put ⟨_, _, rfl, rfl, rfl⟩ (Nat.le_of_ble_eq_true rfl) (Nat.le_of_ble_eq_true rfl) rfl (s_X2_put (a := a) (b := 13) (by omega) (by omega)) ?_
            refine ev_aload_n 70 dX7_box_69 rfl rfl ?_
            refine ev_getR 73 dX7_box_70 rfl flX7_10 rfl rfl ?_
            refine ev_iload_n 74 dX7_box_73 rfl rfl ?_
            refine ev_bipush 76 (nI 14) dX7_box_74 (by decide) rfl ?_
            refine ev_iload 78 dX7_box_76 rfl rfl ?_
            refine ev_cV3V _ 81 dX7_box_78 mlX7_107 moX2_put rfl imX2_put ⟨_, _, rfl, rfl, rfl⟩ (Nat.le_of_ble_eq_true rfl) (Nat.le_of_ble_eq_true rfl) rfl (s_X2_put (a := a) (b := 14) (by omega) (by omega)) ?_
            refine ev_aload_n 82 dX7_box_81 rfl rfl ?_
            refine ev_getR 85 dX7_box_82 rfl flX7_10 rfl rfl ?_
            refine ev_iload_n 86 dX7_box_85 rfl rfl ?_
            refine ev_bipush 88 (nI 15) dX7_box_86 (by decide) rfl ?_
            refine ev_iload 90 dX7_box_88 rfl rfl ?_
            refine ev_cV3V _ 93 dX7_box_90 mlX7_107 moX2_put rfl imX2_put ⟨_, _, rfl, rfl, rfl⟩ (Nat.le_of_ble_eq_true rfl) (Nat.le_of_ble_eq_true rfl) rfl (s_X2_put (a := a) (b := 15) (by omega) (by omega)) ?_
            refine ev_iconst 94 (nI 1) dX7_box_93 (by decide) rfl ?_
            exact ev_iret dX7_box_94 rfl (xp_sm (by rw [spBox, if_neg (by rw [c8]; decide), if_neg (by rw [c18, c25, c33, c41]; decide), nI_clamp (show a < 2 ^ 31 by omega)]) (xs_upd (xs_upd (xs_upd (xs_upd hx _ (by omega) (by omega) (by omega) (by omega)) _ (by omega) (by omega) (by omega) (by omega)) _ (by omega) (by omega) (by omega) (by omega)) _ (by omega) (by omega) (by omega) (by omega)))
          · refine ev_bipush 46 (-102) dX7_box_44 (by decide) rfl ?_
            exact ev_iret dX7_box_46 rfl (xp_sm (by rw [spBox, if_neg (by rw [c8]; decide), if_pos (by rw [c18, c25, c33, c41]; rfl)]) hx)
  · refine ev_bipush 13 (-101) dX7_box_11 (by decide) rfl ?_
    exact ev_iret dX7_box_13 rfl (xp_sm (by rw [spBox, if_pos c8]) hx)
theorem x_colours {M : Mm} {n t L : Nat} {sp : List Nat} (g : GS (M 1, n, t, sp)) (hx : XS M (M 1, n, t, sp) L) (x p q : Int32) : Ct XSh mX7_colours [.ref 24, .int x, .int p, .int q] M (XP (spCol (M 1) n t sp x p q) L) := by
  have hn0 : 0 < n := g.1.1.1
  have hn : n ≤ 24 := g.1.1.2
  have ht : TR (M 1) n := g.1.2.1
  have hlab : ∀ a, a < n → labOK (M 1) n a := g.1.2.2.1
  have hpl : ∀ y, y < n → plOK (M 1) y := g.1.2.2.2.1
  have hco : ∀ a, a < n → colOK (M 1) a := g.1.2.2.2.2.1
  have h01 : ∀ x, x < n → h01 (M 1) x := g.1.2.2.2.2.2.1
  have ho : opsOK (M 1) n := g.1.2.2.2.2.2.2.1
  have hz : ∀ j, n * 18 ≤ j → M 1 j = 0 := g.1.2.2.2.2.2.2.2
  have h6 : (dsF (M 1) n n).length ≤ 6 := g.2.1
  have ht2 : t ≤ n := g.2.2.1
  have hfs : ∀ a, t = a + 1 → shwn (M 1) a = true := g.2.2.2.1
  have hnd : sp.Nodup := g.2.2.2.2.1
  have hsb : ∀ y ∈ sp, y < 24 := g.2.2.2.2.2
  have hsz : M 0 5 = nI n := hx.2.1
  have hor : rowAt M 5 0 5 (ordF (M 1) n) := hx.2.2.1
  have mk : MK M (M 1) n := hx.2.2.2.1
  have hst : rowAt M 12 11 2 (arrF (M 1) (ordF (M 1) n)) := hx.2.2.2.2.1
  have hsp : rowAt M 23 22 1 sp := hx.2.2.2.2.2.1
  have hf : M 24 7 = pm t := hx.2.2.2.2.2.2.1
  have hlk : lk0 M L := hx.2.2.2.2.2.2.2
  obtain ⟨o1, o2, o3⟩ := ord_facts n hn0 (by omega) ht
  have ob : ∀ x ∈ ordF (M 1) n, x < 24 := fun x hx => by have := o3 x hx; omega
  have ob2 : ∀ x ∈ ordF (M 1) n, x < (ordF (M 1) n).length := fun x hx => by rw [o1]; exact o3 x hx
  have ab : ∀ x ∈ arrF (M 1) (ordF (M 1) n), x < 24 := fun x hx => ob x (arrF_mem.mp hx).1
  have sb : shB (shN M n) (M 1) n := shB_now mk hn
  show Ev _ _ 0 [.ref 24, .int x, .int p, .int q] [] M _
  refine ev_aload_n 1 dX7_colours_0 rfl rfl ?_
  refine ev_getR 4 dX7_colours_1 rfl flX7_10 rfl rfl ?_
  refine ev_iload_n 5 dX7_colours_4 rfl rfl ?_
  refine ev_cV1I _ M 8 dX7_colours_5 mlX7_68 moX2_has rfl imX2_has ⟨_, _, rfl, rfl, rfl⟩ (Nat.le_of_ble_eq_true rfl) (Nat.le_of_ble_eq_true rfl) rfl (s_X2_has hn hsz x) ?_
  refine ev_if_neB 11 14 dX7_colours_8 (by decide) rfl (fun c8 => ?_) (fun c8 => ?_)
  · obtain ⟨a, ha, rfl⟩ := inB_of c8 (by omega)
    refine ev_iload_n 15 dX7_colours_14 rfl rfl ?_
    refine ev_cS1I _ M 18 dX7_colours_15 mlX7_111 moX7_isColour rfl smX7_isColour (Nat.le_of_ble_eq_true rfl) (Nat.le_of_ble_eq_true rfl) rfl (s_isColour p) ?_
    refine ev_if_eqB 21 28 dX7_colours_18 (by decide) rfl (fun c18 => ?_) (fun c18 => ?_)
    · refine ev_bipush 30 (-102) dX7_colours_28 (by decide) rfl ?_
      exact ev_iret dX7_colours_30 rfl (xp_sm (by rw [spCol, if_neg (by rw [c8]; decide), if_pos (by rw [c18]; rfl)]) hx)
    · refine ev_iload_n 22 dX7_colours_21 rfl rfl ?_
      refine ev_cS1I _ M 25 dX7_colours_22 mlX7_111 moX7_isColour rfl smX7_isColour (Nat.le_of_ble_eq_true rfl) (Nat.le_of_ble_eq_true rfl) rfl (s_isColour q) ?_
      refine ev_if_neB 28 31 dX7_colours_25 (by decide) rfl (fun c25 => ?_) (fun c25 => ?_)
      · obtain ⟨va, hva, rfl⟩ := inB_of c18 (by omega)
        obtain ⟨vb, hvb, rfl⟩ := inB_of c25 (by omega)
        refine ev_aload_n 32 dX7_colours_31 rfl rfl ?_
        refine ev_getR 35 dX7_colours_32 rfl flX7_10 rfl rfl ?_
        refine ev_iload_n 36 dX7_colours_35 rfl rfl ?_
        refine ev_bipush 38 (nI 16) dX7_colours_36 (by decide) rfl ?_
        refine ev_iload_n 39 dX7_colours_38 rfl rfl ?_
        refine ev_cV3V _ 42 dX7_colours_39 mlX7_107 moX2_put rfl imX2_put ⟨_, _, rfl, rfl, rfl⟩ (Nat.le_of_ble_eq_true rfl) (Nat.le_of_ble_eq_true rfl) rfl (s_X2_put (a := a) (b := 16) (by omega) (by omega)) ?_
        refine ev_aload_n 43 dX7_colours_42 rfl rfl ?_
        refine ev_getR 46 dX7_colours_43 rfl flX7_10 rfl rfl ?_
        refine ev_iload_n 47 dX7_colours_46 rfl rfl ?_
        refine ev_bipush 49 (nI 17) dX7_colours_47 (by decide) rfl ?_
        refine ev_iload_n 50 dX7_colours_49 rfl rfl ?_
        refine ev_cV3V _ 53 dX7_colours_50 mlX7_107 moX2_put rfl imX2_put ⟨_, _, rfl, rfl, rfl⟩ (Nat.le_of_ble_eq_true rfl) (Nat.le_of_ble_eq_true rfl) rfl (s_X2_put (a := a) (b := 17) (by omega) (by omega)) ?_
        have em : mst (mst M 1 (a * 18 + 16) (nI va)) 1 (a * 18 + 17) (nI vb) 1 = upd (upd (M 1) (a * 18 + 16) (nI va)) (a * 18 + 17) (nI vb) := by rw [mst_same, mst_same]
        have ex : upd (upd (M 1) (a * 18 + 16) (nI va)) (a * 18 + 17) (nI vb) (a * 18 + 16) = nI va := by rw [upd_at _ a a 17 16 _ (by omega) (by omega), if_neg (by omega), upd_at _ a a 16 16 _ (by omega) (by omega), if_pos ⟨rfl, rfl⟩]
        have ey : upd (upd (M 1) (a * 18 + 16) (nI va)) (a * 18 + 17) (nI vb) (a * 18 + 17) = nI vb := by rw [upd_at _ a a 17 17 _ (by omega) (by omega), if_pos ⟨rfl, rfl⟩]
        have hcc : colOK (mst (mst M 1 (a * 18 + 16) (nI va)) 1 (a * 18 + 17) (nI vb) 1) a := by rw [em]; exact ⟨⟨va, hva, ex⟩, vb, hvb, ey⟩
        have ect : ctH (mst (mst M 1 (a * 18 + 16) (nI va)) 1 (a * 18 + 17) (nI vb) 1) a = ctN va vb := by rw [em, ctH, ex, ey, nI_clamp (by omega), nI_clamp (by omega)]
        refine ev_aload_n 54 dX7_colours_53 rfl rfl ?_
        refine ev_getR 57 dX7_colours_54 rfl flX7_10 rfl rfl ?_
        refine ev_iload_n 58 dX7_colours_57 rfl rfl ?_
        refine ev_cV1I (nI (ctN va vb)) _ 61 dX7_colours_58 mlX7_114 moX2_contrastOf rfl imX2_contrastOf ⟨_, _, rfl, rfl, rfl⟩ (Nat.le_of_ble_eq_true rfl) (Nat.le_of_ble_eq_true rfl) rfl (by have z := s_X2_contrastOf (X := XS0) (M := mst (mst M 1 (a * 18 + 16) (nI va)) 1 (a * 18 + 17) (nI vb)) (a := a) (by omega) hcc; rwa [ect] at z) ?_
        exact ev_iret dX7_colours_61 rfl (xp_sm (by rw [spCol, if_neg (by rw [c8]; decide), if_neg (by rw [c18, c25]; decide), nI_clamp (show a < 2 ^ 31 by omega), nI_clamp (show va < 2 ^ 31 by omega), nI_clamp (show vb < 2 ^ 31 by omega)]) (xs_upd (xs_upd hx _ (by omega) (by omega) (by omega) (by omega)) _ (by omega) (by omega) (by omega) (by omega)))
      · refine ev_bipush 30 (-102) dX7_colours_28 (by decide) rfl ?_
        exact ev_iret dX7_colours_30 rfl (xp_sm (by rw [spCol, if_neg (by rw [c8]; decide), if_pos (by rw [c18, c25]; rfl)]) hx)
  · refine ev_bipush 13 (-101) dX7_colours_11 (by decide) rfl ?_
    exact ev_iret dX7_colours_13 rfl (xp_sm (by rw [spCol, if_pos c8]) hx)
theorem x_contrast {M : Mm} {n t L : Nat} {sp : List Nat} (g : GS (M 1, n, t, sp)) (hx : XS M (M 1, n, t, sp) L) (x : Int32) : Ct XSh mX7_contrast [.ref 24, .int x] M (XP (ctF (M 1) n x, (M 1, n, t, sp)) L) := by
  have hn0 : 0 < n := g.1.1.1
  have hn : n ≤ 24 := g.1.1.2
  have ht : TR (M 1) n := g.1.2.1
  have hlab : ∀ a, a < n → labOK (M 1) n a := g.1.2.2.1
  have hpl : ∀ y, y < n → plOK (M 1) y := g.1.2.2.2.1
  have hco : ∀ a, a < n → colOK (M 1) a := g.1.2.2.2.2.1
  have h01 : ∀ x, x < n → h01 (M 1) x := g.1.2.2.2.2.2.1
  have ho : opsOK (M 1) n := g.1.2.2.2.2.2.2.1
  have hz : ∀ j, n * 18 ≤ j → M 1 j = 0 := g.1.2.2.2.2.2.2.2
  have h6 : (dsF (M 1) n n).length ≤ 6 := g.2.1
  have ht2 : t ≤ n := g.2.2.1
  have hfs : ∀ a, t = a + 1 → shwn (M 1) a = true := g.2.2.2.1
  have hnd : sp.Nodup := g.2.2.2.2.1
  have hsb : ∀ y ∈ sp, y < 24 := g.2.2.2.2.2
  have hsz : M 0 5 = nI n := hx.2.1
  have hor : rowAt M 5 0 5 (ordF (M 1) n) := hx.2.2.1
  have mk : MK M (M 1) n := hx.2.2.2.1
  have hst : rowAt M 12 11 2 (arrF (M 1) (ordF (M 1) n)) := hx.2.2.2.2.1
  have hsp : rowAt M 23 22 1 sp := hx.2.2.2.2.2.1
  have hf : M 24 7 = pm t := hx.2.2.2.2.2.2.1
  have hlk : lk0 M L := hx.2.2.2.2.2.2.2
  obtain ⟨o1, o2, o3⟩ := ord_facts n hn0 (by omega) ht
  have ob : ∀ x ∈ ordF (M 1) n, x < 24 := fun x hx => by have := o3 x hx; omega
  have ob2 : ∀ x ∈ ordF (M 1) n, x < (ordF (M 1) n).length := fun x hx => by rw [o1]; exact o3 x hx
  have ab : ∀ x ∈ arrF (M 1) (ordF (M 1) n), x < 24 := fun x hx => ob x (arrF_mem.mp hx).1
  have sb : shB (shN M n) (M 1) n := shB_now mk hn
  show Ev _ _ 0 [.ref 24, .int x] [] M _
  refine ev_aload_n 1 dX7_contrast_0 rfl rfl ?_
  refine ev_getR 4 dX7_contrast_1 rfl flX7_10 rfl rfl ?_
  refine ev_iload_n 5 dX7_contrast_4 rfl rfl ?_
  refine ev_cV1I _ M 8 dX7_contrast_5 mlX7_68 moX2_has rfl imX2_has ⟨_, _, rfl, rfl, rfl⟩ (Nat.le_of_ble_eq_true rfl) (Nat.le_of_ble_eq_true rfl) rfl (s_X2_has hn hsz x) ?_
  refine ev_if_eqB 11 22 dX7_contrast_8 (by decide) rfl (fun c8 => ?_) (fun c8 => ?_)
  · refine ev_bipush 24 (-101) dX7_contrast_22 (by decide) rfl ?_
    exact ev_iret dX7_contrast_24 rfl (xp_sm (by rw [ctF, if_neg (by rw [c8]; decide)]) hx)
  · obtain ⟨a, ha, rfl⟩ := inB_of c8 (by omega)
    refine ev_aload_n 12 dX7_contrast_11 rfl rfl ?_
    refine ev_getR 15 dX7_contrast_12 rfl flX7_10 rfl rfl ?_
    refine ev_iload_n 16 dX7_contrast_15 rfl rfl ?_
    refine ev_cV1I _ M 19 dX7_contrast_16 mlX7_114 moX2_contrastOf rfl imX2_contrastOf ⟨_, _, rfl, rfl, rfl⟩ (Nat.le_of_ble_eq_true rfl) (Nat.le_of_ble_eq_true rfl) rfl (s_X2_contrastOf (a := a) (by omega) (hco a ha)) ?_
    refine ev_goto 24 dX7_contrast_19 (by decide) ?_
    exact ev_iret dX7_contrast_24 rfl (xp_sm (by rw [ctF, if_pos c8, nI_clamp (show a < 2 ^ 31 by omega)]) hx)
theorem x_name {M : Mm} {n t L : Nat} {sp : List Nat} (g : GS (M 1, n, t, sp)) (hx : XS M (M 1, n, t, sp) L) (x : Int32) : Ct XSh mX7_name [.ref 24, .int x] M (XP (spName (M 1) n x, (M 1, n, t, sp)) L) := by
  have hn0 : 0 < n := g.1.1.1
  have hn : n ≤ 24 := g.1.1.2
  have ht : TR (M 1) n := g.1.2.1
  have hlab : ∀ a, a < n → labOK (M 1) n a := g.1.2.2.1
  have hpl : ∀ y, y < n → plOK (M 1) y := g.1.2.2.2.1
  have hco : ∀ a, a < n → colOK (M 1) a := g.1.2.2.2.2.1
  have h01 : ∀ x, x < n → h01 (M 1) x := g.1.2.2.2.2.2.1
  have ho : opsOK (M 1) n := g.1.2.2.2.2.2.2.1
  have hz : ∀ j, n * 18 ≤ j → M 1 j = 0 := g.1.2.2.2.2.2.2.2
  have h6 : (dsF (M 1) n n).length ≤ 6 := g.2.1
  have ht2 : t ≤ n := g.2.2.1
  have hfs : ∀ a, t = a + 1 → shwn (M 1) a = true := g.2.2.2.1
  have hnd : sp.Nodup := g.2.2.2.2.1
  have hsb : ∀ y ∈ sp, y < 24 := g.2.2.2.2.2
  have hsz : M 0 5 = nI n := hx.2.1
  have hor : rowAt M 5 0 5 (ordF (M 1) n) := hx.2.2.1
  have mk : MK M (M 1) n := hx.2.2.2.1
  have hst : rowAt M 12 11 2 (arrF (M 1) (ordF (M 1) n)) := hx.2.2.2.2.1
  have hsp : rowAt M 23 22 1 sp := hx.2.2.2.2.2.1
  have hf : M 24 7 = pm t := hx.2.2.2.2.2.2.1
  have hlk : lk0 M L := hx.2.2.2.2.2.2.2
  obtain ⟨o1, o2, o3⟩ := ord_facts n hn0 (by omega) ht
  have ob : ∀ x ∈ ordF (M 1) n, x < 24 := fun x hx => by have := o3 x hx; omega
  have ob2 : ∀ x ∈ ordF (M 1) n, x < (ordF (M 1) n).length := fun x hx => by rw [o1]; exact o3 x hx
  have ab : ∀ x ∈ arrF (M 1) (ordF (M 1) n), x < 24 := fun x hx => ob x (arrF_mem.mp hx).1
  have sb : shB (shN M n) (M 1) n := shB_now mk hn
  show Ev _ _ 0 [.ref 24, .int x] [] M _
  refine ev_aload_n 1 dX7_name_0 rfl rfl ?_
  refine ev_getR 4 dX7_name_1 rfl flX7_10 rfl rfl ?_
  refine ev_iload_n 5 dX7_name_4 rfl rfl ?_
  refine ev_cV1I _ M 8 dX7_name_5 mlX7_68 moX2_has rfl imX2_has ⟨_, _, rfl, rfl, rfl⟩ (Nat.le_of_ble_eq_true rfl) (Nat.le_of_ble_eq_true rfl) rfl (s_X2_has hn hsz x) ?_
  refine ev_if_neB 11 14 dX7_name_8 (by decide) rfl (fun c8 => ?_) (fun c8 => ?_)
  · obtain ⟨a, ha, rfl⟩ := inB_of c8 (by omega)
    refine ev_aload_n 15 dX7_name_14 rfl rfl ?_
    refine ev_getR 18 dX7_name_15 rfl flX7_21 rfl rfl ?_
    refine ev_iload_n 19 dX7_name_18 rfl rfl ?_
    refine ev_aload_n 20 dX7_name_19 rfl rfl ?_
    refine ev_getR 23 dX7_name_20 rfl flX7_10 rfl rfl ?_
    refine ev_cV0I _ M 26 dX7_name_23 mlX7_94 moX2_shownNow rfl imX2_shownNow ⟨_, _, rfl, rfl, rfl⟩ (Nat.le_of_ble_eq_true rfl) (Nat.le_of_ble_eq_true rfl) rfl (s_X2_shownNow hn hsz) ?_
    refine ev_cV2 29 dX7_name_26 mlX7_118 moX1_compose rfl imX1_compose ⟨_, _, rfl, rfl, rfl⟩ (Nat.le_of_ble_eq_true rfl) (Nat.le_of_ble_eq_true rfl) rfl (s_X1_compose (M := M) (a := a) (shN M n) hn hsz (by omega)) ?_
    rintro r M2 ⟨rfl, h2⟩
    rw [nm_eq mk ht hn0 hn sb hor ha (hlab a ha)] at h2
    have hx2 := xs_fr hx (fun k hk => h2.1.1 k (by rintro rfl; exact hk (by decide)) (by rintro rfl; exact hk (by decide)))
    refine ev_aload_n 30 dX7_name_29 rfl rfl ?_
    refine ev_getR 33 dX7_name_30 rfl flX7_21 rfl rfl ?_
    refine ev_iload_n 34 dX7_name_33 rfl rfl ?_
    refine ev_cV1I (nI (nmS (M 1) n a).length) M2 37 dX7_name_34 mlX7_122 moX1_lengthOf rfl imX1_lengthOf ⟨_, _, rfl, rfl, rfl⟩ (Nat.le_of_ble_eq_true rfl) (Nat.le_of_ble_eq_true rfl) rfl (by have z := s_X1_lengthOf (M := M2) (a := a) hn (by rw [h2.1.1 0 (by decide) (by decide)]; exact hsz) ha; rwa [h2.2.2.1] at z) ?_
    exact ev_iret dX7_name_37 rfl (xp_sm (by rw [spName, if_neg (by rw [c8]; decide), nI_clamp (show a < 2 ^ 31 by omega)]) hx2)
  · refine ev_bipush 13 (-101) dX7_name_11 (by decide) rfl ?_
    exact ev_iret dX7_name_13 rfl (xp_sm (by rw [spName, if_pos c8]) hx)
theorem x_word {M : Mm} {n t L : Nat} {sp : List Nat} (g : GS (M 1, n, t, sp)) (hx : XS M (M 1, n, t, sp) L) (x k : Int32) : Ct XSh mX7_word [.ref 24, .int x, .int k] M (XP (spWord (M 1) n x k, (M 1, n, t, sp)) L) := by
  have hn0 : 0 < n := g.1.1.1
  have hn : n ≤ 24 := g.1.1.2
  have ht : TR (M 1) n := g.1.2.1
  have hlab : ∀ a, a < n → labOK (M 1) n a := g.1.2.2.1
  have hpl : ∀ y, y < n → plOK (M 1) y := g.1.2.2.2.1
  have hco : ∀ a, a < n → colOK (M 1) a := g.1.2.2.2.2.1
  have h01 : ∀ x, x < n → h01 (M 1) x := g.1.2.2.2.2.2.1
  have ho : opsOK (M 1) n := g.1.2.2.2.2.2.2.1
  have hz : ∀ j, n * 18 ≤ j → M 1 j = 0 := g.1.2.2.2.2.2.2.2
  have h6 : (dsF (M 1) n n).length ≤ 6 := g.2.1
  have ht2 : t ≤ n := g.2.2.1
  have hfs : ∀ a, t = a + 1 → shwn (M 1) a = true := g.2.2.2.1
  have hnd : sp.Nodup := g.2.2.2.2.1
  have hsb : ∀ y ∈ sp, y < 24 := g.2.2.2.2.2
  have hsz : M 0 5 = nI n := hx.2.1
  have hor : rowAt M 5 0 5 (ordF (M 1) n) := hx.2.2.1
  have mk : MK M (M 1) n := hx.2.2.2.1
  have hst : rowAt M 12 11 2 (arrF (M 1) (ordF (M 1) n)) := hx.2.2.2.2.1
  have hsp : rowAt M 23 22 1 sp := hx.2.2.2.2.2.1
  have hf : M 24 7 = pm t := hx.2.2.2.2.2.2.1
  have hlk : lk0 M L := hx.2.2.2.2.2.2.2
  obtain ⟨o1, o2, o3⟩ := ord_facts n hn0 (by omega) ht
  have ob : ∀ x ∈ ordF (M 1) n, x < 24 := fun x hx => by have := o3 x hx; omega
  have ob2 : ∀ x ∈ ordF (M 1) n, x < (ordF (M 1) n).length := fun x hx => by rw [o1]; exact o3 x hx
  have ab : ∀ x ∈ arrF (M 1) (ordF (M 1) n), x < 24 := fun x hx => ob x (arrF_mem.mp hx).1
  have sb : shB (shN M n) (M 1) n := shB_now mk hn
  show Ev _ _ 0 [.ref 24, .int x, .int k] [] M _
  refine ev_aload_n 1 dX7_word_0 rfl rfl ?_
  refine ev_getR 4 dX7_word_1 rfl flX7_10 rfl rfl ?_
  refine ev_iload_n 5 dX7_word_4 rfl rfl ?_
  refine ev_cV1I _ M 8 dX7_word_5 mlX7_68 moX2_has rfl imX2_has ⟨_, _, rfl, rfl, rfl⟩ (Nat.le_of_ble_eq_true rfl) (Nat.le_of_ble_eq_true rfl) rfl (s_X2_has hn hsz x) ?_
  refine ev_if_neB 11 13 dX7_word_8 (by decide) rfl (fun c8 => ?_) (fun c8 => ?_)
  · obtain ⟨a, ha, rfl⟩ := inB_of c8 (by omega)
    refine ev_aload_n 14 dX7_word_13 rfl rfl ?_
    refine ev_getR 17 dX7_word_14 rfl flX7_21 rfl rfl ?_
    refine ev_iload_n 18 dX7_word_17 rfl rfl ?_
    refine ev_aload_n 19 dX7_word_18 rfl rfl ?_
    refine ev_getR 22 dX7_word_19 rfl flX7_10 rfl rfl ?_
    refine ev_cV0I _ M 25 dX7_word_22 mlX7_94 moX2_shownNow rfl imX2_shownNow ⟨_, _, rfl, rfl, rfl⟩ (Nat.le_of_ble_eq_true rfl) (Nat.le_of_ble_eq_true rfl) rfl (s_X2_shownNow hn hsz) ?_
    refine ev_cV2 28 dX7_word_25 mlX7_118 moX1_compose rfl imX1_compose ⟨_, _, rfl, rfl, rfl⟩ (Nat.le_of_ble_eq_true rfl) (Nat.le_of_ble_eq_true rfl) rfl (s_X1_compose (M := M) (a := a) (shN M n) hn hsz (by omega)) ?_
    rintro r M2 ⟨rfl, h2⟩
    rw [nm_eq mk ht hn0 hn sb hor ha (hlab a ha)] at h2
    have hx2 := xs_fr hx (fun k hk => h2.1.1 k (by rintro rfl; exact hk (by decide)) (by rintro rfl; exact hk (by decide)))
    refine ev_aload_n 29 dX7_word_28 rfl rfl ?_
    refine ev_getR 32 dX7_word_29 rfl flX7_21 rfl rfl ?_
    refine ev_iload_n 33 dX7_word_32 rfl rfl ?_
    refine ev_iload_n 34 dX7_word_33 rfl rfl ?_
    refine ev_cV2I _ M2 37 dX7_word_34 mlX7_125 moX1_wordOf rfl imX1_wordOf ⟨_, _, rfl, rfl, rfl⟩ (Nat.le_of_ble_eq_true rfl) (Nat.le_of_ble_eq_true rfl) rfl (s_X1_wordOf k hn (by rw [h2.1.1 0 (by decide) (by decide)]; exact hsz) ha h2.2) ?_
    exact ev_iret dX7_word_37 rfl (xp_sm (by rw [spWord, if_neg (by rw [c8]; decide), nI_clamp (show a < 2 ^ 31 by omega)]) hx2)
  · refine ev_iconst 12 (nI 0) dX7_word_11 (by decide) rfl ?_
    exact ev_iret dX7_word_12 rfl (xp_sm (by rw [spWord, if_pos c8]) hx)
theorem x_said {M : Mm} {n t L : Nat} {sp : List Nat} (g : GS (M 1, n, t, sp)) (hx : XS M (M 1, n, t, sp) L) (k : Int32) : Ct XSh mX7_said [.ref 24, .int k] M (XP (rowF (saidF (M 1) n) k, (M 1, n, t, sp)) L) := by
  have hn0 : 0 < n := g.1.1.1
  have hn : n ≤ 24 := g.1.1.2
  have ht : TR (M 1) n := g.1.2.1
  have hlab : ∀ a, a < n → labOK (M 1) n a := g.1.2.2.1
  have hpl : ∀ y, y < n → plOK (M 1) y := g.1.2.2.2.1
  have hco : ∀ a, a < n → colOK (M 1) a := g.1.2.2.2.2.1
  have h01 : ∀ x, x < n → h01 (M 1) x := g.1.2.2.2.2.2.1
  have ho : opsOK (M 1) n := g.1.2.2.2.2.2.2.1
  have hz : ∀ j, n * 18 ≤ j → M 1 j = 0 := g.1.2.2.2.2.2.2.2
  have h6 : (dsF (M 1) n n).length ≤ 6 := g.2.1
  have ht2 : t ≤ n := g.2.2.1
  have hfs : ∀ a, t = a + 1 → shwn (M 1) a = true := g.2.2.2.1
  have hnd : sp.Nodup := g.2.2.2.2.1
  have hsb : ∀ y ∈ sp, y < 24 := g.2.2.2.2.2
  have hsz : M 0 5 = nI n := hx.2.1
  have hor : rowAt M 5 0 5 (ordF (M 1) n) := hx.2.2.1
  have mk : MK M (M 1) n := hx.2.2.2.1
  have hst : rowAt M 12 11 2 (arrF (M 1) (ordF (M 1) n)) := hx.2.2.2.2.1
  have hsp : rowAt M 23 22 1 sp := hx.2.2.2.2.2.1
  have hf : M 24 7 = pm t := hx.2.2.2.2.2.2.1
  have hlk : lk0 M L := hx.2.2.2.2.2.2.2
  obtain ⟨o1, o2, o3⟩ := ord_facts n hn0 (by omega) ht
  have ob : ∀ x ∈ ordF (M 1) n, x < 24 := fun x hx => by have := o3 x hx; omega
  have ob2 : ∀ x ∈ ordF (M 1) n, x < (ordF (M 1) n).length := fun x hx => by rw [o1]; exact o3 x hx
  have ab : ∀ x ∈ arrF (M 1) (ordF (M 1) n), x < 24 := fun x hx => ob x (arrF_mem.mp hx).1
  have sb : shB (shN M n) (M 1) n := shB_now mk hn
  show Ev _ _ 0 [.ref 24, .int k] [] M _
  refine ev_aload_n 1 dX7_said_0 rfl rfl ?_
  refine ev_getR 4 dX7_said_1 rfl flX7_28 rfl rfl ?_
  refine ev_aload_n 5 dX7_said_4 rfl rfl ?_
  refine ev_getR 8 dX7_said_5 rfl flX7_10 rfl rfl ?_
  refine ev_cV0I _ M 11 dX7_said_8 mlX7_94 moX2_shownNow rfl imX2_shownNow ⟨_, _, rfl, rfl, rfl⟩ (Nat.le_of_ble_eq_true rfl) (Nat.le_of_ble_eq_true rfl) rfl (s_X2_shownNow hn hsz) ?_
  refine ev_cV1 14 dX7_said_11 mlX7_128 moX3_gather rfl imX3_gather ⟨_, _, rfl, rfl, rfl⟩ (Nat.le_of_ble_eq_true rfl) (Nat.le_of_ble_eq_true rfl) rfl (s_X3_gather (M := M) (shN M n) hor ob2) ?_
  rintro r M2 ⟨rfl, h2, h3⟩
  rw [said_eq mk ht hn0 hn sb] at h3
  have hx2 := xs_fr hx (fun k hk => h2 k (by rintro rfl; exact hk (by decide)) (by rintro rfl; exact hk (by decide)))
  refine ev_aload_n 15 dX7_said_14 rfl rfl ?_
  refine ev_getR 18 dX7_said_15 rfl flX7_28 rfl rfl ?_
  refine ev_iload_n 19 dX7_said_18 rfl rfl ?_
  refine ev_cV1I _ M2 22 dX7_said_19 mlX7_132 moX3_at rfl imX3_at ⟨_, _, rfl, rfl, rfl⟩ (Nat.le_of_ble_eq_true rfl) (Nat.le_of_ble_eq_true rfl) rfl (s_X3_at k h3) ?_
  exact ev_iret dX7_said_22 rfl (xp_sm rfl hx2)
theorem x_pairs {M : Mm} {n t L : Nat} {sp : List Nat} (g : GS (M 1, n, t, sp)) (hx : XS M (M 1, n, t, sp) L) : Ct XSh mX7_pairs [.ref 24] M (XP (nI (prO (M 1) (saidF (M 1) n) (saidF (M 1) n).length), (M 1, n, t, sp)) L) := by
  have hn0 : 0 < n := g.1.1.1
  have hn : n ≤ 24 := g.1.1.2
  have ht : TR (M 1) n := g.1.2.1
  have hlab : ∀ a, a < n → labOK (M 1) n a := g.1.2.2.1
  have hpl : ∀ y, y < n → plOK (M 1) y := g.1.2.2.2.1
  have hco : ∀ a, a < n → colOK (M 1) a := g.1.2.2.2.2.1
  have h01 : ∀ x, x < n → h01 (M 1) x := g.1.2.2.2.2.2.1
  have ho : opsOK (M 1) n := g.1.2.2.2.2.2.2.1
  have hz : ∀ j, n * 18 ≤ j → M 1 j = 0 := g.1.2.2.2.2.2.2.2
  have h6 : (dsF (M 1) n n).length ≤ 6 := g.2.1
  have ht2 : t ≤ n := g.2.2.1
  have hfs : ∀ a, t = a + 1 → shwn (M 1) a = true := g.2.2.2.1
  have hnd : sp.Nodup := g.2.2.2.2.1
  have hsb : ∀ y ∈ sp, y < 24 := g.2.2.2.2.2
  have hsz : M 0 5 = nI n := hx.2.1
  have hor : rowAt M 5 0 5 (ordF (M 1) n) := hx.2.2.1
  have mk : MK M (M 1) n := hx.2.2.2.1
  have hst : rowAt M 12 11 2 (arrF (M 1) (ordF (M 1) n)) := hx.2.2.2.2.1
  have hsp : rowAt M 23 22 1 sp := hx.2.2.2.2.2.1
  have hf : M 24 7 = pm t := hx.2.2.2.2.2.2.1
  have hlk : lk0 M L := hx.2.2.2.2.2.2.2
  obtain ⟨o1, o2, o3⟩ := ord_facts n hn0 (by omega) ht
  have ob : ∀ x ∈ ordF (M 1) n, x < 24 := fun x hx => by have := o3 x hx; omega
  have ob2 : ∀ x ∈ ordF (M 1) n, x < (ordF (M 1) n).length := fun x hx => by rw [o1]; exact o3 x hx
  have ab : ∀ x ∈ arrF (M 1) (ordF (M 1) n), x < 24 := fun x hx => ob x (arrF_mem.mp hx).1
  have sb : shB (shN M n) (M 1) n := shB_now mk hn
  show Ev _ _ 0 [.ref 24] [] M _
  refine ev_aload_n 1 dX7_pairs_0 rfl rfl ?_
  refine ev_getR 4 dX7_pairs_1 rfl flX7_28 rfl rfl ?_
  refine ev_aload_n 5 dX7_pairs_4 rfl rfl ?_
  refine ev_getR 8 dX7_pairs_5 rfl flX7_10 rfl rfl ?_
  refine ev_cV0I _ M 11 dX7_pairs_8 mlX7_94 moX2_shownNow rfl imX2_shownNow ⟨_, _, rfl, rfl, rfl⟩ (Nat.le_of_ble_eq_true rfl) (Nat.le_of_ble_eq_true rfl) rfl (s_X2_shownNow hn hsz) ?_
  refine ev_cV1 14 dX7_pairs_11 mlX7_128 moX3_gather rfl imX3_gather ⟨_, _, rfl, rfl, rfl⟩ (Nat.le_of_ble_eq_true rfl) (Nat.le_of_ble_eq_true rfl) rfl (s_X3_gather (M := M) (shN M n) hor ob2) ?_
  rintro r M2 ⟨rfl, h2, h3⟩
  rw [said_eq mk ht hn0 hn sb] at h3
  have hx2 := xs_fr hx (fun k hk => h2 k (by rintro rfl; exact hk (by decide)) (by rintro rfl; exact hk (by decide)))
  refine ev_aload_n 15 dX7_pairs_14 rfl rfl ?_
  refine ev_getR 18 dX7_pairs_15 rfl flX7_28 rfl rfl ?_
  refine ev_cV0 21 dX7_pairs_18 mlX7_135 moX3_compare rfl imX3_compare ⟨_, _, rfl, rfl, rfl⟩ (Nat.le_of_ble_eq_true rfl) (Nat.le_of_ble_eq_true rfl) rfl (s_X3_compare h3 (fun x hx => ob x (List.mem_filter.mp hx).1)) ?_
  rintro r M3 ⟨rfl, h4⟩
  have e21 : M2 1 = M 1 := h2 1 (by decide) (by decide)
  have hx3 := xs_fr hx2 (fun k hk => h4.1 k (by rintro rfl; exact hk (by decide)))
  have h5 := h4.2.2.2
  rw [e21, pairs_eq] at h5
  refine ev_aload_n 22 dX7_pairs_21 rfl rfl ?_
  refine ev_getR 25 dX7_pairs_22 rfl flX7_28 rfl rfl ?_
  refine ev_getIv 28 (nI (prO (M 1) (saidF (M 1) n) (saidF (M 1) n).length)) dX7_pairs_25 rfl flX7_138 rfl rfl h5 ?_
  exact ev_iret dX7_pairs_28 rfl (xp_sm rfl hx3)
theorem stp_all {M : Mm} {n : Nat} {sh : Int32} (hn : n ≤ 24) (hn0 : 0 < n) (ht : TR (M 1) n) (sb : shB sh (M 1) n) : (arrF (M 1) (ordF (M 1) n)).filter (bt sh) = stpL (M 1) none (ordF (M 1) n) := by
  obtain ⟨-, -, o3⟩ := ord_facts n hn0 (by omega) ht
  rw [← arr_stp (h := M 1) (h1 := M 1) (fun _ => rfl) (fun _ => rfl)]
  refine List.filter_congr (fun y hy => ?_)
  rw [sb.at hn (o3 y (arrF_mem.mp hy).1)]
  show _ = (_ && true)
  rw [Bool.and_true]
theorem x_stop {M : Mm} {n t L : Nat} {sp : List Nat} (g : GS (M 1, n, t, sp)) (hx : XS M (M 1, n, t, sp) L) (k : Int32) : Ct XSh mX7_stop [.ref 24, .int k] M (XP (rowF (stpL (M 1) none (ordF (M 1) n)) k, (M 1, n, t, sp)) L) := by
  have hn0 : 0 < n := g.1.1.1
  have hn : n ≤ 24 := g.1.1.2
  have ht : TR (M 1) n := g.1.2.1
  have hlab : ∀ a, a < n → labOK (M 1) n a := g.1.2.2.1
  have hpl : ∀ y, y < n → plOK (M 1) y := g.1.2.2.2.1
  have hco : ∀ a, a < n → colOK (M 1) a := g.1.2.2.2.2.1
  have h01 : ∀ x, x < n → h01 (M 1) x := g.1.2.2.2.2.2.1
  have ho : opsOK (M 1) n := g.1.2.2.2.2.2.2.1
  have hz : ∀ j, n * 18 ≤ j → M 1 j = 0 := g.1.2.2.2.2.2.2.2
  have h6 : (dsF (M 1) n n).length ≤ 6 := g.2.1
  have ht2 : t ≤ n := g.2.2.1
  have hfs : ∀ a, t = a + 1 → shwn (M 1) a = true := g.2.2.2.1
  have hnd : sp.Nodup := g.2.2.2.2.1
  have hsb : ∀ y ∈ sp, y < 24 := g.2.2.2.2.2
  have hsz : M 0 5 = nI n := hx.2.1
  have hor : rowAt M 5 0 5 (ordF (M 1) n) := hx.2.2.1
  have mk : MK M (M 1) n := hx.2.2.2.1
  have hst : rowAt M 12 11 2 (arrF (M 1) (ordF (M 1) n)) := hx.2.2.2.2.1
  have hsp : rowAt M 23 22 1 sp := hx.2.2.2.2.2.1
  have hf : M 24 7 = pm t := hx.2.2.2.2.2.2.1
  have hlk : lk0 M L := hx.2.2.2.2.2.2.2
  obtain ⟨o1, o2, o3⟩ := ord_facts n hn0 (by omega) ht
  have ob : ∀ x ∈ ordF (M 1) n, x < 24 := fun x hx => by have := o3 x hx; omega
  have ob2 : ∀ x ∈ ordF (M 1) n, x < (ordF (M 1) n).length := fun x hx => by rw [o1]; exact o3 x hx
  have ab : ∀ x ∈ arrF (M 1) (ordF (M 1) n), x < 24 := fun x hx => ob x (arrF_mem.mp hx).1
  have sb : shB (shN M n) (M 1) n := shB_now mk hn
  show Ev _ _ 0 [.ref 24, .int k] [] M _
  refine ev_aload_n 1 dX7_stop_0 rfl rfl ?_
  refine ev_getR 4 dX7_stop_1 rfl flX7_35 rfl rfl ?_
  refine ev_iload_n 5 dX7_stop_4 rfl rfl ?_
  refine ev_aload_n 6 dX7_stop_5 rfl rfl ?_
  refine ev_getR 9 dX7_stop_6 rfl flX7_10 rfl rfl ?_
  refine ev_cV0I _ M 12 dX7_stop_9 mlX7_94 moX2_shownNow rfl imX2_shownNow ⟨_, _, rfl, rfl, rfl⟩ (Nat.le_of_ble_eq_true rfl) (Nat.le_of_ble_eq_true rfl) rfl (s_X2_shownNow hn hsz) ?_
  refine ev_cV2I (rowF (stpL (M 1) none (ordF (M 1) n)) k) M 15 dX7_stop_12 mlX7_141 moX5_at rfl imX5_at ⟨_, _, rfl, rfl, rfl⟩ (Nat.le_of_ble_eq_true rfl) (Nat.le_of_ble_eq_true rfl) rfl (by have z := s_X5_at hst ab (shN M n) k; rwa [fAt_row (stp_all hn hn0 ht sb) k (by have := stpL_len (M 1) none (ordF (M 1) n); omega)] at z) ?_
  exact ev_iret dX7_stop_15 rfl (xp_sm rfl hx)
theorem x_focus {M : Mm} {n t L : Nat} {sp : List Nat} (g : GS (M 1, n, t, sp)) (hx : XS M (M 1, n, t, sp) L) : Ct XSh mX7_focus [.ref 24] M (XP (pm t, (M 1, n, t, sp)) L) := by
  have hn0 : 0 < n := g.1.1.1
  have hn : n ≤ 24 := g.1.1.2
  have ht : TR (M 1) n := g.1.2.1
  have hlab : ∀ a, a < n → labOK (M 1) n a := g.1.2.2.1
  have hpl : ∀ y, y < n → plOK (M 1) y := g.1.2.2.2.1
  have hco : ∀ a, a < n → colOK (M 1) a := g.1.2.2.2.2.1
  have h01 : ∀ x, x < n → h01 (M 1) x := g.1.2.2.2.2.2.1
  have ho : opsOK (M 1) n := g.1.2.2.2.2.2.2.1
  have hz : ∀ j, n * 18 ≤ j → M 1 j = 0 := g.1.2.2.2.2.2.2.2
  have h6 : (dsF (M 1) n n).length ≤ 6 := g.2.1
  have ht2 : t ≤ n := g.2.2.1
  have hfs : ∀ a, t = a + 1 → shwn (M 1) a = true := g.2.2.2.1
  have hnd : sp.Nodup := g.2.2.2.2.1
  have hsb : ∀ y ∈ sp, y < 24 := g.2.2.2.2.2
  have hsz : M 0 5 = nI n := hx.2.1
  have hor : rowAt M 5 0 5 (ordF (M 1) n) := hx.2.2.1
  have mk : MK M (M 1) n := hx.2.2.2.1
  have hst : rowAt M 12 11 2 (arrF (M 1) (ordF (M 1) n)) := hx.2.2.2.2.1
  have hsp : rowAt M 23 22 1 sp := hx.2.2.2.2.2.1
  have hf : M 24 7 = pm t := hx.2.2.2.2.2.2.1
  have hlk : lk0 M L := hx.2.2.2.2.2.2.2
  obtain ⟨o1, o2, o3⟩ := ord_facts n hn0 (by omega) ht
  have ob : ∀ x ∈ ordF (M 1) n, x < 24 := fun x hx => by have := o3 x hx; omega
  have ob2 : ∀ x ∈ ordF (M 1) n, x < (ordF (M 1) n).length := fun x hx => by rw [o1]; exact o3 x hx
  have ab : ∀ x ∈ arrF (M 1) (ordF (M 1) n), x < 24 := fun x hx => ob x (arrF_mem.mp hx).1
  have sb : shB (shN M n) (M 1) n := shB_now mk hn
  show Ev _ _ 0 [.ref 24] [] M _
  refine ev_aload_n 1 dX7_focus_0 rfl rfl ?_
  refine ev_getIv 4 (pm t) dX7_focus_1 rfl flX7_64 rfl rfl hf ?_
  exact ev_iret dX7_focus_4 rfl (xp_sm rfl hx)
theorem x_caught {M : Mm} {n t L : Nat} {sp : List Nat} (g : GS (M 1, n, t, sp)) (hx : XS M (M 1, n, t, sp) L) : Ct XSh mX7_caught [.ref 24] M (XP (optI (trS (M 1) t), (M 1, n, t, sp)) L) := by
  have hn0 : 0 < n := g.1.1.1
  have hn : n ≤ 24 := g.1.1.2
  have ht : TR (M 1) n := g.1.2.1
  have hlab : ∀ a, a < n → labOK (M 1) n a := g.1.2.2.1
  have hpl : ∀ y, y < n → plOK (M 1) y := g.1.2.2.2.1
  have hco : ∀ a, a < n → colOK (M 1) a := g.1.2.2.2.2.1
  have h01 : ∀ x, x < n → h01 (M 1) x := g.1.2.2.2.2.2.1
  have ho : opsOK (M 1) n := g.1.2.2.2.2.2.2.1
  have hz : ∀ j, n * 18 ≤ j → M 1 j = 0 := g.1.2.2.2.2.2.2.2
  have h6 : (dsF (M 1) n n).length ≤ 6 := g.2.1
  have ht2 : t ≤ n := g.2.2.1
  have hfs : ∀ a, t = a + 1 → shwn (M 1) a = true := g.2.2.2.1
  have hnd : sp.Nodup := g.2.2.2.2.1
  have hsb : ∀ y ∈ sp, y < 24 := g.2.2.2.2.2
  have hsz : M 0 5 = nI n := hx.2.1
  have hor : rowAt M 5 0 5 (ordF (M 1) n) := hx.2.2.1
  have mk : MK M (M 1) n := hx.2.2.2.1
  have hst : rowAt M 12 11 2 (arrF (M 1) (ordF (M 1) n)) := hx.2.2.2.2.1
  have hsp : rowAt M 23 22 1 sp := hx.2.2.2.2.2.1
  have hf : M 24 7 = pm t := hx.2.2.2.2.2.2.1
  have hlk : lk0 M L := hx.2.2.2.2.2.2.2
  obtain ⟨o1, o2, o3⟩ := ord_facts n hn0 (by omega) ht
  have ob : ∀ x ∈ ordF (M 1) n, x < 24 := fun x hx => by have := o3 x hx; omega
  have ob2 : ∀ x ∈ ordF (M 1) n, x < (ordF (M 1) n).length := fun x hx => by rw [o1]; exact o3 x hx
  have ab : ∀ x ∈ arrF (M 1) (ordF (M 1) n), x < 24 := fun x hx => ob x (arrF_mem.mp hx).1
  have sb : shB (shN M n) (M 1) n := shB_now mk hn
  show Ev _ _ 0 [.ref 24] [] M _
  refine ev_aload_n 1 dX7_caught_0 rfl rfl ?_
  refine ev_getR 4 dX7_caught_1 rfl flX7_10 rfl rfl ?_
  refine ev_aload_n 5 dX7_caught_4 rfl rfl ?_
  refine ev_getIv 8 (pm t) dX7_caught_5 rfl flX7_64 rfl rfl hf ?_
  refine ev_aload_n 9 dX7_caught_8 rfl rfl ?_
  refine ev_getR 12 dX7_caught_9 rfl flX7_10 rfl rfl ?_
  refine ev_cV0I _ M 15 dX7_caught_12 mlX7_94 moX2_shownNow rfl imX2_shownNow ⟨_, _, rfl, rfl, rfl⟩ (Nat.le_of_ble_eq_true rfl) (Nat.le_of_ble_eq_true rfl) rfl (s_X2_shownNow hn hsz) ?_
  refine ev_cV2I (optI (trS (M 1) t)) M 18 dX7_caught_15 mlX7_149 moX2_trapAround rfl imX2_trapAround ⟨_, _, rfl, rfl, rfl⟩ (Nat.le_of_ble_eq_true rfl) (Nat.le_of_ble_eq_true rfl) rfl (by have z := s_X2_trapAround (X := XS0) (M := M) hn hsz (pm t) (shN M n); rwa [show (if inB (pm t) n then lastF ((M 2 (pm t).toNatClampNeg &&& M 4 5) &&& shN M n) 24 else -1) = trpF M n (shN M n) (pm t) from rfl, trp_eq mk (TE.rf _) ht hn sb t ht2 hfs] at z) ?_
  exact ev_iret dX7_caught_18 rfl (xp_sm rfl hx)
theorem xs_foc {M : Mm} {h : Nat → Int32} {n t L : Nat} {sp : List Nat} (hx : XS M (h, n, t, sp) L) (t2 : Nat) {v : Int32} (e : v = pm t2) : XS (mst M 24 7 v) (h, n, t2, sp) L := by
  obtain ⟨x1, x2, x3, x4, x5, x6, x7, x8⟩ := hx
  have o : ∀ k, k ≠ 24 → mst M 24 7 v k = M k := fun k hk => mst_other _ _ _ hk
  exact ⟨(o 1 (by decide)).trans x1, by rw [o 0 (by decide)]; exact x2, x3.of (o 5 (by decide)) (by rw [o 0 (by decide)]), mk_of (o 2 (by decide)) (o 3 (by decide)) (o 4 (by decide)) x4, x5.of (o 12 (by decide)) (by rw [o 11 (by decide)]), x6.of (o 23 (by decide)) (by rw [o 22 (by decide)]), by rw [mst_same, upd, if_pos rfl]; exact e, lk_of (o 13 (by decide)) (o 18 (by decide)) x8⟩
theorem x_leave {M : Mm} {n t L : Nat} {sp : List Nat} (g : GS (M 1, n, t, sp)) (hx : XS M (M 1, n, t, sp) L) : Ct XSh mX7_leave [.ref 24] M (XP (pm t, (M 1, n, 0, sp)) L) := by
  have hn0 : 0 < n := g.1.1.1
  have hn : n ≤ 24 := g.1.1.2
  have ht : TR (M 1) n := g.1.2.1
  have hlab : ∀ a, a < n → labOK (M 1) n a := g.1.2.2.1
  have hpl : ∀ y, y < n → plOK (M 1) y := g.1.2.2.2.1
  have hco : ∀ a, a < n → colOK (M 1) a := g.1.2.2.2.2.1
  have h01 : ∀ x, x < n → h01 (M 1) x := g.1.2.2.2.2.2.1
  have ho : opsOK (M 1) n := g.1.2.2.2.2.2.2.1
  have hz : ∀ j, n * 18 ≤ j → M 1 j = 0 := g.1.2.2.2.2.2.2.2
  have h6 : (dsF (M 1) n n).length ≤ 6 := g.2.1
  have ht2 : t ≤ n := g.2.2.1
  have hfs : ∀ a, t = a + 1 → shwn (M 1) a = true := g.2.2.2.1
  have hnd : sp.Nodup := g.2.2.2.2.1
  have hsb : ∀ y ∈ sp, y < 24 := g.2.2.2.2.2
  have hsz : M 0 5 = nI n := hx.2.1
  have hor : rowAt M 5 0 5 (ordF (M 1) n) := hx.2.2.1
  have mk : MK M (M 1) n := hx.2.2.2.1
  have hst : rowAt M 12 11 2 (arrF (M 1) (ordF (M 1) n)) := hx.2.2.2.2.1
  have hsp : rowAt M 23 22 1 sp := hx.2.2.2.2.2.1
  have hf : M 24 7 = pm t := hx.2.2.2.2.2.2.1
  have hlk : lk0 M L := hx.2.2.2.2.2.2.2
  obtain ⟨o1, o2, o3⟩ := ord_facts n hn0 (by omega) ht
  have ob : ∀ x ∈ ordF (M 1) n, x < 24 := fun x hx => by have := o3 x hx; omega
  have ob2 : ∀ x ∈ ordF (M 1) n, x < (ordF (M 1) n).length := fun x hx => by rw [o1]; exact o3 x hx
  have ab : ∀ x ∈ arrF (M 1) (ordF (M 1) n), x < 24 := fun x hx => ob x (arrF_mem.mp hx).1
  have sb : shB (shN M n) (M 1) n := shB_now mk hn
  show Ev _ _ 0 [.ref 24, .null] [] M _
  refine ev_aload_n 1 dX7_leave_0 rfl rfl ?_
  refine ev_getIv 4 (pm t) dX7_leave_1 rfl flX7_64 rfl rfl hf ?_
  refine ev_istore_n 5 _ dX7_leave_4 (by decide) rfl rfl rfl ?_
  refine ev_aload_n 6 dX7_leave_5 rfl rfl ?_
  refine ev_iconst 7 (-1) dX7_leave_6 (by decide) rfl ?_
  refine ev_putI 10 dX7_leave_7 rfl flX7_64 fiX7_7 rfl rfl ?_
  refine ev_iload_n 11 dX7_leave_10 rfl rfl ?_
  exact ev_iret dX7_leave_11 rfl (xp_sm rfl (xs_foc hx 0 pm_0.symm))
theorem xs_spk {M M2 : Mm} {h : Nat → Int32} {n t L : Nat} {sp sp2 : List Nat} (hx : XS M (h, n, t, sp) L) (s : Sm22 M M2) (r : rowAt M2 23 22 1 sp2) : XS M2 (h, n, t, sp2) L := by
  obtain ⟨x1, x2, x3, x4, x5, x6, x7, x8⟩ := hx
  exact ⟨(s 1 (by decide) (by decide)).trans x1, by rw [s 0 (by decide) (by decide)]; exact x2, x3.of (s 5 (by decide) (by decide)) (by rw [s 0 (by decide) (by decide)]), mk_of (s 2 (by decide) (by decide)) (s 3 (by decide) (by decide)) (s 4 (by decide) (by decide)) x4, x5.of (s 12 (by decide) (by decide)) (by rw [s 11 (by decide) (by decide)]), r, by rw [s 24 (by decide) (by decide)]; exact x7, lk_of (s 13 (by decide) (by decide)) (s 18 (by decide) (by decide)) x8⟩
theorem x_hear {M : Mm} {n t L : Nat} {sp : List Nat} (g : GS (M 1, n, t, sp)) (hx : XS M (M 1, n, t, sp) L) : Ct XSh mX7_hear [.ref 24] M (XP (hdF sp, (M 1, n, t, sp.tail)) L) := by
  have hn0 : 0 < n := g.1.1.1
  have hn : n ≤ 24 := g.1.1.2
  have ht : TR (M 1) n := g.1.2.1
  have hlab : ∀ a, a < n → labOK (M 1) n a := g.1.2.2.1
  have hpl : ∀ y, y < n → plOK (M 1) y := g.1.2.2.2.1
  have hco : ∀ a, a < n → colOK (M 1) a := g.1.2.2.2.2.1
  have h01 : ∀ x, x < n → h01 (M 1) x := g.1.2.2.2.2.2.1
  have ho : opsOK (M 1) n := g.1.2.2.2.2.2.2.1
  have hz : ∀ j, n * 18 ≤ j → M 1 j = 0 := g.1.2.2.2.2.2.2.2
  have h6 : (dsF (M 1) n n).length ≤ 6 := g.2.1
  have ht2 : t ≤ n := g.2.2.1
  have hfs : ∀ a, t = a + 1 → shwn (M 1) a = true := g.2.2.2.1
  have hnd : sp.Nodup := g.2.2.2.2.1
  have hsb : ∀ y ∈ sp, y < 24 := g.2.2.2.2.2
  have hsz : M 0 5 = nI n := hx.2.1
  have hor : rowAt M 5 0 5 (ordF (M 1) n) := hx.2.2.1
  have mk : MK M (M 1) n := hx.2.2.2.1
  have hst : rowAt M 12 11 2 (arrF (M 1) (ordF (M 1) n)) := hx.2.2.2.2.1
  have hsp : rowAt M 23 22 1 sp := hx.2.2.2.2.2.1
  have hf : M 24 7 = pm t := hx.2.2.2.2.2.2.1
  have hlk : lk0 M L := hx.2.2.2.2.2.2.2
  obtain ⟨o1, o2, o3⟩ := ord_facts n hn0 (by omega) ht
  have ob : ∀ x ∈ ordF (M 1) n, x < 24 := fun x hx => by have := o3 x hx; omega
  have ob2 : ∀ x ∈ ordF (M 1) n, x < (ordF (M 1) n).length := fun x hx => by rw [o1]; exact o3 x hx
  have ab : ∀ x ∈ arrF (M 1) (ordF (M 1) n), x < 24 := fun x hx => ob x (arrF_mem.mp hx).1
  have sb : shB (shN M n) (M 1) n := shB_now mk hn
  show Ev _ _ 0 [.ref 24] [] M _
  refine ev_aload_n 1 dX7_hear_0 rfl rfl ?_
  refine ev_getR 4 dX7_hear_1 rfl flX7_60 rfl rfl ?_
  refine ev_cV0 7 dX7_hear_4 mlX7_161 moX4_takeFirst rfl imX4_takeFirst ⟨_, _, rfl, rfl, rfl⟩ (Nat.le_of_ble_eq_true rfl) (Nat.le_of_ble_eq_true rfl) rfl (s_X4_takeFirst hsp) ?_
  rintro r M2 ⟨rfl, h2, h3⟩
  exact ev_iret dX7_hear_7 rfl (xp_sm rfl (xs_spk hx h2 h3))
theorem x_wrongs {M : Mm} {n t L : Nat} {sp : List Nat} (g : GS (M 1, n, t, sp)) (hx : XS M (M 1, n, t, sp) L) : Ct XSh mX7_wrongs [.ref 24] M (XP (nI (wrS (M 1) n).length, (M 1, n, t, sp)) L) := by
  have hn0 : 0 < n := g.1.1.1
  have hn : n ≤ 24 := g.1.1.2
  have ht : TR (M 1) n := g.1.2.1
  have hlab : ∀ a, a < n → labOK (M 1) n a := g.1.2.2.1
  have hpl : ∀ y, y < n → plOK (M 1) y := g.1.2.2.2.1
  have hco : ∀ a, a < n → colOK (M 1) a := g.1.2.2.2.2.1
  have h01 : ∀ x, x < n → h01 (M 1) x := g.1.2.2.2.2.2.1
  have ho : opsOK (M 1) n := g.1.2.2.2.2.2.2.1
  have hz : ∀ j, n * 18 ≤ j → M 1 j = 0 := g.1.2.2.2.2.2.2.2
  have h6 : (dsF (M 1) n n).length ≤ 6 := g.2.1
  have ht2 : t ≤ n := g.2.2.1
  have hfs : ∀ a, t = a + 1 → shwn (M 1) a = true := g.2.2.2.1
  have hnd : sp.Nodup := g.2.2.2.2.1
  have hsb : ∀ y ∈ sp, y < 24 := g.2.2.2.2.2
  have hsz : M 0 5 = nI n := hx.2.1
  have hor : rowAt M 5 0 5 (ordF (M 1) n) := hx.2.2.1
  have mk : MK M (M 1) n := hx.2.2.2.1
  have hst : rowAt M 12 11 2 (arrF (M 1) (ordF (M 1) n)) := hx.2.2.2.2.1
  have hsp : rowAt M 23 22 1 sp := hx.2.2.2.2.2.1
  have hf : M 24 7 = pm t := hx.2.2.2.2.2.2.1
  have hlk : lk0 M L := hx.2.2.2.2.2.2.2
  obtain ⟨o1, o2, o3⟩ := ord_facts n hn0 (by omega) ht
  have ob : ∀ x ∈ ordF (M 1) n, x < 24 := fun x hx => by have := o3 x hx; omega
  have ob2 : ∀ x ∈ ordF (M 1) n, x < (ordF (M 1) n).length := fun x hx => by rw [o1]; exact o3 x hx
  have ab : ∀ x ∈ arrF (M 1) (ordF (M 1) n), x < 24 := fun x hx => ob x (arrF_mem.mp hx).1
  have sb : shB (shN M n) (M 1) n := shB_now mk hn
  show Ev _ _ 0 [.ref 24] [] M _
  refine ev_aload_n 1 dX7_wrongs_0 rfl rfl ?_
  refine ev_getR 4 dX7_wrongs_1 rfl flX7_53 rfl rfl ?_
  refine ev_cV0 7 dX7_wrongs_4 mlX7_164 moX0_gather rfl imX0_gather ⟨_, _, rfl, rfl, rfl⟩ (Nat.le_of_ble_eq_true rfl) (Nat.le_of_ble_eq_true rfl) rfl (s_X0_gather (M := M) hor ob2 (by rw [o1]; exact hco)) ?_
  rintro r M2 ⟨rfl, h2, h3⟩
  rw [wr_eq mk ht hn0 hn hor ho hlab] at h3
  have hx2 := xs_fr hx h2
  refine ev_aload_n 8 dX7_wrongs_7 rfl rfl ?_
  refine ev_getR 11 dX7_wrongs_8 rfl flX7_53 rfl rfl ?_
  refine ev_getIv 14 (nI (wrS (M 1) n).length) dX7_wrongs_11 rfl flX7_166 rfl rfl h3.1 ?_
  exact ev_iret dX7_wrongs_14 rfl (xp_sm rfl hx2)
theorem x_wrong {M : Mm} {n t L : Nat} {sp : List Nat} (g : GS (M 1, n, t, sp)) (hx : XS M (M 1, n, t, sp) L) (k w : Int32) : Ct XSh mX7_wrong [.ref 24, .int k, .int w] M (XP (spWrong (M 1) n k w, (M 1, n, t, sp)) L) := by
  have hn0 : 0 < n := g.1.1.1
  have hn : n ≤ 24 := g.1.1.2
  have ht : TR (M 1) n := g.1.2.1
  have hlab : ∀ a, a < n → labOK (M 1) n a := g.1.2.2.1
  have hpl : ∀ y, y < n → plOK (M 1) y := g.1.2.2.2.1
  have hco : ∀ a, a < n → colOK (M 1) a := g.1.2.2.2.2.1
  have h01 : ∀ x, x < n → h01 (M 1) x := g.1.2.2.2.2.2.1
  have ho : opsOK (M 1) n := g.1.2.2.2.2.2.2.1
  have hz : ∀ j, n * 18 ≤ j → M 1 j = 0 := g.1.2.2.2.2.2.2.2
  have h6 : (dsF (M 1) n n).length ≤ 6 := g.2.1
  have ht2 : t ≤ n := g.2.2.1
  have hfs : ∀ a, t = a + 1 → shwn (M 1) a = true := g.2.2.2.1
  have hnd : sp.Nodup := g.2.2.2.2.1
  have hsb : ∀ y ∈ sp, y < 24 := g.2.2.2.2.2
  have hsz : M 0 5 = nI n := hx.2.1
  have hor : rowAt M 5 0 5 (ordF (M 1) n) := hx.2.2.1
  have mk : MK M (M 1) n := hx.2.2.2.1
  have hst : rowAt M 12 11 2 (arrF (M 1) (ordF (M 1) n)) := hx.2.2.2.2.1
  have hsp : rowAt M 23 22 1 sp := hx.2.2.2.2.2.1
  have hf : M 24 7 = pm t := hx.2.2.2.2.2.2.1
  have hlk : lk0 M L := hx.2.2.2.2.2.2.2
  obtain ⟨o1, o2, o3⟩ := ord_facts n hn0 (by omega) ht
  have ob : ∀ x ∈ ordF (M 1) n, x < 24 := fun x hx => by have := o3 x hx; omega
  have ob2 : ∀ x ∈ ordF (M 1) n, x < (ordF (M 1) n).length := fun x hx => by rw [o1]; exact o3 x hx
  have ab : ∀ x ∈ arrF (M 1) (ordF (M 1) n), x < 24 := fun x hx => ob x (arrF_mem.mp hx).1
  have sb : shB (shN M n) (M 1) n := shB_now mk hn
  show Ev _ _ 0 [.ref 24, .int k, .int w] [] M _
  refine ev_iload_n 1 dX7_wrong_0 rfl rfl ?_
  refine ev_if_eq 4 12 dX7_wrong_1 (by decide) rfl (fun c1 => ?_) (fun c1 => ?_)
  · refine ev_aload_n 13 dX7_wrong_12 rfl rfl ?_
    refine ev_getR 16 dX7_wrong_13 rfl flX7_53 rfl rfl ?_
    refine ev_cV0 19 dX7_wrong_16 mlX7_164 moX0_gather rfl imX0_gather ⟨_, _, rfl, rfl, rfl⟩ (Nat.le_of_ble_eq_true rfl) (Nat.le_of_ble_eq_true rfl) rfl (s_X0_gather (M := M) hor ob2 (by rw [o1]; exact hco)) ?_
    rintro r M2 ⟨rfl, h2, h3⟩
    rw [wr_eq mk ht hn0 hn hor ho hlab] at h3
    have hx2 := xs_fr hx h2
    refine ev_iload_n 20 dX7_wrong_19 rfl rfl ?_
    refine ev_if_ne 23 34 dX7_wrong_20 (by decide) rfl (fun c20 => ?_) (fun c20 => ?_)
    · refine ev_aload_n 35 dX7_wrong_34 rfl rfl ?_
      refine ev_getR 38 dX7_wrong_35 rfl flX7_53 rfl rfl ?_
      refine ev_iload_n 39 dX7_wrong_38 rfl rfl ?_
      refine ev_cV1I _ M2 42 dX7_wrong_39 mlX7_172 moX0_sortAt rfl imX0_sortAt ⟨_, _, rfl, rfl, rfl⟩ (Nat.le_of_ble_eq_true rfl) (Nat.le_of_ble_eq_true rfl) rfl (s_X0_sortAt k h3) ?_
      exact ev_iret dX7_wrong_42 rfl (absurd c1 c20)
    · refine ev_aload_n 24 dX7_wrong_23 rfl rfl ?_
      refine ev_getR 27 dX7_wrong_24 rfl flX7_53 rfl rfl ?_
      refine ev_iload_n 28 dX7_wrong_27 rfl rfl ?_
      refine ev_cV1I _ M2 31 dX7_wrong_28 mlX7_169 moX0_partAt rfl imX0_partAt ⟨_, _, rfl, rfl, rfl⟩ (Nat.le_of_ble_eq_true rfl) (Nat.le_of_ble_eq_true rfl) rfl (s_X0_partAt k h3) ?_
      refine ev_goto 42 dX7_wrong_31 (by decide) ?_
      exact ev_iret dX7_wrong_42 rfl (xp_sm (by rw [spWrong, if_neg (by rw [c1]; decide), if_pos c1]) hx2)
  · refine ev_iload_n 5 dX7_wrong_4 rfl rfl ?_
    refine ev_iconst 6 (nI 1) dX7_wrong_5 (by decide) rfl ?_
    refine ev_icmp_eq 9 12 dX7_wrong_6 (by decide) rfl (fun c6 => ?_) (fun c6 => ?_)
    · refine ev_aload_n 13 dX7_wrong_12 rfl rfl ?_
      refine ev_getR 16 dX7_wrong_13 rfl flX7_53 rfl rfl ?_
      refine ev_cV0 19 dX7_wrong_16 mlX7_164 moX0_gather rfl imX0_gather ⟨_, _, rfl, rfl, rfl⟩ (Nat.le_of_ble_eq_true rfl) (Nat.le_of_ble_eq_true rfl) rfl (s_X0_gather (M := M) hor ob2 (by rw [o1]; exact hco)) ?_
      rintro r M2 ⟨rfl, h2, h3⟩
      rw [wr_eq mk ht hn0 hn hor ho hlab] at h3
      have hx2 := xs_fr hx h2
      refine ev_iload_n 20 dX7_wrong_19 rfl rfl ?_
      refine ev_if_ne 23 34 dX7_wrong_20 (by decide) rfl (fun c20 => ?_) (fun c20 => ?_)
      · refine ev_aload_n 35 dX7_wrong_34 rfl rfl ?_
        refine ev_getR 38 dX7_wrong_35 rfl flX7_53 rfl rfl ?_
        refine ev_iload_n 39 dX7_wrong_38 rfl rfl ?_
        refine ev_cV1I _ M2 42 dX7_wrong_39 mlX7_172 moX0_sortAt rfl imX0_sortAt ⟨_, _, rfl, rfl, rfl⟩ (Nat.le_of_ble_eq_true rfl) (Nat.le_of_ble_eq_true rfl) rfl (s_X0_sortAt k h3) ?_
        exact ev_iret dX7_wrong_42 rfl (xp_sm (by rw [spWrong, if_neg (by rw [c6]; decide), if_neg c1]) hx2)
      · refine ev_aload_n 24 dX7_wrong_23 rfl rfl ?_
        refine ev_getR 27 dX7_wrong_24 rfl flX7_53 rfl rfl ?_
        refine ev_iload_n 28 dX7_wrong_27 rfl rfl ?_
        refine ev_cV1I _ M2 31 dX7_wrong_28 mlX7_169 moX0_partAt rfl imX0_partAt ⟨_, _, rfl, rfl, rfl⟩ (Nat.le_of_ble_eq_true rfl) (Nat.le_of_ble_eq_true rfl) rfl (s_X0_partAt k h3) ?_
        refine ev_goto 42 dX7_wrong_31 (by decide) ?_
        exact ev_iret dX7_wrong_42 rfl (absurd c20 c1)
    · refine ev_bipush 11 (-102) dX7_wrong_9 (by decide) rfl ?_
      exact ev_iret dX7_wrong_11 rfl (xp_sm (by rw [spWrong, if_pos (inB_2 c1 c6)]) hx)
theorem stp_cnt {M : Mm} {n : Nat} {sh : Int32} (mk : MK M (M 1) n) (ht : TR (M 1) n) (hn0 : 0 < n) (hn : n ≤ 24) (sb : shB sh (M 1) n) : popN (sh &&& (M 4 2 ||| M 4 3)) = (stpL (M 1) none (ordF (M 1) n)).length := by
  rw [pop_cnt (P := fun k => stK (M 1) k && shwn (M 1) k) hn (fun i hi => sst_bit mk hn sb hi), stpL, foldl_ins_len, List.length_nil, Nat.add_zero, ← ord_cnt ht hn0 hn]
  congr 2
  funext k
  show _ = (_ && true)
  rw [Bool.and_true]
theorem x_count {M : Mm} {n t L : Nat} {sp : List Nat} (g : GS (M 1, n, t, sp)) (hx : XS M (M 1, n, t, sp) L) (w : Int32) : Ct XSh mX7_count [.ref 24, .int w] M (XP (spCount (M 1) n sp w, (M 1, n, t, sp)) L) := by
  have hn0 : 0 < n := g.1.1.1
  have hn : n ≤ 24 := g.1.1.2
  have ht : TR (M 1) n := g.1.2.1
  have hlab : ∀ a, a < n → labOK (M 1) n a := g.1.2.2.1
  have hpl : ∀ y, y < n → plOK (M 1) y := g.1.2.2.2.1
  have hco : ∀ a, a < n → colOK (M 1) a := g.1.2.2.2.2.1
  have h01 : ∀ x, x < n → h01 (M 1) x := g.1.2.2.2.2.2.1
  have ho : opsOK (M 1) n := g.1.2.2.2.2.2.2.1
  have hz : ∀ j, n * 18 ≤ j → M 1 j = 0 := g.1.2.2.2.2.2.2.2
  have h6 : (dsF (M 1) n n).length ≤ 6 := g.2.1
  have ht2 : t ≤ n := g.2.2.1
  have hfs : ∀ a, t = a + 1 → shwn (M 1) a = true := g.2.2.2.1
  have hnd : sp.Nodup := g.2.2.2.2.1
  have hsb : ∀ y ∈ sp, y < 24 := g.2.2.2.2.2
  have hsz : M 0 5 = nI n := hx.2.1
  have hor : rowAt M 5 0 5 (ordF (M 1) n) := hx.2.2.1
  have mk : MK M (M 1) n := hx.2.2.2.1
  have hst : rowAt M 12 11 2 (arrF (M 1) (ordF (M 1) n)) := hx.2.2.2.2.1
  have hsp : rowAt M 23 22 1 sp := hx.2.2.2.2.2.1
  have hf : M 24 7 = pm t := hx.2.2.2.2.2.2.1
  have hlk : lk0 M L := hx.2.2.2.2.2.2.2
  obtain ⟨o1, o2, o3⟩ := ord_facts n hn0 (by omega) ht
  have ob : ∀ x ∈ ordF (M 1) n, x < 24 := fun x hx => by have := o3 x hx; omega
  have ob2 : ∀ x ∈ ordF (M 1) n, x < (ordF (M 1) n).length := fun x hx => by rw [o1]; exact o3 x hx
  have ab : ∀ x ∈ arrF (M 1) (ordF (M 1) n), x < 24 := fun x hx => ob x (arrF_mem.mp hx).1
  have sb : shB (shN M n) (M 1) n := shB_now mk hn
  show Ev _ _ 0 [.ref 24, .int w] [] M _
  refine ev_iload_n 1 dX7_count_0 rfl rfl ?_
  by_cases hsw : inB w 6 = true
  · obtain ⟨jsw, hjsw, rfl⟩ := inB_of hsw (by omega)
    rcases (show jsw = 0 ∨ jsw = 1 ∨ jsw = 2 ∨ jsw = 3 ∨ jsw = 4 ∨ jsw = 5 by omega) with rfl | rfl | rfl | rfl | rfl | rfl
    · refine ev_tabIn 40 dX7_count_1 (by decide) (by decide) rfl (by decide) ?_
      refine ev_aload_n 41 dX7_count_40 rfl rfl ?_
      refine ev_getR 44 dX7_count_41 rfl flX7_10 rfl rfl ?_
      refine ev_getIv 47 (nI n) dX7_count_44 rfl flX7_178 rfl rfl hsz ?_
      exact ev_iret dX7_count_47 rfl (xp_sm rfl hx)
    · refine ev_tabIn 48 dX7_count_1 (by decide) (by decide) rfl (by decide) ?_
      refine ev_aload_n 49 dX7_count_48 rfl rfl ?_
      refine ev_getR 52 dX7_count_49 rfl flX7_10 rfl rfl ?_
      refine ev_cV0I _ M 55 dX7_count_52 mlX7_94 moX2_shownNow rfl imX2_shownNow ⟨_, _, rfl, rfl, rfl⟩ (Nat.le_of_ble_eq_true rfl) (Nat.le_of_ble_eq_true rfl) rfl (s_X2_shownNow hn hsz) ?_
      refine ev_cS1I (nI (fb_ct (shwn (M 1)) n)) M 58 dX7_count_55 mlX7_179 moJ6_bitCount_0f7a4 rfl smJ6_bitCount_0f7a4 (Nat.le_of_ble_eq_true rfl) (Nat.le_of_ble_eq_true rfl) rfl (by have z := s_bitCount (Sh := XSh) (M := M) (shN M n); rwa [pop_cnt hn sb] at z) ?_
      exact ev_iret dX7_count_58 rfl (xp_sm rfl hx)
    · refine ev_tabIn 59 dX7_count_1 (by decide) (by decide) rfl (by decide) ?_
      refine ev_aload_n 60 dX7_count_59 rfl rfl ?_
      refine ev_getR 63 dX7_count_60 rfl flX7_10 rfl rfl ?_
      refine ev_aload_n 64 dX7_count_63 rfl rfl ?_
      refine ev_getR 67 dX7_count_64 rfl flX7_10 rfl rfl ?_
      refine ev_cV0I _ M 70 dX7_count_67 mlX7_94 moX2_shownNow rfl imX2_shownNow ⟨_, _, rfl, rfl, rfl⟩ (Nat.le_of_ble_eq_true rfl) (Nat.le_of_ble_eq_true rfl) rfl (s_X2_shownNow hn hsz) ?_
      refine ev_cV1I _ M 73 dX7_count_70 mlX7_184 moX2_stopsAmong rfl imX2_stopsAmong ⟨_, _, rfl, rfl, rfl⟩ (Nat.le_of_ble_eq_true rfl) (Nat.le_of_ble_eq_true rfl) rfl (s_X2_stopsAmong (shN M n)) ?_
      refine ev_cS1I (nI (stpL (M 1) none (ordF (M 1) n)).length) M 76 dX7_count_73 mlX7_179 moJ6_bitCount_0f7a4 rfl smJ6_bitCount_0f7a4 (Nat.le_of_ble_eq_true rfl) (Nat.le_of_ble_eq_true rfl) rfl (by have z := s_bitCount (Sh := XSh) (M := M) (shN M n &&& (M 4 2 ||| M 4 3)); rwa [stp_cnt mk ht hn0 hn sb] at z) ?_
      exact ev_iret dX7_count_76 rfl (xp_sm rfl hx)
    · refine ev_tabIn 77 dX7_count_1 (by decide) (by decide) rfl (by decide) ?_
      refine ev_aload_n 78 dX7_count_77 rfl rfl ?_
      refine ev_getR 81 dX7_count_78 rfl flX7_28 rfl rfl ?_
      refine ev_aload_n 82 dX7_count_81 rfl rfl ?_
      refine ev_getR 85 dX7_count_82 rfl flX7_10 rfl rfl ?_
      refine ev_cV0I _ M 88 dX7_count_85 mlX7_94 moX2_shownNow rfl imX2_shownNow ⟨_, _, rfl, rfl, rfl⟩ (Nat.le_of_ble_eq_true rfl) (Nat.le_of_ble_eq_true rfl) rfl (s_X2_shownNow hn hsz) ?_
      refine ev_cV1 91 dX7_count_88 mlX7_128 moX3_gather rfl imX3_gather ⟨_, _, rfl, rfl, rfl⟩ (Nat.le_of_ble_eq_true rfl) (Nat.le_of_ble_eq_true rfl) rfl (s_X3_gather (M := M) (shN M n) hor ob2) ?_
      rintro r M2 ⟨rfl, h2, h3⟩
      rw [said_eq mk ht hn0 hn sb] at h3
      have hx2 := xs_fr hx (fun k hk => h2 k (by rintro rfl; exact hk (by decide)) (by rintro rfl; exact hk (by decide)))
      refine ev_aload_n 92 dX7_count_91 rfl rfl ?_
      refine ev_getR 95 dX7_count_92 rfl flX7_28 rfl rfl ?_
      refine ev_getIv 98 (nI (saidF (M 1) n).length) dX7_count_95 rfl flX7_187 rfl rfl h3.1 ?_
      exact ev_iret dX7_count_98 rfl (xp_sm rfl hx2)
    · refine ev_tabIn 99 dX7_count_1 (by decide) (by decide) rfl (by decide) ?_
      refine ev_aload_n 100 dX7_count_99 rfl rfl ?_
      refine ev_getR 103 dX7_count_100 rfl flX7_60 rfl rfl ?_
      refine ev_getIv 106 (nI sp.length) dX7_count_103 rfl flX7_188 rfl rfl hsp.1 ?_
      exact ev_iret dX7_count_106 rfl (xp_sm rfl hx)
    · refine ev_tabIn 107 dX7_count_1 (by decide) (by decide) rfl (by decide) ?_
      refine ev_aload_n 108 dX7_count_107 rfl rfl ?_
      refine ev_getR 111 dX7_count_108 rfl flX7_10 rfl rfl ?_
      refine ev_iconst 112 (-1) dX7_count_111 (by decide) rfl ?_
      refine ev_cV1I _ M 115 dX7_count_112 mlX7_189 moX2_openedBesides rfl imX2_openedBesides ⟨_, _, rfl, rfl, rfl⟩ (Nat.le_of_ble_eq_true rfl) (Nat.le_of_ble_eq_true rfl) rfl (s_X2_openedBesides (-1) hn hsz) ?_
      refine ev_cS1I (nI (fb_ct (opC (M 1) (-1) n) n)) M 118 dX7_count_115 mlX7_179 moJ6_bitCount_0f7a4 rfl smJ6_bitCount_0f7a4 (Nat.le_of_ble_eq_true rfl) (Nat.le_of_ble_eq_true rfl) rfl (by have z := s_bitCount (Sh := XSh) (M := M) (opdF M (-1) n); rwa [opn_cnt hn ho] at z) ?_
      exact ev_iret dX7_count_118 rfl (xp_sm rfl hx)
  · refine ev_tabOut 119 dX7_count_1 (outB hsw) (by decide) ?_
    refine ev_bipush 121 (-102) dX7_count_119 (by decide) rfl ?_
    exact ev_iret dX7_count_121 rfl (xp_sm (by rw [spCount, if_neg (fun z => hsw (by rw [z]; decide)), if_neg (fun z => hsw (by rw [z]; decide)), if_neg (fun z => hsw (by rw [z]; decide)), if_neg (fun z => hsw (by rw [z]; decide)), if_neg (fun z => hsw (by rw [z]; decide)), if_neg (fun z => hsw (by rw [z]; decide))]) hx)
end
