section
/-! the reference's calls (III): press, mend, count, digest -/
theorem wrPS_in {h : Nat → Int32} {n : Nat} {ns : Nat → List Int32} {sl : List Nat} {p : Nat} : ∀ s, ∀ e ∈ wrPS h n ns sl p s, e.1 = p ∧ e.2 < s
  | 0, e, he => absurd he List.not_mem_nil
  | s + 1, e, he => by
    rw [wrPS] at he
    rcases List.mem_append.mp he with z | z
    · have := wrPS_in s e z
      exact ⟨this.1, by omega⟩
    · split at z
      · have : e = (p, s) := by simpa using z
        rw [this]
        exact ⟨rfl, by omega⟩
      · cases z
theorem wrOS_in {h : Nat → Int32} {n : Nat} {ns : Nat → List Int32} {sl : List Nat} : ∀ k, ∀ e ∈ wrOS h n ns sl k, e.1 < k ∧ e.2 < 6
  | 0, e, he => absurd he List.not_mem_nil
  | k + 1, e, he => by
    rw [wrOS] at he
    rcases List.mem_append.mp he with z | z
    · have := wrOS_in k e z
      exact ⟨by omega, this.2⟩
    · have := wrPS_in 6 e z
      exact ⟨by omega, this.2⟩
theorem wrS_in {h : Nat → Int32} {n j : Nat} (hj : j < (wrS h n).length) : pr1 (wrS h n) j < n ∧ pr2 (wrS h n) j < 6 := by
  have e : ((wrS h n).getD j (0, 0)) ∈ wrS h n := by
    have : (wrS h n).getD j (0, 0) = (wrS h n)[j] := by simp [hj]
    rw [this]
    exact List.getElem_mem hj
  exact wrOS_in n _ e
theorem inkN_lt (v : Nat) : inkN v < 2 ^ 24 := by
  unfold inkN
  split <;> decide
theorem gs_mend {h : Nat → Int32} {n t p s : Nat} {sp : List Nat} (g : GS (h, n, t, sp)) (hp : p < n) : GS (mndH h p s, n, t, sp) := by
  unfold mndH
  split
  · exact gs_upd (gs_upd (gs_upd g hp ⟨by omega, by omega, by omega, fun _ => Or.inl rfl, by omega, by omega, by omega, by omega⟩ (by omega) (by omega)) hp ⟨by omega, by omega, by omega, fun _ => Or.inl rfl, by omega, by omega, by omega, by omega⟩ (by omega) (by omega)) hp ⟨by omega, by omega, by omega, by omega, by omega, by omega, by omega, by omega⟩ (by omega) (by omega)
  · split
    · exact gs_upd g hp ⟨by omega, by omega, by omega, by omega, by omega, fun _ => ⟨_, inkN_lt _, rfl⟩, by omega, by omega⟩ (by omega) (by omega)
    · split
      · exact gs_upd g hp ⟨by omega, by omega, by omega, by omega, by omega, by omega, by omega, by omega⟩ (by omega) (by omega)
      · exact g
theorem r_pressed {M : Mm} {n t : Nat} {sp : List Nat} (g : GS (M 1, n, t, sp)) (hR : RS M (M 1, n, t, sp)) {kk : Nat} (hkk : kk < 3) : Ct MSh mX8_pressed [.ref 0, .int (nI kk), .int (nI 1)] M (fun r M2 => r = none ∧ M2 0 2 = (spPress (M 1) n t sp (nI kk)).1 ∧ RS M2 (spPress (M 1) n t sp (nI kk)).2) := by
  have hn0 : 0 < n := g.1.1.1
  have hn : n ≤ 24 := g.1.1.2
  have ht : TR (M 1) n := g.1.2.1
  have hlab : ∀ a, a < n → labOK (M 1) n a := g.1.2.2.1
  have hpl : ∀ y, y < n → plOK (M 1) y := g.1.2.2.2.1
  have hco : ∀ a, a < n → colOK (M 1) a := g.1.2.2.2.2.1
  have h01 : ∀ x, x < n → h01 (M 1) x := g.1.2.2.2.2.2.1
  have ho : opsOK (M 1) n := g.1.2.2.2.2.2.2.1
  have hz : ∀ j, n * 18 ≤ j → M 1 j = 0 := g.1.2.2.2.2.2.2.2
  have h6 : (dsF (M 1) n n).length ≤ 6 := g.2.1
  have ht2 : t ≤ n := g.2.2.1
  have hfs : ∀ a, t = a + 1 → shwn (M 1) a = true := g.2.2.2.1
  have hnd : sp.Nodup := g.2.2.2.2.1
  have hsb : ∀ y ∈ sp, y < 24 := g.2.2.2.2.2
  have hm : M 0 0 = nI n := hR.2.1
  have hf : M 0 2 = pm t := hR.2.2.1
  have hsp : rowAt M 2 0 3 sp := hR.2.2.2
  have hin : ¬ inB (nI kk) 3 = false := by rw [inB_nI (by omega), decide_eq_true hkk]; decide
  rcases (show kk < 2 ∨ kk = 2 by omega) with c | rfl
  · rw [spPress, if_neg hin, if_neg (fun z => by have := (nI_eq (by omega) (by omega)).mp z; omega), nI_clamp (by omega)]
    exact Ev.mono (s_X8_pressed_01 ht hn0 hn hm hpl ht2 hf c) (fun r M2 z => ⟨z.1, z.2.2, rs_mk hsp (z.2.1.1 1 (by decide) (by decide) (by decide) (by decide)) (by rw [z.2.1.2 0 (by decide) (by decide)]; exact hm) z.2.2 (z.2.1.2 3 (by decide) (by decide)) (z.2.1.1 2 (by decide) (by decide) (by decide) (by decide))⟩)
  · rw [spPress, if_neg hin, if_pos rfl]
    cases e : entP (M 1) t with
    | none => exact Ev.mono (s_X8_enter_none hn t ht2 hf e) (fun r M2 z => ⟨z.1, by rw [z.2]; exact hf, by rw [z.2]; exact hR⟩)
    | some c =>
      obtain ⟨a, rfl, e1, e2, h0, hc⟩ := entP_some hn ho ht2 e
      exact Ev.mono (s_X8_enter_some (b := true) ht hn ht2 hf e1 e2 hc hsp hnd hsb) (fun r M2 z => ⟨z.1, z.2.2.2.2.1, z.2.1, by show M2 0 0 = _; rw [z.2.2.2.1 0 (by decide) (by decide)]; exact hm, z.2.2.2.2.1, z.2.2.2.2.2⟩)
theorem r_press {M : Mm} {n t : Nat} {sp : List Nat} (g : GS (M 1, n, t, sp)) (hR : RS M (M 1, n, t, sp)) (key : Int32) : Ct MSh mX8_press [.ref 0, .int key] M (PS (spPress (M 1) n t sp key)) := by
  have hn0 : 0 < n := g.1.1.1
  have hn : n ≤ 24 := g.1.1.2
  have ht : TR (M 1) n := g.1.2.1
  have hlab : ∀ a, a < n → labOK (M 1) n a := g.1.2.2.1
  have hpl : ∀ y, y < n → plOK (M 1) y := g.1.2.2.2.1
  have hco : ∀ a, a < n → colOK (M 1) a := g.1.2.2.2.2.1
  have h01 : ∀ x, x < n → h01 (M 1) x := g.1.2.2.2.2.2.1
  have ho : opsOK (M 1) n := g.1.2.2.2.2.2.2.1
  have hz : ∀ j, n * 18 ≤ j → M 1 j = 0 := g.1.2.2.2.2.2.2.2
  have h6 : (dsF (M 1) n n).length ≤ 6 := g.2.1
  have ht2 : t ≤ n := g.2.2.1
  have hfs : ∀ a, t = a + 1 → shwn (M 1) a = true := g.2.2.2.1
  have hnd : sp.Nodup := g.2.2.2.2.1
  have hsb : ∀ y ∈ sp, y < 24 := g.2.2.2.2.2
  have hm : M 0 0 = nI n := hR.2.1
  have hf : M 0 2 = pm t := hR.2.2.1
  have hsp : rowAt M 2 0 3 sp := hR.2.2.2
  show Ev _ _ 0 [.ref 0, .int key] [] M _
  refine ev_iload_n 1 dX8_press_0 rfl rfl ?_
  refine ev_i2l 2 dX8_press_1 rfl ?_
  refine ev_lconst 3 (lN 0) dX8_press_2 rfl rfl ?_
  refine ev_ldc2 6 (lN 2) dX8_press_3 kX8_169 rfl ?_
  refine ev_cS3I (bI (inB key 3)) M 9 dX8_press_6 mlX8_64 moX8_in rfl smX8_in (Nat.le_of_ble_eq_true rfl) (Nat.le_of_ble_eq_true rfl) rfl (by have z := s_in (Sh := MSh) (M := M) (key).toInt64 (lN 0) (lN 2); rwa [in_eq key (by omega)] at z) ?_
  refine ev_if_neB 12 15 dX8_press_9 (by decide) rfl (fun c9 => ?_) (fun c9 => ?_)
  · obtain ⟨kk, hkk, rfl⟩ := inB_of c9 (by omega)
    refine ev_aload_n 16 dX8_press_15 rfl rfl ?_
    refine ev_iload_n 17 dX8_press_16 rfl rfl ?_
    refine ev_iconst 18 (nI 1) dX8_press_17 (by decide) rfl ?_
    refine ev_cV2 21 dX8_press_18 mlX8_171 moX8_pressed rfl imX8_pressed ⟨_, _, rfl, rfl, rfl⟩ (Nat.le_of_ble_eq_true rfl) (Nat.le_of_ble_eq_true rfl) rfl (r_pressed g hR hkk) ?_
    rintro r M2 ⟨rfl, h2, h3⟩
    refine ev_aload_n 22 dX8_press_21 rfl rfl ?_
    refine ev_getIv 25 (spPress (M 1) n t sp (nI kk)).1 dX8_press_22 rfl flX8_49 rfl rfl h2 ?_
    exact ev_iret dX8_press_25 rfl (⟨rfl, h3⟩)
  · refine ev_bipush 14 (-102) dX8_press_12 (by decide) rfl ?_
    exact ev_iret dX8_press_14 rfl (ps_of (by rw [spPress, if_pos c9]) hR)
theorem r_mend {M : Mm} {n t : Nat} {sp : List Nat} (g : GS (M 1, n, t, sp)) (hR : RS M (M 1, n, t, sp)) (k : Int32) : Ct MSh mX8_mend [.ref 0, .int k] M (PS (spMend (M 1) n t sp k)) := by
  have hn0 : 0 < n := g.1.1.1
  have hn : n ≤ 24 := g.1.1.2
  have ht : TR (M 1) n := g.1.2.1
  have hlab : ∀ a, a < n → labOK (M 1) n a := g.1.2.2.1
  have hpl : ∀ y, y < n → plOK (M 1) y := g.1.2.2.2.1
  have hco : ∀ a, a < n → colOK (M 1) a := g.1.2.2.2.2.1
  have h01 : ∀ x, x < n → h01 (M 1) x := g.1.2.2.2.2.2.1
  have ho : opsOK (M 1) n := g.1.2.2.2.2.2.2.1
  have hz : ∀ j, n * 18 ≤ j → M 1 j = 0 := g.1.2.2.2.2.2.2.2
  have h6 : (dsF (M 1) n n).length ≤ 6 := g.2.1
  have ht2 : t ≤ n := g.2.2.1
  have hfs : ∀ a, t = a + 1 → shwn (M 1) a = true := g.2.2.2.1
  have hnd : sp.Nodup := g.2.2.2.2.1
  have hsb : ∀ y ∈ sp, y < 24 := g.2.2.2.2.2
  have hm : M 0 0 = nI n := hR.2.1
  have hf : M 0 2 = pm t := hR.2.2.1
  have hsp : rowAt M 2 0 3 sp := hR.2.2.2
  show Ev _ _ 0 [.ref 0, .int k, .null] [] M _
  refine ev_aload_n 1 dX8_mend_0 rfl rfl ?_
  refine ev_cV0 4 dX8_mend_1 mlX8_217 moX8_findWrongs rfl imX8_findWrongs ⟨_, _, rfl, rfl, rfl⟩ (Nat.le_of_ble_eq_true rfl) (Nat.le_of_ble_eq_true rfl) rfl (s_X8_findWrongs ht hn0 hn hm ho hco hlab) ?_
  rintro r M2 ⟨rfl, h2, h3⟩
  have hR2 : RS M2 (M 1, n, t, sp) := rs_mk hsp (h2.1 1 (by decide)) (by rw [h2.2 0 (by decide) (by decide)]; exact hm) (by rw [h2.2 2 (by decide) (by decide)]; exact hf) (h2.2 3 (by decide) (by decide)) (h2.1 2 (by decide))
  have hle := h3.2.1
  refine ev_iload_n 5 dX8_mend_4 rfl rfl ?_
  refine ev_i2l 6 dX8_mend_5 rfl ?_
  refine ev_lconst 7 (lN 0) dX8_mend_6 rfl rfl ?_
  refine ev_aload_n 8 dX8_mend_7 rfl rfl ?_
  refine ev_getIv 11 (nI (wrS (M 1) n).length) dX8_mend_8 rfl flX8_211 rfl rfl h3.1 ?_
  refine ev_iconst 12 (nI 1) dX8_mend_11 (by decide) rfl ?_
  refine ev_isub 13 dX8_mend_12 rfl ?_
  refine ev_eqI (show nI (wrS (M 1) n).length - nI 1 = pm (wrS (M 1) n).length from rfl) ?_
  refine ev_i2l 14 dX8_mend_13 rfl ?_
  refine ev_cS3I (bI (inB k (wrS (M 1) n).length)) M2 17 dX8_mend_14 mlX8_64 moX8_in rfl smX8_in (Nat.le_of_ble_eq_true rfl) (Nat.le_of_ble_eq_true rfl) rfl (by have z := s_in (Sh := MSh) (M := M2) (k).toInt64 (lN 0) (pm (wrS (M 1) n).length).toInt64; rwa [in_pm k (by omega)] at z) ?_
  refine ev_if_neB 20 23 dX8_mend_17 (by decide) rfl (fun c17 => ?_) (fun c17 => ?_)
  · obtain ⟨j, hj, rfl⟩ := inB_of c17 (by omega)
    obtain ⟨hp9, hs9⟩ := wrS_in hj
    have e1 : M2 1 = M 1 := h2.1 1 (by decide)
    have hjc : (nI j).toNatClampNeg = j := nI_clamp (by omega)
    generalize hp1 : pr1 (wrS (M 1) n) j = p at hp9
    generalize hs2 : pr2 (wrS (M 1) n) j = s at hs9
    obtain ⟨vg, hvg, hvg2⟩ := (hco p hp9).2
    have hm2 : M2 0 0 = nI n := hR2.2.1
    have hf2 : M2 0 2 = pm t := hR2.2.2.1
    have hsp2 : rowAt M2 2 0 3 sp := hR2.2.2.2
    refine ev_aload_n 24 dX8_mend_23 rfl rfl ?_
    refine ev_getR 27 dX8_mend_24 rfl flX8_43 rfl rfl ?_
    refine ev_iload_n 28 dX8_mend_27 rfl rfl ?_
    refine ev_iaN 29 (nI p) dX8_mend_28 rfl (by omega) (by decide) rfl (by rw [(h3.2.2 j hj).1, hp1]) ?_
    refine ev_istore_n 30 _ dX8_mend_29 (by decide) rfl rfl rfl ?_
    refine ev_aload_n 31 dX8_mend_30 rfl rfl ?_
    refine ev_getR 34 dX8_mend_31 rfl flX8_46 rfl rfl ?_
    refine ev_iload_n 35 dX8_mend_34 rfl rfl ?_
    refine ev_iaN 36 (nI s) dX8_mend_35 rfl (by omega) (by decide) rfl (by rw [(h3.2.2 j hj).2, hs2]) ?_
    rcases (show s = 0 ∨ s = 1 ∨ s = 2 ∨ s = 3 ∨ s = 4 ∨ s = 5 by omega) with rfl | rfl | rfl | rfl | rfl | rfl
    · refine ev_tabIn 76 dX8_mend_36 (by decide) (by decide) rfl (by decide) ?_
      refine ev_aload_n 77 dX8_mend_76 rfl rfl ?_
      refine ev_iload_n 78 dX8_mend_77 rfl rfl ?_
      refine ev_iconst 79 (nI 3) dX8_mend_78 (by decide) rfl ?_
      refine ev_iconst 80 (-1) dX8_mend_79 (by decide) rfl ?_
      refine ev_cV3V _ 83 dX8_mend_80 mlX8_60 moX8_put rfl imX8_put ⟨_, _, rfl, rfl, rfl⟩ (Nat.le_of_ble_eq_true rfl) (Nat.le_of_ble_eq_true rfl) rfl (s_X8_put (a := p) (b := 3) (by omega) (by omega)) ?_
      refine ev_aload_n 84 dX8_mend_83 rfl rfl ?_
      refine ev_iload_n 85 dX8_mend_84 rfl rfl ?_
      refine ev_iconst 86 (nI 4) dX8_mend_85 (by decide) rfl ?_
      refine ev_iconst 87 (-1) dX8_mend_86 (by decide) rfl ?_
      refine ev_cV3V _ 90 dX8_mend_87 mlX8_60 moX8_put rfl imX8_put ⟨_, _, rfl, rfl, rfl⟩ (Nat.le_of_ble_eq_true rfl) (Nat.le_of_ble_eq_true rfl) rfl (s_X8_put (a := p) (b := 4) (by omega) (by omega)) ?_
      refine ev_aload_n 91 dX8_mend_90 rfl rfl ?_
      refine ev_iload_n 92 dX8_mend_91 rfl rfl ?_
      refine ev_iconst 93 (nI 1) dX8_mend_92 (by decide) rfl ?_
      refine ev_ldc 95 (nI 1000000) dX8_mend_93 kX8_220 rfl ?_
      refine ev_iload_n 96 dX8_mend_95 rfl rfl ?_
      refine ev_iaddN 97 dX8_mend_96 rfl ?_
      refine ev_cV3V _ 100 dX8_mend_97 mlX8_60 moX8_put rfl imX8_put ⟨_, _, rfl, rfl, rfl⟩ (Nat.le_of_ble_eq_true rfl) (Nat.le_of_ble_eq_true rfl) rfl (s_X8_put (a := p) (b := 1) (by omega) (by omega)) ?_
      refine ev_goto 159 dX8_mend_100 (by decide) ?_
      have e9 : (mst (mst (mst M2 1 (p * 18 + 3) (-1)) 1 (p * 18 + 4) (-1)) 1 (p * 18 + 1) (nI (1000000 + p))) 1 = mndH (M 1) p 0 := by rw [mst_same, mst_same, mst_same, e1, mndH, if_pos (by omega)]
      have hR9 : RS (mst (mst (mst M2 1 (p * 18 + 3) (-1)) 1 (p * 18 + 4) (-1)) 1 (p * 18 + 1) (nI (1000000 + p))) ((mst (mst (mst M2 1 (p * 18 + 3) (-1)) 1 (p * 18 + 4) (-1)) 1 (p * 18 + 1) (nI (1000000 + p))) 1, n, t, sp) := rs_mk hsp2 rfl (by rw [mst_other _ _ _ (by decide), mst_other _ _ _ (by decide), mst_other _ _ _ (by decide)]; exact hm2) (by rw [mst_other _ _ _ (by decide), mst_other _ _ _ (by decide), mst_other _ _ _ (by decide)]; exact hf2) (by rw [mst_other _ _ _ (by decide), mst_other _ _ _ (by decide), mst_other _ _ _ (by decide)]) (by rw [mst_other _ _ _ (by decide), mst_other _ _ _ (by decide), mst_other _ _ _ (by decide)])
      have g9 : GS ((mst (mst (mst M2 1 (p * 18 + 3) (-1)) 1 (p * 18 + 4) (-1)) 1 (p * 18 + 1) (nI (1000000 + p))) 1, n, t, sp) := by rw [e9]; exact gs_mend g hp9
      refine ev_aload_n 160 dX8_mend_159 rfl rfl ?_
      refine ev_cV0 163 dX8_mend_160 mlX8_221 moX8_wrongs rfl imX8_wrongs ⟨_, _, rfl, rfl, rfl⟩ (Nat.le_of_ble_eq_true rfl) (Nat.le_of_ble_eq_true rfl) rfl (r_wrongs g9 hR9) ?_
      rintro r M4 ⟨rfl, h4⟩
      exact ev_iret dX8_mend_163 rfl (ps_of (by rw [spMend, if_neg (by rw [c17]; decide), hjc, hp1, hs2, if_neg (by omega), ← e9]) h4)
    · refine ev_tabIn 76 dX8_mend_36 (by decide) (by decide) rfl (by decide) ?_
      refine ev_aload_n 77 dX8_mend_76 rfl rfl ?_
      refine ev_iload_n 78 dX8_mend_77 rfl rfl ?_
      refine ev_iconst 79 (nI 3) dX8_mend_78 (by decide) rfl ?_
      refine ev_iconst 80 (-1) dX8_mend_79 (by decide) rfl ?_
      refine ev_cV3V _ 83 dX8_mend_80 mlX8_60 moX8_put rfl imX8_put ⟨_, _, rfl, rfl, rfl⟩ (Nat.le_of_ble_eq_true rfl) (Nat.le_of_ble_eq_true rfl) rfl (s_X8_put (a := p) (b := 3) (by omega) (by omega)) ?_
      refine ev_aload_n 84 dX8_mend_83 rfl rfl ?_
      refine ev_iload_n 85 dX8_mend_84 rfl rfl ?_
      refine ev_iconst 86 (nI 4) dX8_mend_85 (by decide) rfl ?_
      refine ev_iconst 87 (-1) dX8_mend_86 (by decide) rfl ?_
      refine ev_cV3V _ 90 dX8_mend_87 mlX8_60 moX8_put rfl imX8_put ⟨_, _, rfl, rfl, rfl⟩ (Nat.le_of_ble_eq_true rfl) (Nat.le_of_ble_eq_true rfl) rfl (s_X8_put (a := p) (b := 4) (by omega) (by omega)) ?_
      refine ev_aload_n 91 dX8_mend_90 rfl rfl ?_
      refine ev_iload_n 92 dX8_mend_91 rfl rfl ?_
      refine ev_iconst 93 (nI 1) dX8_mend_92 (by decide) rfl ?_
      refine ev_ldc 95 (nI 1000000) dX8_mend_93 kX8_220 rfl ?_
      refine ev_iload_n 96 dX8_mend_95 rfl rfl ?_
      refine ev_iaddN 97 dX8_mend_96 rfl ?_
      refine ev_cV3V _ 100 dX8_mend_97 mlX8_60 moX8_put rfl imX8_put ⟨_, _, rfl, rfl, rfl⟩ (Nat.le_of_ble_eq_true rfl) (Nat.le_of_ble_eq_true rfl) rfl (s_X8_put (a := p) (b := 1) (by omega) (by omega)) ?_
      refine ev_goto 159 dX8_mend_100 (by decide) ?_
      have e9 : (mst (mst (mst M2 1 (p * 18 + 3) (-1)) 1 (p * 18 + 4) (-1)) 1 (p * 18 + 1) (nI (1000000 + p))) 1 = mndH (M 1) p 1 := by rw [mst_same, mst_same, mst_same, e1, mndH, if_pos (by omega)]
      have hR9 : RS (mst (mst (mst M2 1 (p * 18 + 3) (-1)) 1 (p * 18 + 4) (-1)) 1 (p * 18 + 1) (nI (1000000 + p))) ((mst (mst (mst M2 1 (p * 18 + 3) (-1)) 1 (p * 18 + 4) (-1)) 1 (p * 18 + 1) (nI (1000000 + p))) 1, n, t, sp) := rs_mk hsp2 rfl (by rw [mst_other _ _ _ (by decide), mst_other _ _ _ (by decide), mst_other _ _ _ (by decide)]; exact hm2) (by rw [mst_other _ _ _ (by decide), mst_other _ _ _ (by decide), mst_other _ _ _ (by decide)]; exact hf2) (by rw [mst_other _ _ _ (by decide), mst_other _ _ _ (by decide), mst_other _ _ _ (by decide)]) (by rw [mst_other _ _ _ (by decide), mst_other _ _ _ (by decide), mst_other _ _ _ (by decide)])
      have g9 : GS ((mst (mst (mst M2 1 (p * 18 + 3) (-1)) 1 (p * 18 + 4) (-1)) 1 (p * 18 + 1) (nI (1000000 + p))) 1, n, t, sp) := by rw [e9]; exact gs_mend g hp9
      refine ev_aload_n 160 dX8_mend_159 rfl rfl ?_
      refine ev_cV0 163 dX8_mend_160 mlX8_221 moX8_wrongs rfl imX8_wrongs ⟨_, _, rfl, rfl, rfl⟩ (Nat.le_of_ble_eq_true rfl) (Nat.le_of_ble_eq_true rfl) rfl (r_wrongs g9 hR9) ?_
      rintro r M4 ⟨rfl, h4⟩
      exact ev_iret dX8_mend_163 rfl (ps_of (by rw [spMend, if_neg (by rw [c17]; decide), hjc, hp1, hs2, if_neg (by omega), ← e9]) h4)
    · refine ev_tabIn 103 dX8_mend_36 (by decide) (by decide) rfl (by decide) ?_
      refine ev_aload_n 104 dX8_mend_103 rfl rfl ?_
      refine ev_iload_n 105 dX8_mend_104 rfl rfl ?_
      refine ev_bipush 107 (nI 16) dX8_mend_105 (by decide) rfl ?_
      refine ev_ldc 109 (nI 16777215) dX8_mend_107 kX8_63 rfl ?_
      refine ev_aload_n 110 dX8_mend_109 rfl rfl ?_
      refine ev_iload_n 111 dX8_mend_110 rfl rfl ?_
      refine ev_bipush 113 (nI 17) dX8_mend_111 (by decide) rfl ?_
      refine ev_cV2I (nI vg) M2 116 dX8_mend_113 mlX8_74 moX8_get rfl imX8_get ⟨_, _, rfl, rfl, rfl⟩ (Nat.le_of_ble_eq_true rfl) (Nat.le_of_ble_eq_true rfl) rfl (by have z := s_X8_get (M := M2) (a := p) (b := 17) (by omega) (by omega); rwa [e1, hvg2] at z) ?_
      refine ev_cS2I _ M2 119 dX8_mend_116 mlX8_125 moX8_contrastOf rfl smX8_contrastOf (Nat.le_of_ble_eq_true rfl) (Nat.le_of_ble_eq_true rfl) rfl (s_X8_contrastOf (by decide) hvg) ?_
      refine ev_iconst 120 (nI 0) dX8_mend_119 (by decide) rfl ?_
      refine ev_aload_n 121 dX8_mend_120 rfl rfl ?_
      refine ev_iload_n 122 dX8_mend_121 rfl rfl ?_
      refine ev_bipush 124 (nI 17) dX8_mend_122 (by decide) rfl ?_
      refine ev_cV2I (nI vg) M2 127 dX8_mend_124 mlX8_74 moX8_get rfl imX8_get ⟨_, _, rfl, rfl, rfl⟩ (Nat.le_of_ble_eq_true rfl) (Nat.le_of_ble_eq_true rfl) rfl (by have z := s_X8_get (M := M2) (a := p) (b := 17) (by omega) (by omega); rwa [e1, hvg2] at z) ?_
      refine ev_cS2I _ M2 130 dX8_mend_127 mlX8_125 moX8_contrastOf rfl smX8_contrastOf (Nat.le_of_ble_eq_true rfl) (Nat.le_of_ble_eq_true rfl) rfl (s_X8_contrastOf (by decide) hvg) ?_
      refine ev_icmp_leN 133 138 dX8_mend_130 (by decide) rfl (ctN_lt _ _) (ctN_lt _ _) (fun c130 => ?_) (fun c130 => ?_)
      · refine ev_iconst 139 (nI 0) dX8_mend_138 (by decide) rfl ?_
        refine ev_cV3V _ 142 dX8_mend_139 mlX8_60 moX8_put rfl imX8_put ⟨_, _, rfl, rfl, rfl⟩ (Nat.le_of_ble_eq_true rfl) (Nat.le_of_ble_eq_true rfl) rfl (s_X8_put (a := p) (b := 16) (by omega) (by omega)) ?_
        refine ev_goto 159 dX8_mend_142 (by decide) ?_
        have e9 : (mst M2 1 (p * 18 + 16) (nI 0)) 1 = mndH (M 1) p 2 := by rw [mst_same, e1, mndH, if_neg (by omega), if_pos rfl, hvg2, nI_clamp (by omega), inkN, if_neg (by omega)]
        have hR9 : RS (mst M2 1 (p * 18 + 16) (nI 0)) ((mst M2 1 (p * 18 + 16) (nI 0)) 1, n, t, sp) := rs_mk hsp2 rfl (by rw [mst_other _ _ _ (by decide)]; exact hm2) (by rw [mst_other _ _ _ (by decide)]; exact hf2) (by rw [mst_other _ _ _ (by decide)]) (by rw [mst_other _ _ _ (by decide)])
        have g9 : GS ((mst M2 1 (p * 18 + 16) (nI 0)) 1, n, t, sp) := by rw [e9]; exact gs_mend g hp9
        refine ev_aload_n 160 dX8_mend_159 rfl rfl ?_
        refine ev_cV0 163 dX8_mend_160 mlX8_221 moX8_wrongs rfl imX8_wrongs ⟨_, _, rfl, rfl, rfl⟩ (Nat.le_of_ble_eq_true rfl) (Nat.le_of_ble_eq_true rfl) rfl (r_wrongs g9 hR9) ?_
        rintro r M4 ⟨rfl, h4⟩
        exact ev_iret dX8_mend_163 rfl (ps_of (by rw [spMend, if_neg (by rw [c17]; decide), hjc, hp1, hs2, if_neg (by omega), ← e9]) h4)
      · refine ev_ldc 135 (nI 16777215) dX8_mend_133 kX8_63 rfl ?_
        refine ev_goto 139 dX8_mend_135 (by decide) ?_
        refine ev_cV3V _ 142 dX8_mend_139 mlX8_60 moX8_put rfl imX8_put ⟨_, _, rfl, rfl, rfl⟩ (Nat.le_of_ble_eq_true rfl) (Nat.le_of_ble_eq_true rfl) rfl (s_X8_put (a := p) (b := 16) (by omega) (by omega)) ?_
        refine ev_goto 159 dX8_mend_142 (by decide) ?_
        have e9 : (mst M2 1 (p * 18 + 16) (nI 16777215)) 1 = mndH (M 1) p 2 := by rw [mst_same, e1, mndH, if_neg (by omega), if_pos rfl, hvg2, nI_clamp (by omega), inkN, if_pos (by omega)]
        have hR9 : RS (mst M2 1 (p * 18 + 16) (nI 16777215)) ((mst M2 1 (p * 18 + 16) (nI 16777215)) 1, n, t, sp) := rs_mk hsp2 rfl (by rw [mst_other _ _ _ (by decide)]; exact hm2) (by rw [mst_other _ _ _ (by decide)]; exact hf2) (by rw [mst_other _ _ _ (by decide)]) (by rw [mst_other _ _ _ (by decide)])
        have g9 : GS ((mst M2 1 (p * 18 + 16) (nI 16777215)) 1, n, t, sp) := by rw [e9]; exact gs_mend g hp9
        refine ev_aload_n 160 dX8_mend_159 rfl rfl ?_
        refine ev_cV0 163 dX8_mend_160 mlX8_221 moX8_wrongs rfl imX8_wrongs ⟨_, _, rfl, rfl, rfl⟩ (Nat.le_of_ble_eq_true rfl) (Nat.le_of_ble_eq_true rfl) rfl (r_wrongs g9 hR9) ?_
        rintro r M4 ⟨rfl, h4⟩
        exact ev_iret dX8_mend_163 rfl (ps_of (by rw [spMend, if_neg (by rw [c17]; decide), hjc, hp1, hs2, if_neg (by omega), ← e9]) h4)
    · refine ev_tabIn 156 dX8_mend_36 (by decide) (by decide) rfl (by decide) ?_
      refine ev_bipush 158 (-103) dX8_mend_156 (by decide) rfl ?_
      exact ev_iret dX8_mend_158 rfl (ps_of (by rw [spMend, if_neg (by rw [c17]; decide), hjc, hs2, if_pos (Or.inl rfl)]) hR2)
    · refine ev_tabIn 156 dX8_mend_36 (by decide) (by decide) rfl (by decide) ?_
      refine ev_bipush 158 (-103) dX8_mend_156 (by decide) rfl ?_
      exact ev_iret dX8_mend_158 rfl (ps_of (by rw [spMend, if_neg (by rw [c17]; decide), hjc, hs2, if_pos (Or.inr rfl)]) hR2)
    · refine ev_tabIn 145 dX8_mend_36 (by decide) (by decide) rfl (by decide) ?_
      refine ev_aload_n 146 dX8_mend_145 rfl rfl ?_
      refine ev_iload_n 147 dX8_mend_146 rfl rfl ?_
      refine ev_bipush 149 (nI 9) dX8_mend_147 (by decide) rfl ?_
      refine ev_iconst 150 (nI 1) dX8_mend_149 (by decide) rfl ?_
      refine ev_cV3V _ 153 dX8_mend_150 mlX8_60 moX8_put rfl imX8_put ⟨_, _, rfl, rfl, rfl⟩ (Nat.le_of_ble_eq_true rfl) (Nat.le_of_ble_eq_true rfl) rfl (s_X8_put (a := p) (b := 9) (by omega) (by omega)) ?_
      refine ev_goto 159 dX8_mend_153 (by decide) ?_
      have e9 : (mst M2 1 (p * 18 + 9) (nI 1)) 1 = mndH (M 1) p 5 := by rw [mst_same, e1, mndH, if_neg (by omega), if_neg (by omega), if_pos rfl]
      have hR9 : RS (mst M2 1 (p * 18 + 9) (nI 1)) ((mst M2 1 (p * 18 + 9) (nI 1)) 1, n, t, sp) := rs_mk hsp2 rfl (by rw [mst_other _ _ _ (by decide)]; exact hm2) (by rw [mst_other _ _ _ (by decide)]; exact hf2) (by rw [mst_other _ _ _ (by decide)]) (by rw [mst_other _ _ _ (by decide)])
      have g9 : GS ((mst M2 1 (p * 18 + 9) (nI 1)) 1, n, t, sp) := by rw [e9]; exact gs_mend g hp9
      refine ev_aload_n 160 dX8_mend_159 rfl rfl ?_
      refine ev_cV0 163 dX8_mend_160 mlX8_221 moX8_wrongs rfl imX8_wrongs ⟨_, _, rfl, rfl, rfl⟩ (Nat.le_of_ble_eq_true rfl) (Nat.le_of_ble_eq_true rfl) rfl (r_wrongs g9 hR9) ?_
      rintro r M4 ⟨rfl, h4⟩
      exact ev_iret dX8_mend_163 rfl (ps_of (by rw [spMend, if_neg (by rw [c17]; decide), hjc, hp1, hs2, if_neg (by omega), ← e9]) h4)
  · refine ev_bipush 22 (-101) dX8_mend_20 (by decide) rfl ?_
    exact ev_iret dX8_mend_22 rfl (ps_of (by rw [spMend, if_pos c17]) hR2)
theorem s_X8_count_47 {M : Mm} {n : Nat} (ht : TR (M 1) n) (hn : n ≤ 24) (hm : M 0 0 = nI n) (x : Int32) : ∀ d i, i + d = n → Ev MSh mX8_count 47 [.ref 0, .int x, .int (nI (fb_ct (shwn (M 1)) i)), .int (nI i)] [] M (RetI (nI (fb_ct (shwn (M 1)) n)) M)
  | 0, i, h => by
    refine ev_iload_n 48 dX8_count_47 rfl rfl ?_
    refine ev_aload_n 49 dX8_count_48 rfl rfl ?_
    refine ev_getIv 52 (nI n) dX8_count_49 rfl flX8_57 rfl rfl hm ?_
    refine ev_icmp_geN 55 77 dX8_count_52 (by decide) rfl (by omega) (by omega) (fun c52 => ?_) (fun c52 => ?_)
    · rw [show i = n by omega]
      refine ev_iload_n 78 dX8_count_77 rfl rfl ?_
      exact ev_iret dX8_count_78 rfl (⟨rfl, rfl⟩)
    · omega
  | d + 1, i, h => by
    refine ev_iload_n 48 dX8_count_47 rfl rfl ?_
    refine ev_aload_n 49 dX8_count_48 rfl rfl ?_
    refine ev_getIv 52 (nI n) dX8_count_49 rfl flX8_57 rfl rfl hm ?_
    refine ev_icmp_geN 55 77 dX8_count_52 (by decide) rfl (by omega) (by omega) (fun c52 => ?_) (fun c52 => ?_)
    · omega
    · refine ev_iload_n 56 dX8_count_55 rfl rfl ?_
      refine ev_aload_n 57 dX8_count_56 rfl rfl ?_
      refine ev_iload_n 58 dX8_count_57 rfl rfl ?_
      refine ev_cV1I _ M 61 dX8_count_58 mlX8_89 moX8_isShown rfl imX8_isShown ⟨_, _, rfl, rfl, rfl⟩ (Nat.le_of_ble_eq_true rfl) (Nat.le_of_ble_eq_true rfl) rfl (s_X8_isShown ht hn (show i < n by omega)) ?_
      refine ev_if_eqB 64 68 dX8_count_61 (by decide) rfl (fun c61 => ?_) (fun c61 => ?_)
      · refine ev_iconst 69 (nI 0) dX8_count_68 (by decide) rfl ?_
        refine ev_iaddN 70 dX8_count_69 rfl ?_
        refine ev_eqI ((by rw [fb_ct_succ, c61]; rfl) : _ = nI (fb_ct (shwn (M 1)) (i + 1))) ?_
        refine ev_istore_n 71 _ dX8_count_70 (by decide) rfl rfl rfl ?_
        refine ev_iincN 74 _ dX8_count_71 rfl (by decide) rfl rfl rfl ?_
        refine ev_goto 47 dX8_count_74 (by decide) ?_
        exact s_X8_count_47 ht hn hm x d (i + 1) (by omega)
      · refine ev_iconst 65 (nI 1) dX8_count_64 (by decide) rfl ?_
        refine ev_goto 69 dX8_count_65 (by decide) ?_
        refine ev_iaddN 70 dX8_count_69 rfl ?_
        refine ev_eqI ((by rw [fb_ct_succ, c61]; rfl) : _ = nI (fb_ct (shwn (M 1)) (i + 1))) ?_
        refine ev_istore_n 71 _ dX8_count_70 (by decide) rfl rfl rfl ?_
        refine ev_iincN 74 _ dX8_count_71 rfl (by decide) rfl rfl rfl ?_
        refine ev_goto 47 dX8_count_74 (by decide) ?_
        exact s_X8_count_47 ht hn hm x d (i + 1) (by omega)
theorem r_count {M : Mm} {n t : Nat} {sp : List Nat} (g : GS (M 1, n, t, sp)) (hR : RS M (M 1, n, t, sp)) (w : Int32) : Ct MSh mX8_count [.ref 0, .int w] M (PS (spCount (M 1) n sp w, (M 1, n, t, sp))) := by
  have hn0 : 0 < n := g.1.1.1
  have hn : n ≤ 24 := g.1.1.2
  have ht : TR (M 1) n := g.1.2.1
  have hlab : ∀ a, a < n → labOK (M 1) n a := g.1.2.2.1
  have hpl : ∀ y, y < n → plOK (M 1) y := g.1.2.2.2.1
  have hco : ∀ a, a < n → colOK (M 1) a := g.1.2.2.2.2.1
  have h01 : ∀ x, x < n → h01 (M 1) x := g.1.2.2.2.2.2.1
  have ho : opsOK (M 1) n := g.1.2.2.2.2.2.2.1
  have hz : ∀ j, n * 18 ≤ j → M 1 j = 0 := g.1.2.2.2.2.2.2.2
  have h6 : (dsF (M 1) n n).length ≤ 6 := g.2.1
  have ht2 : t ≤ n := g.2.2.1
  have hfs : ∀ a, t = a + 1 → shwn (M 1) a = true := g.2.2.2.1
  have hnd : sp.Nodup := g.2.2.2.2.1
  have hsb : ∀ y ∈ sp, y < 24 := g.2.2.2.2.2
  have hm : M 0 0 = nI n := hR.2.1
  have hf : M 0 2 = pm t := hR.2.2.1
  have hsp : rowAt M 2 0 3 sp := hR.2.2.2
  show Ev _ _ 0 [.ref 0, .int w, .null, .null] [] M _
  refine ev_iconst 1 (nI 0) dX8_count_0 (by decide) rfl ?_
  refine ev_istore_n 2 _ dX8_count_1 (by decide) rfl rfl rfl ?_
  refine ev_iload_n 3 dX8_count_2 rfl rfl ?_
  by_cases hsw : inB w 6 = true
  · obtain ⟨jsw, hjsw, rfl⟩ := inB_of hsw (by omega)
    rcases (show jsw = 0 ∨ jsw = 1 ∨ jsw = 2 ∨ jsw = 3 ∨ jsw = 4 ∨ jsw = 5 by omega) with rfl | rfl | rfl | rfl | rfl | rfl
    · refine ev_tabIn 40 dX8_count_3 (by decide) (by decide) rfl (by decide) ?_
      refine ev_aload_n 41 dX8_count_40 rfl rfl ?_
      refine ev_getIv 44 (nI n) dX8_count_41 rfl flX8_57 rfl rfl hm ?_
      exact ev_iret dX8_count_44 rfl (ps_of rfl hR)
    · refine ev_tabIn 45 dX8_count_3 (by decide) (by decide) rfl (by decide) ?_
      refine ev_iconst 46 (nI 0) dX8_count_45 (by decide) rfl ?_
      refine ev_istore_n 47 _ dX8_count_46 (by decide) rfl rfl rfl ?_
      exact Ev.mono (s_X8_count_47 ht hn hm (nI 1) n 0 (by omega)) (fun r M2 z => by rw [z.1, z.2]; exact ps_of rfl hR)
    · refine ev_tabIn 79 dX8_count_3 (by decide) (by decide) rfl (by decide) ?_
      refine ev_aload_n 80 dX8_count_79 rfl rfl ?_
      refine ev_iconst 81 (-1) dX8_count_80 (by decide) rfl ?_
      refine ev_cV1 84 dX8_count_81 mlX8_162 moX8_findStops rfl imX8_findStops ⟨_, _, rfl, rfl, rfl⟩ (Nat.le_of_ble_eq_true rfl) (Nat.le_of_ble_eq_true rfl) rfl (s_X8_findStops ht hn0 hn hm hpl none (fun t e => by cases e)) ?_
      rintro r M2 ⟨rfl, h2, h3⟩
      have hR2 : RS M2 (M 1, n, t, sp) := rs_mk hsp h2.e1 (by rw [h2.2 0 (by decide)]; exact hm) (by rw [h2.2 2 (by decide)]; exact hf) (h2.2 3 (by decide)) (h2.1 2 (by decide) (by decide) (by decide) (by decide))
      have hle := h3.2.1
      refine ev_aload_n 85 dX8_count_84 rfl rfl ?_
      refine ev_getIv 88 (nI (stpL (M 1) none (ordF (M 1) n)).length) dX8_count_85 rfl flX8_156 rfl rfl h3.1 ?_
      exact ev_iret dX8_count_88 rfl (ps_of rfl hR2)
    · refine ev_tabIn 89 dX8_count_3 (by decide) (by decide) rfl (by decide) ?_
      refine ev_aload_n 90 dX8_count_89 rfl rfl ?_
      refine ev_cV0 93 dX8_count_90 mlX8_144 moX8_findSaid rfl imX8_findSaid ⟨_, _, rfl, rfl, rfl⟩ (Nat.le_of_ble_eq_true rfl) (Nat.le_of_ble_eq_true rfl) rfl (s_X8_findSaid ht hn0 hn hm) ?_
      rintro r M2 ⟨rfl, h2, h3⟩
      have hR2 : RS M2 (M 1, n, t, sp) := rs_mk hsp h2.e1 (by rw [h2.2 0 (by decide)]; exact hm) (by rw [h2.2 2 (by decide)]; exact hf) (h2.2 3 (by decide)) (h2.1 2 (by decide) (by decide) (by decide) (by decide))
      have hle := h3.2.1
      refine ev_aload_n 94 dX8_count_93 rfl rfl ?_
      refine ev_getIv 97 (nI (saidF (M 1) n).length) dX8_count_94 rfl flX8_141 rfl rfl h3.1 ?_
      exact ev_iret dX8_count_97 rfl (ps_of rfl hR2)
    · refine ev_tabIn 98 dX8_count_3 (by decide) (by decide) rfl (by decide) ?_
      refine ev_aload_n 99 dX8_count_98 rfl rfl ?_
      refine ev_getIv 102 (nI sp.length) dX8_count_99 rfl flX8_92 rfl rfl hsp.1 ?_
      exact ev_iret dX8_count_102 rfl (ps_of rfl hR)
    · refine ev_tabIn 103 dX8_count_3 (by decide) (by decide) rfl (by decide) ?_
      refine ev_aload_n 104 dX8_count_103 rfl rfl ?_
      refine ev_cV0I _ M 107 dX8_count_104 mlX8_224 moX8_opened rfl imX8_opened ⟨_, _, rfl, rfl, rfl⟩ (Nat.le_of_ble_eq_true rfl) (Nat.le_of_ble_eq_true rfl) rfl (s_X8_opened hn0 hn hm) ?_
      exact ev_iret dX8_count_107 rfl (ps_of rfl hR)
  · refine ev_tabOut 108 dX8_count_3 (outB hsw) (by decide) ?_
    refine ev_bipush 110 (-102) dX8_count_108 (by decide) rfl ?_
    exact ev_iret dX8_count_110 rfl (ps_of (by rw [spCount, if_neg (fun z => hsw (by rw [z]; decide)), if_neg (fun z => hsw (by rw [z]; decide)), if_neg (fun z => hsw (by rw [z]; decide)), if_neg (fun z => hsw (by rw [z]; decide)), if_neg (fun z => hsw (by rw [z]; decide)), if_neg (fun z => hsw (by rw [z]; decide))]) hR)
end
