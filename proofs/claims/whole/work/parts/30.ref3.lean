/-! the reference: contrast, boxes, stops, names -/
theorem s_X8_light {Sh : Shp} {M : Mm} {v : Nat} (hv : v < 2 ^ 24) : Ct Sh mX8_light [.int (nI v)] M (RetL (lN (litV v)) M) := by
  show Ev _ _ 0 [.int (nI v)] [] M _
  refine ev_ldc2 3 (lN 2126) dX8_light_0 kX8_111 rfl ?_
  refine ev_iload_n 4 dX8_light_3 rfl rfl ?_
  refine ev_bipush 6 (nI 16) dX8_light_4 (by decide) rfl ?_
  refine ev_ishr 7 dX8_light_6 rfl ?_
  refine ev_eqI (show _ = nI (v / 65536 % 256) from by rw [pk_shrN (by omega) _ 16 (by decide)]; exact congrArg nI (by omega)) ?_
  refine ev_i2l 8 dX8_light_7 rfl ?_
  refine ev_eqL (nI_l (by omega)) ?_
  refine ev_lmul 9 dX8_light_8 rfl ?_
  refine ev_eqL (lN_mul _ _) ?_
  refine ev_ldc2 12 (lN 7152) dX8_light_9 kX8_113 rfl ?_
  refine ev_iload_n 13 dX8_light_12 rfl rfl ?_
  refine ev_bipush 15 (nI 8) dX8_light_13 (by decide) rfl ?_
  refine ev_ishr 16 dX8_light_15 rfl ?_
  refine ev_sipush 19 (nI 255) dX8_light_16 (by decide) rfl ?_
  refine ev_iand 20 dX8_light_19 rfl ?_
  refine ev_eqI (cl_8 hv) ?_
  refine ev_i2l 21 dX8_light_20 rfl ?_
  refine ev_eqL (nI_l (by omega)) ?_
  refine ev_lmul 22 dX8_light_21 rfl ?_
  refine ev_eqL (lN_mul _ _) ?_
  refine ev_ladd 23 dX8_light_22 rfl ?_
  refine ev_eqL (lN_add _ _) ?_
  refine ev_ldc2 26 (lN 722) dX8_light_23 kX8_115 rfl ?_
  refine ev_iload_n 27 dX8_light_26 rfl rfl ?_
  refine ev_sipush 30 (nI 255) dX8_light_27 (by decide) rfl ?_
  refine ev_iand 31 dX8_light_30 rfl ?_
  refine ev_eqI (cl_0 hv) ?_
  refine ev_i2l 32 dX8_light_31 rfl ?_
  refine ev_eqL (nI_l (by omega)) ?_
  refine ev_lmul 33 dX8_light_32 rfl ?_
  refine ev_eqL (lN_mul _ _) ?_
  refine ev_ladd 34 dX8_light_33 rfl ?_
  refine ev_eqL (lN_add _ _) ?_
  exact ev_lret dX8_light_34 rfl (⟨rfl, rfl⟩)
theorem s_X8_contrastOf {Sh : Shp} {M : Mm} {a b : Nat} (ha : a < 2 ^ 24) (hb : b < 2 ^ 24) : Ct Sh mX8_contrastOf [.int (nI a), .int (nI b)] M (RetI (nI (ctN a b)) M) := by
  have h1 := litV_le a
  have h2 := litV_le b
  show Ev _ _ 0 [.int (nI a), .int (nI b), .null, .null, .null, .null] [] M _
  refine ev_iload_n 1 dX8_contrastOf_0 rfl rfl ?_
  refine ev_cS1L _ M 4 dX8_contrastOf_1 mlX8_117 moX8_light rfl smX8_light (Nat.le_of_ble_eq_true rfl) (Nat.le_of_ble_eq_true rfl) rfl (s_X8_light ha) ?_
  refine ev_ldc2 7 (lN 127500) dX8_contrastOf_4 kX8_121 rfl ?_
  refine ev_ladd 8 dX8_contrastOf_7 rfl ?_
  refine ev_eqL (lN_add _ _) ?_
  refine ev_lstore_n 9 _ dX8_contrastOf_8 (by decide) rfl rfl rfl ?_
  refine ev_iload_n 10 dX8_contrastOf_9 rfl rfl ?_
  refine ev_cS1L _ M 13 dX8_contrastOf_10 mlX8_117 moX8_light rfl smX8_light (Nat.le_of_ble_eq_true rfl) (Nat.le_of_ble_eq_true rfl) rfl (s_X8_light hb) ?_
  refine ev_ldc2 16 (lN 127500) dX8_contrastOf_13 kX8_121 rfl ?_
  refine ev_ladd 17 dX8_contrastOf_16 rfl ?_
  refine ev_eqL (lN_add _ _) ?_
  refine ev_lstore 19 _ dX8_contrastOf_17 (by decide) rfl rfl rfl ?_
  refine ev_lload_n 20 dX8_contrastOf_19 rfl rfl ?_
  refine ev_lload 22 dX8_contrastOf_20 rfl rfl ?_
  refine ev_lcmp 23 dX8_contrastOf_22 rfl ?_
  refine ev_if_le 26 37 dX8_contrastOf_23 (by decide) rfl (fun c23 => ?_) (fun c23 => ?_)
  · refine ev_ldc2 40 (lN 1000) dX8_contrastOf_37 kX8_84 rfl ?_
    refine ev_lload 42 dX8_contrastOf_40 rfl rfl ?_
    refine ev_lmul 43 dX8_contrastOf_42 rfl ?_
    refine ev_eqL (lN_mul _ _) ?_
    refine ev_lload_n 44 dX8_contrastOf_43 rfl rfl ?_
    refine ev_ldiv 45 dX8_contrastOf_44 (fun z => absurd ((pk_lEQ (a := litV a + 127500) (b := 0) (by omega) (by omega)).mp z) (by omega)) rfl ?_
    refine ev_eqL (show _ = lN (ctN a b) from by
    rw [lg_cmp_le, pk_lLE (by omega) (by omega)] at c23
    rw [pk_lDiv (by omega) (by omega) (by omega), ctN, Nat.max_eq_right (by omega), Nat.min_eq_left (by omega)]) ?_
    refine ev_l2i 46 dX8_contrastOf_45 rfl ?_
    refine ev_eqI (lN_i _) ?_
    exact ev_iret dX8_contrastOf_46 rfl (⟨rfl, rfl⟩)
  · refine ev_ldc2 29 (lN 1000) dX8_contrastOf_26 kX8_84 rfl ?_
    refine ev_lload_n 30 dX8_contrastOf_29 rfl rfl ?_
    refine ev_lmul 31 dX8_contrastOf_30 rfl ?_
    refine ev_eqL (lN_mul _ _) ?_
    refine ev_lload 33 dX8_contrastOf_31 rfl rfl ?_
    refine ev_ldiv 34 dX8_contrastOf_33 (fun z => absurd ((pk_lEQ (a := litV b + 127500) (b := 0) (by omega) (by omega)).mp z) (by omega)) rfl ?_
    refine ev_eqL (pk_lDiv (by omega) (by omega) (by omega)) ?_
    refine ev_goto 45 dX8_contrastOf_34 (by decide) ?_
    refine ev_eqL (show _ = lN (ctN a b) from by
    rw [lg_cmp_le, pk_lLE (by omega) (by omega)] at c23
    rw [ctN, Nat.max_eq_left (by omega), Nat.min_eq_right (by omega)]) ?_
    refine ev_l2i 46 dX8_contrastOf_45 rfl ?_
    refine ev_eqI (lN_i _) ?_
    exact ev_iret dX8_contrastOf_46 rfl (⟨rfl, rfl⟩)
theorem s_X8_hasBox {M : Mm} {a : Nat} (ha : a < 24) : Ct MSh mX8_hasBox [.ref 0, .int (nI a)] M (RetI (bI (hArea (M 1) a)) M) := by
  show Ev _ _ 0 [.ref 0, .int (nI a)] [] M _
  refine ev_aload_n 1 dX8_hasBox_0 rfl rfl ?_
  refine ev_iload_n 2 dX8_hasBox_1 rfl rfl ?_
  refine ev_bipush 4 (nI 14) dX8_hasBox_2 (by decide) rfl ?_
  refine ev_cV2I (M 1 (a * 18 + 14)) M 7 dX8_hasBox_4 mlX8_74 moX8_get rfl imX8_get ⟨_, _, rfl, rfl, rfl⟩ (Nat.le_of_ble_eq_true rfl) (Nat.le_of_ble_eq_true rfl) rfl (s_X8_get (a := a) (b := 14) ha (by omega)) ?_
  refine ev_if_le 10 24 dX8_hasBox_7 (by decide) rfl (fun c7 => ?_) (fun c7 => ?_)
  · refine ev_iconst 25 (nI 0) dX8_hasBox_24 (by decide) rfl ?_
    exact ev_zret dX8_hasBox_25 rfl (Or.inl rfl) (⟨by rw [hArea, decide_eq_false (i_le0 c7)]; rfl, rfl⟩)
  · refine ev_aload_n 11 dX8_hasBox_10 rfl rfl ?_
    refine ev_iload_n 12 dX8_hasBox_11 rfl rfl ?_
    refine ev_bipush 14 (nI 15) dX8_hasBox_12 (by decide) rfl ?_
    refine ev_cV2I (M 1 (a * 18 + 15)) M 17 dX8_hasBox_14 mlX8_74 moX8_get rfl imX8_get ⟨_, _, rfl, rfl, rfl⟩ (Nat.le_of_ble_eq_true rfl) (Nat.le_of_ble_eq_true rfl) rfl (s_X8_get (a := a) (b := 15) ha (by omega)) ?_
    refine ev_if_le 20 24 dX8_hasBox_17 (by decide) rfl (fun c17 => ?_) (fun c17 => ?_)
    · refine ev_iconst 25 (nI 0) dX8_hasBox_24 (by decide) rfl ?_
      exact ev_zret dX8_hasBox_25 rfl (Or.inl rfl) (⟨by rw [hArea, decide_eq_false (i_le0 c17), Bool.and_false]; rfl, rfl⟩)
    · refine ev_iconst 21 (nI 1) dX8_hasBox_20 (by decide) rfl ?_
      refine ev_goto 25 dX8_hasBox_21 (by decide) ?_
      exact ev_zret dX8_hasBox_25 rfl (Or.inr rfl) (⟨by rw [hArea, decide_eq_true (i_nle0 c7), decide_eq_true (i_nle0 c17)]; rfl, rfl⟩)
theorem s_X8_isAbove {M : Mm} {a b : Nat} (ha : a < 24) (hb : b < 24) : Ct MSh mX8_isAbove [.ref 0, .int (nI a), .int (nI b)] M (RetI (bI (isAbv (M 1) a b)) M) := by
  show Ev _ _ 0 [.ref 0, .int (nI a), .int (nI b)] [] M _
  refine ev_aload_n 1 dX8_isAbove_0 rfl rfl ?_
  refine ev_iload_n 2 dX8_isAbove_1 rfl rfl ?_
  refine ev_bipush 4 (nI 13) dX8_isAbove_2 (by decide) rfl ?_
  refine ev_cV2I (M 1 (a * 18 + 13)) M 7 dX8_isAbove_4 mlX8_74 moX8_get rfl imX8_get ⟨_, _, rfl, rfl, rfl⟩ (Nat.le_of_ble_eq_true rfl) (Nat.le_of_ble_eq_true rfl) rfl (s_X8_get (a := a) (b := 13) ha (by omega)) ?_
  refine ev_aload_n 8 dX8_isAbove_7 rfl rfl ?_
  refine ev_iload_n 9 dX8_isAbove_8 rfl rfl ?_
  refine ev_bipush 11 (nI 15) dX8_isAbove_9 (by decide) rfl ?_
  refine ev_cV2I (M 1 (a * 18 + 15)) M 14 dX8_isAbove_11 mlX8_74 moX8_get rfl imX8_get ⟨_, _, rfl, rfl, rfl⟩ (Nat.le_of_ble_eq_true rfl) (Nat.le_of_ble_eq_true rfl) rfl (s_X8_get (a := a) (b := 15) ha (by omega)) ?_
  refine ev_iadd 15 dX8_isAbove_14 rfl ?_
  refine ev_aload_n 16 dX8_isAbove_15 rfl rfl ?_
  refine ev_iload_n 17 dX8_isAbove_16 rfl rfl ?_
  refine ev_bipush 19 (nI 13) dX8_isAbove_17 (by decide) rfl ?_
  refine ev_cV2I (M 1 (b * 18 + 13)) M 22 dX8_isAbove_19 mlX8_74 moX8_get rfl imX8_get ⟨_, _, rfl, rfl, rfl⟩ (Nat.le_of_ble_eq_true rfl) (Nat.le_of_ble_eq_true rfl) rfl (s_X8_get (a := b) (b := 13) hb (by omega)) ?_
  refine ev_icmp_gt 25 29 dX8_isAbove_22 (by decide) rfl (fun c22 => ?_) (fun c22 => ?_)
  · refine ev_iconst 30 (nI 0) dX8_isAbove_29 (by decide) rfl ?_
    exact ev_zret dX8_isAbove_30 rfl (Or.inl rfl) (⟨by rw [isAbv, decide_eq_false (i_lt_nle c22)]; rfl, rfl⟩)
  · refine ev_iconst 26 (nI 1) dX8_isAbove_25 (by decide) rfl ?_
    refine ev_goto 30 dX8_isAbove_26 (by decide) ?_
    exact ev_zret dX8_isAbove_30 rfl (Or.inr rfl) (⟨by rw [isAbv, decide_eq_true (i_nlt_le c22)]; rfl, rfl⟩)
theorem s_X8_isAstray {M : Mm} {a b : Nat} (ha : a < 24) (hb : b < 24) : Ct MSh mX8_isAstray [.ref 0, .int (nI a), .int (nI b)] M (RetI (bI (astr (M 1) a b)) M) := by
  show Ev _ _ 0 [.ref 0, .int (nI a), .int (nI b)] [] M _
  refine ev_aload_n 1 dX8_isAstray_0 rfl rfl ?_
  refine ev_iload_n 2 dX8_isAstray_1 rfl rfl ?_
  refine ev_cV1I _ M 5 dX8_isAstray_2 mlX8_147 moX8_hasBox rfl imX8_hasBox ⟨_, _, rfl, rfl, rfl⟩ (Nat.le_of_ble_eq_true rfl) (Nat.le_of_ble_eq_true rfl) rfl (s_X8_hasBox ha) ?_
  refine ev_if_eqB 8 16 dX8_isAstray_5 (by decide) rfl (fun c5 => ?_) (fun c5 => ?_)
  · refine ev_iconst 17 (nI 0) dX8_isAstray_16 (by decide) rfl ?_
    exact ev_zret dX8_isAstray_17 rfl (Or.inl rfl) (⟨by first | (simp only [astr, *]; rfl) | (simp only [astr, *, Bool.not_true, Bool.and_false, Bool.or_false]; rfl) | (simp only [astr, isLft, *, decide_eq_false (i_lt_nle c58)]; rfl) | (simp only [astr, isLft, *, decide_eq_true (i_nlt_le c58)]; rfl), rfl⟩)
  · refine ev_aload_n 9 dX8_isAstray_8 rfl rfl ?_
    refine ev_iload_n 10 dX8_isAstray_9 rfl rfl ?_
    refine ev_cV1I _ M 13 dX8_isAstray_10 mlX8_147 moX8_hasBox rfl imX8_hasBox ⟨_, _, rfl, rfl, rfl⟩ (Nat.le_of_ble_eq_true rfl) (Nat.le_of_ble_eq_true rfl) rfl (s_X8_hasBox hb) ?_
    refine ev_if_neB 16 18 dX8_isAstray_13 (by decide) rfl (fun c13 => ?_) (fun c13 => ?_)
    · refine ev_aload_n 19 dX8_isAstray_18 rfl rfl ?_
      refine ev_iload_n 20 dX8_isAstray_19 rfl rfl ?_
      refine ev_iload_n 21 dX8_isAstray_20 rfl rfl ?_
      refine ev_cV2I _ M 24 dX8_isAstray_21 mlX8_150 moX8_isAbove rfl imX8_isAbove ⟨_, _, rfl, rfl, rfl⟩ (Nat.le_of_ble_eq_true rfl) (Nat.le_of_ble_eq_true rfl) rfl (s_X8_isAbove hb ha) ?_
      refine ev_if_neB 27 61 dX8_isAstray_24 (by decide) rfl (fun c24 => ?_) (fun c24 => ?_)
      · refine ev_iconst 62 (nI 1) dX8_isAstray_61 (by decide) rfl ?_
        refine ev_goto 66 dX8_isAstray_62 (by decide) ?_
        exact ev_zret dX8_isAstray_66 rfl (Or.inr rfl) (⟨by first | (simp only [astr, *]; rfl) | (simp only [astr, *, Bool.not_true, Bool.and_false, Bool.or_false]; rfl) | (simp only [astr, isLft, *, decide_eq_false (i_lt_nle c58)]; rfl) | (simp only [astr, isLft, *, decide_eq_true (i_nlt_le c58)]; rfl), rfl⟩)
      · refine ev_aload_n 28 dX8_isAstray_27 rfl rfl ?_
        refine ev_iload_n 29 dX8_isAstray_28 rfl rfl ?_
        refine ev_iload_n 30 dX8_isAstray_29 rfl rfl ?_
        refine ev_cV2I _ M 33 dX8_isAstray_30 mlX8_150 moX8_isAbove rfl imX8_isAbove ⟨_, _, rfl, rfl, rfl⟩ (Nat.le_of_ble_eq_true rfl) (Nat.le_of_ble_eq_true rfl) rfl (s_X8_isAbove ha hb) ?_
        refine ev_if_neB 36 65 dX8_isAstray_33 (by decide) rfl (fun c33 => ?_) (fun c33 => ?_)
        · refine ev_iconst 66 (nI 0) dX8_isAstray_65 (by decide) rfl ?_
          exact ev_zret dX8_isAstray_66 rfl (Or.inl rfl) (⟨by first | (simp only [astr, *]; rfl) | (simp only [astr, *, Bool.not_true, Bool.and_false, Bool.or_false]; rfl) | (simp only [astr, isLft, *, decide_eq_false (i_lt_nle c58)]; rfl) | (simp only [astr, isLft, *, decide_eq_true (i_nlt_le c58)]; rfl), rfl⟩)
        · refine ev_aload_n 37 dX8_isAstray_36 rfl rfl ?_
          refine ev_iload_n 38 dX8_isAstray_37 rfl rfl ?_
          refine ev_bipush 40 (nI 12) dX8_isAstray_38 (by decide) rfl ?_
          refine ev_cV2I (M 1 (b * 18 + 12)) M 43 dX8_isAstray_40 mlX8_74 moX8_get rfl imX8_get ⟨_, _, rfl, rfl, rfl⟩ (Nat.le_of_ble_eq_true rfl) (Nat.le_of_ble_eq_true rfl) rfl (s_X8_get (a := b) (b := 12) hb (by omega)) ?_
          refine ev_aload_n 44 dX8_isAstray_43 rfl rfl ?_
          refine ev_iload_n 45 dX8_isAstray_44 rfl rfl ?_
          refine ev_bipush 47 (nI 14) dX8_isAstray_45 (by decide) rfl ?_
          refine ev_cV2I (M 1 (b * 18 + 14)) M 50 dX8_isAstray_47 mlX8_74 moX8_get rfl imX8_get ⟨_, _, rfl, rfl, rfl⟩ (Nat.le_of_ble_eq_true rfl) (Nat.le_of_ble_eq_true rfl) rfl (s_X8_get (a := b) (b := 14) hb (by omega)) ?_
          refine ev_iadd 51 dX8_isAstray_50 rfl ?_
          refine ev_aload_n 52 dX8_isAstray_51 rfl rfl ?_
          refine ev_iload_n 53 dX8_isAstray_52 rfl rfl ?_
          refine ev_bipush 55 (nI 12) dX8_isAstray_53 (by decide) rfl ?_
          refine ev_cV2I (M 1 (a * 18 + 12)) M 58 dX8_isAstray_55 mlX8_74 moX8_get rfl imX8_get ⟨_, _, rfl, rfl, rfl⟩ (Nat.le_of_ble_eq_true rfl) (Nat.le_of_ble_eq_true rfl) rfl (s_X8_get (a := a) (b := 12) ha (by omega)) ?_
          refine ev_icmp_gt 61 65 dX8_isAstray_58 (by decide) rfl (fun c58 => ?_) (fun c58 => ?_)
          · refine ev_iconst 66 (nI 0) dX8_isAstray_65 (by decide) rfl ?_
            exact ev_zret dX8_isAstray_66 rfl (Or.inl rfl) (⟨by first | (simp only [astr, *]; rfl) | (simp only [astr, *, Bool.not_true, Bool.and_false, Bool.or_false]; rfl) | (simp only [astr, isLft, *, decide_eq_false (i_lt_nle c58)]; rfl) | (simp only [astr, isLft, *, decide_eq_true (i_nlt_le c58)]; rfl), rfl⟩)
          · refine ev_iconst 62 (nI 1) dX8_isAstray_61 (by decide) rfl ?_
            refine ev_goto 66 dX8_isAstray_62 (by decide) ?_
            exact ev_zret dX8_isAstray_66 rfl (Or.inr rfl) (⟨by first | (simp only [astr, *]; rfl) | (simp only [astr, *, Bool.not_true, Bool.and_false, Bool.or_false]; rfl) | (simp only [astr, isLft, *, decide_eq_false (i_lt_nle c58)]; rfl) | (simp only [astr, isLft, *, decide_eq_true (i_nlt_le c58)]; rfl), rfl⟩)
    · refine ev_iconst 17 (nI 0) dX8_isAstray_16 (by decide) rfl ?_
      exact ev_zret dX8_isAstray_17 rfl (Or.inl rfl) (⟨by first | (simp only [astr, *]; rfl) | (simp only [astr, *, Bool.not_true, Bool.and_false, Bool.or_false]; rfl) | (simp only [astr, isLft, *, decide_eq_false (i_lt_nle c58)]; rfl) | (simp only [astr, isLft, *, decide_eq_true (i_nlt_le c58)]; rfl), rfl⟩)
theorem s_X8_isStop {M : Mm} {n a : Nat} (ht : TR (M 1) n) (hn : n ≤ 24) (ha : a < n) : Ct MSh mX8_isStop [.ref 0, .int (nI a)] M (RetI (bI (stK (M 1) a && shwn (M 1) a)) M) := by
  show Ev _ _ 0 [.ref 0, .int (nI a)] [] M _
  refine ev_aload_n 1 dX8_isStop_0 rfl rfl ?_
  refine ev_iload_n 2 dX8_isStop_1 rfl rfl ?_
  refine ev_bipush 4 (nI 10) dX8_isStop_2 (by decide) rfl ?_
  refine ev_cV2I (M 1 (a * 18 + 10)) M 7 dX8_isStop_4 mlX8_74 moX8_get rfl imX8_get ⟨_, _, rfl, rfl, rfl⟩ (Nat.le_of_ble_eq_true rfl) (Nat.le_of_ble_eq_true rfl) rfl (s_X8_get (a := a) (b := 10) (by omega) (by omega)) ?_
  refine ev_iconst 8 (nI 2) dX8_isStop_7 (by decide) rfl ?_
  refine ev_icmp_eq 11 22 dX8_isStop_8 (by decide) rfl (fun c8 => ?_) (fun c8 => ?_)
  · refine ev_aload_n 23 dX8_isStop_22 rfl rfl ?_
    refine ev_iload_n 24 dX8_isStop_23 rfl rfl ?_
    refine ev_cV1I _ M 27 dX8_isStop_24 mlX8_89 moX8_isShown rfl imX8_isShown ⟨_, _, rfl, rfl, rfl⟩ (Nat.le_of_ble_eq_true rfl) (Nat.le_of_ble_eq_true rfl) rfl (s_X8_isShown ht hn ha) ?_
    refine ev_if_eqB 30 34 dX8_isStop_27 (by decide) rfl (fun c27 => ?_) (fun c27 => ?_)
    · refine ev_iconst 35 (nI 0) dX8_isStop_34 (by decide) rfl ?_
      exact ev_zret dX8_isStop_35 rfl (Or.inl rfl) (⟨by rw [stK, beq_iff_eq.mpr c8, c27]; rfl, rfl⟩)
    · refine ev_iconst 31 (nI 1) dX8_isStop_30 (by decide) rfl ?_
      refine ev_goto 35 dX8_isStop_31 (by decide) ?_
      exact ev_zret dX8_isStop_35 rfl (Or.inr rfl) (⟨by rw [stK, beq_iff_eq.mpr c8, c27]; rfl, rfl⟩)
  · refine ev_aload_n 12 dX8_isStop_11 rfl rfl ?_
    refine ev_iload_n 13 dX8_isStop_12 rfl rfl ?_
    refine ev_bipush 15 (nI 10) dX8_isStop_13 (by decide) rfl ?_
    refine ev_cV2I (M 1 (a * 18 + 10)) M 18 dX8_isStop_15 mlX8_74 moX8_get rfl imX8_get ⟨_, _, rfl, rfl, rfl⟩ (Nat.le_of_ble_eq_true rfl) (Nat.le_of_ble_eq_true rfl) rfl (s_X8_get (a := a) (b := 10) (by omega) (by omega)) ?_
    refine ev_iconst 19 (nI 3) dX8_isStop_18 (by decide) rfl ?_
    refine ev_icmp_ne 22 34 dX8_isStop_19 (by decide) rfl (fun c19 => ?_) (fun c19 => ?_)
    · refine ev_iconst 35 (nI 0) dX8_isStop_34 (by decide) rfl ?_
      exact ev_zret dX8_isStop_35 rfl (Or.inl rfl) (⟨by rw [stK, beq_eq_false_iff_ne.mpr c8, beq_eq_false_iff_ne.mpr c19]; rfl, rfl⟩)
    · refine ev_aload_n 23 dX8_isStop_22 rfl rfl ?_
      refine ev_iload_n 24 dX8_isStop_23 rfl rfl ?_
      refine ev_cV1I _ M 27 dX8_isStop_24 mlX8_89 moX8_isShown rfl imX8_isShown ⟨_, _, rfl, rfl, rfl⟩ (Nat.le_of_ble_eq_true rfl) (Nat.le_of_ble_eq_true rfl) rfl (s_X8_isShown ht hn ha) ?_
      refine ev_if_eqB 30 34 dX8_isStop_27 (by decide) rfl (fun c27 => ?_) (fun c27 => ?_)
      · refine ev_iconst 35 (nI 0) dX8_isStop_34 (by decide) rfl ?_
        exact ev_zret dX8_isStop_35 rfl (Or.inl rfl) (⟨by rw [stK, beq_eq_false_iff_ne.mpr c8, beq_iff_eq.mpr c19, c27]; rfl, rfl⟩)
      · refine ev_iconst 31 (nI 1) dX8_isStop_30 (by decide) rfl ?_
        refine ev_goto 35 dX8_isStop_31 (by decide) ?_
        exact ev_zret dX8_isStop_35 rfl (Or.inr rfl) (⟨by rw [stK, beq_eq_false_iff_ne.mpr c8, beq_iff_eq.mpr c19, c27]; rfl, rfl⟩)
theorem s_X8_addWord {M : Mm} {a : Nat} {l : List Int32} (v : Int32) (ha : a < 24) (hl : nmAt M 5 6 a l) : Ct MSh mX8_addWord [.ref 0, .int (nI a), .int v] M (fun r M2 => r = none ∧ nmOK M M2 5 6 a ∧ nmAt M2 5 6 a (addW l v)) := by
  have hle := hl.1
  have hz : ∀ j, mst M 5 j v 6 a = nI l.length := fun j => by rw [mst_other _ _ _ (by decide)]; exact hl.2.1
  show Ev _ _ 0 [.ref 0, .int (nI a), .int v] [] M _
  refine ev_iload_n 1 dX8_addWord_0 rfl rfl ?_
  refine ev_if_eq 4 42 dX8_addWord_1 (by decide) rfl (fun c1 => ?_) (fun c1 => ?_)
  · exact ev_vret dX8_addWord_42 rfl (⟨rfl, nmOK.rf _ _ _ _, by rw [addW, if_pos c1]; exact hl⟩)
  · refine ev_aload_n 5 dX8_addWord_4 rfl rfl ?_
    refine ev_getR 8 dX8_addWord_5 rfl flX8_25 rfl rfl ?_
    refine ev_iload_n 9 dX8_addWord_8 rfl rfl ?_
    refine ev_iaN 10 _ dX8_addWord_9 rfl (by omega) (by decide) rfl hl.2.1 ?_
    refine ev_bipush 12 (nI 8) dX8_addWord_10 (by decide) rfl ?_
    refine ev_icmp_geN 15 42 dX8_addWord_12 (by decide) rfl (by omega) (by omega) (fun c12 => ?_) (fun c12 => ?_)
    · exact ev_vret dX8_addWord_42 rfl (⟨rfl, nmOK.rf _ _ _ _, by rw [addW, if_neg c1, if_neg (by omega)]; exact hl⟩)
    · refine ev_aload_n 16 dX8_addWord_15 rfl rfl ?_
      refine ev_getR 19 dX8_addWord_16 rfl flX8_22 rfl rfl ?_
      refine ev_bipush 21 (nI 8) dX8_addWord_19 (by decide) rfl ?_
      refine ev_iload_n 22 dX8_addWord_21 rfl rfl ?_
      refine ev_imulN 23 dX8_addWord_22 rfl ?_
      refine ev_aload_n 24 dX8_addWord_23 rfl rfl ?_
      refine ev_getR 27 dX8_addWord_24 rfl flX8_25 rfl rfl ?_
      refine ev_iload_n 28 dX8_addWord_27 rfl rfl ?_
      refine ev_iaN 29 _ dX8_addWord_28 rfl (by omega) (by decide) rfl hl.2.1 ?_
      refine ev_iaddN 30 dX8_addWord_29 rfl ?_
      refine ev_eqI (show nI (8 * a + l.length) = nI (a * 8 + l.length) from by rw [Nat.mul_comm]) ?_
      refine ev_iload_n 31 dX8_addWord_30 rfl rfl ?_
      refine ev_iaS 32 dX8_addWord_31 rfl (by omega) (by decide) rfl ?_
      refine ev_aload_n 33 dX8_addWord_32 rfl rfl ?_
      refine ev_getR 36 dX8_addWord_33 rfl flX8_25 rfl rfl ?_
      refine ev_iload_n 37 dX8_addWord_36 rfl rfl ?_
      refine ev_dup2 38 dX8_addWord_37 rfl rfl rfl ?_
      refine ev_iaN 39 _ dX8_addWord_38 rfl (by omega) (by decide) rfl (hz _) ?_
      refine ev_iconst 40 (nI 1) dX8_addWord_39 (by decide) rfl ?_
      refine ev_iaddN 41 dX8_addWord_40 rfl ?_
      refine ev_iaS 42 dX8_addWord_41 rfl (by omega) (by decide) rfl ?_
      exact ev_vret dX8_addWord_42 rfl (⟨rfl, by rw [addW, if_neg c1, if_pos (by omega)]; exact nm_put (by decide) hl (by omega)⟩)
def lkS (h : Nat → Int32) (t : Nat) : Nat := match t with
  | 0 => 0
  | a + 1 => if shwn h a then a + 1 else 0
def Smf (M M1 : Mm) : Prop := (∀ q, q ≠ 0 → M1 q = M q) ∧ ∀ j, j ≠ 2 → M1 0 j = M 0 j
theorem s_X8_lookAtFocus {M : Mm} {n : Nat} (ht : TR (M 1) n) (hn : n ≤ 24) : ∀ t, t ≤ n → M 0 2 = pm t → Ct MSh mX8_lookAtFocus [.ref 0] M (fun r M2 => r = none ∧ Smf M M2 ∧ M2 0 2 = pm (lkS (M 1) t))
  | 0, _, hf => by
    show Ev _ _ 0 [.ref 0] [] M _
    refine ev_aload_n 1 dX8_lookAtFocus_0 rfl rfl ?_
    refine ev_getIv 4 (-1) dX8_lookAtFocus_1 rfl flX8_49 rfl rfl (by rw [hf, pm_0]) ?_
    refine ev_iconst 5 (-1) dX8_lookAtFocus_4 (by decide) rfl ?_
    refine ev_icmp_eq 8 24 dX8_lookAtFocus_5 (by decide) rfl (fun c5 => ?_) (fun c5 => ?_)
    · exact ev_vret dX8_lookAtFocus_24 rfl (⟨rfl, ⟨fun _ _ => rfl, fun _ _ => rfl⟩, by rw [hf]; rfl⟩)
    · exact absurd rfl c5
  | a + 1, ha, hf => by
    show Ev _ _ 0 [.ref 0] [] M _
    refine ev_aload_n 1 dX8_lookAtFocus_0 rfl rfl ?_
    refine ev_getIv 4 (nI a) dX8_lookAtFocus_1 rfl flX8_49 rfl rfl (by rw [hf, pm_s]) ?_
    refine ev_iconst 5 (-1) dX8_lookAtFocus_4 (by decide) rfl ?_
    refine ev_icmp_eq 8 24 dX8_lookAtFocus_5 (by decide) rfl (fun c5 => ?_) (fun c5 => ?_)
    · exact absurd c5 (nI_m1 (by omega))
    · refine ev_aload_n 9 dX8_lookAtFocus_8 rfl rfl ?_
      refine ev_aload_n 10 dX8_lookAtFocus_9 rfl rfl ?_
      refine ev_getIv 13 (nI a) dX8_lookAtFocus_10 rfl flX8_49 rfl rfl (by rw [hf, pm_s]) ?_
      refine ev_cV1I _ M 16 dX8_lookAtFocus_13 mlX8_89 moX8_isShown rfl imX8_isShown ⟨_, _, rfl, rfl, rfl⟩ (Nat.le_of_ble_eq_true rfl) (Nat.le_of_ble_eq_true rfl) rfl (s_X8_isShown ht hn ha) ?_
      refine ev_if_neB 19 24 dX8_lookAtFocus_16 (by decide) rfl (fun c16 => ?_) (fun c16 => ?_)
      · exact ev_vret dX8_lookAtFocus_24 rfl (⟨rfl, ⟨fun _ _ => rfl, fun _ _ => rfl⟩, by rw [hf, lkS, if_pos c16]⟩)
      · refine ev_aload_n 20 dX8_lookAtFocus_19 rfl rfl ?_
        refine ev_iconst 21 (-1) dX8_lookAtFocus_20 (by decide) rfl ?_
        refine ev_putI 24 dX8_lookAtFocus_21 rfl flX8_49 fiX8_2 rfl rfl ?_
        exact ev_vret dX8_lookAtFocus_24 rfl (⟨rfl, ⟨fun q hq => mst_other _ _ _ hq, fun j hj => by rw [mst_same, upd, if_neg hj]⟩, by rw [mst_same, upd, if_pos rfl, lkS, if_neg (by rw [c16]; decide), pm_0]⟩)
