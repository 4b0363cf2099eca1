/-! the reference: isAhead, isWrong, findWrongs -/
def ahR (h : Nat → Int32) (l : List Nat) (p a : Nat) : Nat → Bool
  | 0 => false
  | d + 1 => ahR h l p a d || astr h p (nth l (a + 1 + d))
def ahS (h : Nat → Int32) (l : List Nat) (p : Nat) : Bool := ahR h l p (ixF l (nI p) l.length) (l.length - 1 - ixF l (nI p) l.length)
theorem in_1 (x : Int32) {c : Nat} (hc : c < 2 ^ 31 - 1) : decide (lN 1 ≤ x.toInt64 ∧ x.toInt64 ≤ lN c) = (decide (0 < x) && decide (x < nI (c + 1))) := by
  rw [← Bool.decide_and]
  refine decide_eq_decide.mpr ?_
  rw [fa_le64, fa_le64, fa_lt, fa_lt, Int32.toInt_toInt64, lN_toInt (by omega), lN_toInt (by omega), nI_toInt (by omega)]
  have e : (0 : Int32).toInt = 0 := by decide
  rw [e]
  omega
theorem s_X8_isAhead_2 {M : Mm} {l : List Nat} (hl : rowAt M 7 0 10 l) (x : Int32) (u v : Value) {Q : Pst} : ∀ d i, i + d = l.length → Ev MSh mX8_isAhead 26 [.ref 0, .int x, .int (nI (ixF l x d)), u, v] [] M Q → Ev MSh mX8_isAhead 2 [.ref 0, .int x, .int (nI i), u, v] [] M Q
  | 0, i, h, k => by
    have hle := hl.2.1
    rw [ixF] at k
    refine ev_iload_n 3 dX8_isAhead_2 rfl rfl ?_
    refine ev_aload_n 4 dX8_isAhead_3 rfl rfl ?_
    refine ev_getIv 7 (nI l.length) dX8_isAhead_4 rfl flX8_141 rfl rfl hl.1 ?_
    refine ev_icmp_geN 10 26 dX8_isAhead_7 (by decide) rfl (by omega) (by omega) (fun c7 => ?_) (fun c7 => ?_)
    · rw [show i = l.length by omega]
      exact k
    · omega
  | d + 1, i, h, k => by
    have hle := hl.2.1
    refine ev_iload_n 3 dX8_isAhead_2 rfl rfl ?_
    refine ev_aload_n 4 dX8_isAhead_3 rfl rfl ?_
    refine ev_getIv 7 (nI l.length) dX8_isAhead_4 rfl flX8_141 rfl rfl hl.1 ?_
    refine ev_icmp_geN 10 26 dX8_isAhead_7 (by decide) rfl (by omega) (by omega) (fun c7 => ?_) (fun c7 => ?_)
    · omega
    · refine ev_aload_n 11 dX8_isAhead_10 rfl rfl ?_
      refine ev_getR 14 dX8_isAhead_11 rfl flX8_28 rfl rfl ?_
      refine ev_iload_n 15 dX8_isAhead_14 rfl rfl ?_
      refine ev_iaN 16 (nI (nth l i)) dX8_isAhead_15 rfl (by omega) (by decide) rfl (hl.2.2 i (by omega)) ?_
      refine ev_iload_n 17 dX8_isAhead_16 rfl rfl ?_
      refine ev_icmp_eq 20 26 dX8_isAhead_17 (by decide) rfl (fun c17 => ?_) (fun c17 => ?_)
      · rw [ixF, show l.length - (d + 1) = i by omega, if_pos c17] at k
        exact k
      · refine ev_iincN 23 _ dX8_isAhead_20 rfl (by decide) rfl rfl rfl ?_
        refine ev_goto 2 dX8_isAhead_23 (by decide) ?_
        refine s_X8_isAhead_2 hl x u v d (i + 1) (by omega) ?_
        rw [ixF, show l.length - (d + 1) = i by omega, if_neg c17] at k
        exact k
theorem s_X8_isAhead_33 {M : Mm} {l : List Nat} (hl : rowAt M 7 0 10 l) (hb : ∀ x ∈ l, x < 24) {p : Nat} (hp : p < 24) (a : Nat) (ha : a ≤ l.length) : ∀ d i, (a + 1 + i) + d = max (a + 1) l.length → Ev MSh mX8_isAhead 33 [.ref 0, .int (nI p), .int (nI a), .int (bI (ahR (M 1) l p a i)), .int (nI (a + 1 + i))] [] M (RetI (bI (ahR (M 1) l p a (l.length - 1 - a))) M)
  | 0, i, h => by
    have hle := hl.2.1
    refine ev_iload 35 dX8_isAhead_33 rfl rfl ?_
    refine ev_aload_n 36 dX8_isAhead_35 rfl rfl ?_
    refine ev_getIv 39 (nI l.length) dX8_isAhead_36 rfl flX8_141 rfl rfl hl.1 ?_
    refine ev_icmp_geN 42 73 dX8_isAhead_39 (by decide) rfl (by omega) (by omega) (fun c39 => ?_) (fun c39 => ?_)
    · refine ev_iload_n 74 dX8_isAhead_73 rfl rfl ?_
      exact ev_zretB dX8_isAhead_74 rfl (⟨by rw [show l.length - 1 - a = i by omega], rfl⟩)
    · omega
  | d + 1, i, h => by
    have hle := hl.2.1
    refine ev_iload 35 dX8_isAhead_33 rfl rfl ?_
    refine ev_aload_n 36 dX8_isAhead_35 rfl rfl ?_
    refine ev_getIv 39 (nI l.length) dX8_isAhead_36 rfl flX8_141 rfl rfl hl.1 ?_
    refine ev_icmp_geN 42 73 dX8_isAhead_39 (by decide) rfl (by omega) (by omega) (fun c39 => ?_) (fun c39 => ?_)
    · omega
    · refine ev_iload_n 43 dX8_isAhead_42 rfl rfl ?_
      refine ev_if_neB 46 61 dX8_isAhead_43 (by decide) rfl (fun c43 => ?_) (fun c43 => ?_)
      · refine ev_iconst 62 (nI 1) dX8_isAhead_61 (by decide) rfl ?_
        refine ev_goto 66 dX8_isAhead_62 (by decide) ?_
        refine ev_eqI ((by rw [ahR, c43]; rfl) : _ = bI (ahR (M 1) l p a (i + 1))) ?_
        refine ev_istore_n 67 _ dX8_isAhead_66 (by decide) rfl rfl rfl ?_
        refine ev_iincN 70 _ dX8_isAhead_67 rfl (by decide) rfl rfl rfl ?_
        refine ev_goto 33 dX8_isAhead_70 (by decide) ?_
        exact s_X8_isAhead_33 hl hb hp a ha d (i + 1) (by omega)
      · refine ev_aload_n 47 dX8_isAhead_46 rfl rfl ?_
        refine ev_iload_n 48 dX8_isAhead_47 rfl rfl ?_
        refine ev_aload_n 49 dX8_isAhead_48 rfl rfl ?_
        refine ev_getR 52 dX8_isAhead_49 rfl flX8_28 rfl rfl ?_
        refine ev_iload 54 dX8_isAhead_52 rfl rfl ?_
        refine ev_iaN 55 (nI (nth l (a + 1 + i))) dX8_isAhead_54 rfl (by omega) (by decide) rfl (hl.2.2 _ (by omega)) ?_
        refine ev_cV2I _ M 58 dX8_isAhead_55 mlX8_153 moX8_isAstray rfl imX8_isAstray ⟨_, _, rfl, rfl, rfl⟩ (Nat.le_of_ble_eq_true rfl) (Nat.le_of_ble_eq_true rfl) rfl (s_X8_isAstray hp (hb _ (getD_mem (by omega)))) ?_
        refine ev_if_eqB 61 65 dX8_isAhead_58 (by decide) rfl (fun c58 => ?_) (fun c58 => ?_)
        · refine ev_iconst 66 (nI 0) dX8_isAhead_65 (by decide) rfl ?_
          refine ev_eqI ((by rw [ahR, c43, c58]; rfl) : _ = bI (ahR (M 1) l p a (i + 1))) ?_
          refine ev_istore_n 67 _ dX8_isAhead_66 (by decide) rfl rfl rfl ?_
          refine ev_iincN 70 _ dX8_isAhead_67 rfl (by decide) rfl rfl rfl ?_
          refine ev_goto 33 dX8_isAhead_70 (by decide) ?_
          exact s_X8_isAhead_33 hl hb hp a ha d (i + 1) (by omega)
        · refine ev_iconst 62 (nI 1) dX8_isAhead_61 (by decide) rfl ?_
          refine ev_goto 66 dX8_isAhead_62 (by decide) ?_
          refine ev_eqI ((by rw [ahR, c43, c58]; rfl) : _ = bI (ahR (M 1) l p a (i + 1))) ?_
          refine ev_istore_n 67 _ dX8_isAhead_66 (by decide) rfl rfl rfl ?_
          refine ev_iincN 70 _ dX8_isAhead_67 rfl (by decide) rfl rfl rfl ?_
          refine ev_goto 33 dX8_isAhead_70 (by decide) ?_
          exact s_X8_isAhead_33 hl hb hp a ha d (i + 1) (by omega)
theorem s_X8_isAhead {M : Mm} {l : List Nat} {p : Nat} (hl : rowAt M 7 0 10 l) (hb : ∀ x ∈ l, x < 24) (hp : p < 24) : Ct MSh mX8_isAhead [.ref 0, .int (nI p)] M (RetI (bI (ahS (M 1) l p)) M) := by
  show Ev _ _ 0 [.ref 0, .int (nI p), .null, .null, .null] [] M _
  refine ev_iconst 1 (nI 0) dX8_isAhead_0 (by decide) rfl ?_
  refine ev_istore_n 2 _ dX8_isAhead_1 (by decide) rfl rfl rfl ?_
  refine s_X8_isAhead_2 hl (nI p) _ _ l.length 0 (by omega) ?_
  refine ev_iconst 27 (nI 0) dX8_isAhead_26 (by decide) rfl ?_
  refine ev_istore_n 28 _ dX8_isAhead_27 (by decide) rfl rfl rfl ?_
  refine ev_iload_n 29 dX8_isAhead_28 rfl rfl ?_
  refine ev_iconst 30 (nI 1) dX8_isAhead_29 (by decide) rfl ?_
  refine ev_iaddN 31 dX8_isAhead_30 rfl ?_
  refine ev_istore 33 _ dX8_isAhead_31 (by decide) rfl rfl rfl ?_
  exact s_X8_isAhead_33 hl hb hp _ (ixF_le _ _ _) (max (ixF l (nI p) l.length + 1) l.length - (ixF l (nI p) l.length + 1)) 0 (by omega)
def ctF (h : Nat → Int32) (n : Nat) (x : Int32) : Int32 := if inB x n then nI (ctH h x.toNatClampNeg) else -101
theorem s_X8_contrast {M : Mm} {n : Nat} (hn1 : 1 ≤ n) (hn : n ≤ 24) (hm : M 0 0 = nI n) (hco : ∀ a, a < n → colOK (M 1) a) (x : Int32) : Ct MSh mX8_contrast [.ref 0, .int x] M (RetI (ctF (M 1) n x) M) := by
  show Ev _ _ 0 [.ref 0, .int x] [] M _
  refine ev_aload_n 1 dX8_contrast_0 rfl rfl ?_
  refine ev_iload_n 2 dX8_contrast_1 rfl rfl ?_
  refine ev_cV1I _ M 5 dX8_contrast_2 mlX8_68 moX8_isPart rfl imX8_isPart ⟨_, _, rfl, rfl, rfl⟩ (Nat.le_of_ble_eq_true rfl) (Nat.le_of_ble_eq_true rfl) rfl (s_X8_isPart hn1 hn hm x) ?_
  refine ev_if_eqB 8 28 dX8_contrast_5 (by decide) rfl (fun c5 => ?_) (fun c5 => ?_)
  · refine ev_bipush 30 (-101) dX8_contrast_28 (by decide) rfl ?_
    exact ev_iret dX8_contrast_30 rfl (⟨by rw [ctF, if_neg (by rw [c5]; decide)], rfl⟩)
  · obtain ⟨a, ha, rfl⟩ := inB_of c5 (by omega)
    obtain ⟨⟨va, hva, ea⟩, ⟨vb, hvb, eb⟩⟩ := hco a ha
    refine ev_aload_n 9 dX8_contrast_8 rfl rfl ?_
    refine ev_iload_n 10 dX8_contrast_9 rfl rfl ?_
    refine ev_bipush 12 (nI 16) dX8_contrast_10 (by decide) rfl ?_
    refine ev_cV2I (nI va) M 15 dX8_contrast_12 mlX8_74 moX8_get rfl imX8_get ⟨_, _, rfl, rfl, rfl⟩ (Nat.le_of_ble_eq_true rfl) (Nat.le_of_ble_eq_true rfl) rfl (by have z := s_X8_get (M := M) (a := a) (b := 16) (by omega) (by omega); rwa [ea] at z) ?_
    refine ev_aload_n 16 dX8_contrast_15 rfl rfl ?_
    refine ev_iload_n 17 dX8_contrast_16 rfl rfl ?_
    refine ev_bipush 19 (nI 17) dX8_contrast_17 (by decide) rfl ?_
    refine ev_cV2I (nI vb) M 22 dX8_contrast_19 mlX8_74 moX8_get rfl imX8_get ⟨_, _, rfl, rfl, rfl⟩ (Nat.le_of_ble_eq_true rfl) (Nat.le_of_ble_eq_true rfl) rfl (by have z := s_X8_get (M := M) (a := a) (b := 17) (by omega) (by omega); rwa [eb] at z) ?_
    refine ev_cS2I _ M 25 dX8_contrast_22 mlX8_125 moX8_contrastOf rfl smX8_contrastOf (Nat.le_of_ble_eq_true rfl) (Nat.le_of_ble_eq_true rfl) rfl (s_X8_contrastOf hva hvb) ?_
    refine ev_goto 30 dX8_contrast_25 (by decide) ?_
    exact ev_iret dX8_contrast_30 rfl (⟨by rw [ctF, if_pos c5, nI_clamp (by omega), ctH, ea, eb, nI_clamp (by omega), nI_clamp (by omega)], rfl⟩)
def wrgS (h : Nat → Int32) (n : Nat) (ns : Nat → List Int32) (sl : List Nat) (p s : Nat) : Bool := match s with
  | 0 => (stK h p || (h (p * 18 + 10) == nI 4)) && decide ((ns p).length = 0)
  | 1 => twN h ns p
  | 2 => ((h (p * 18 + 10) == nI 1) && decide (ctH h p < 4500)) || (stK h p && decide (ctH h p < 3000))
  | 3 => (h (p * 18 + 10) == nI 5) && clsS h n p
  | 4 => ahS h sl p
  | _ => (decide (0 < h (p * 18 + 8)) && decide (h (p * 18 + 8) < nI 20)) && (h (p * 18 + 9) == 0)
theorem s_X8_isWrong_23 {M : Mm} {n p s : Nat} {ns : Nat → List Int32} {sl : List Nat} (ht : TR (M 1) n) (hn : n ≤ 24) (hm : M 0 0 = nI n) (ho : opsOK (M 1) n) (hco : ∀ a, a < n → colOK (M 1) a) (hp : p < n) (hs : s < 6) (hns : ∀ q, q < n → nmAt M 5 6 q (ns q)) (hsl : rowAt M 7 0 10 sl) (hslb : ∀ x ∈ sl, x < 24) : Ev MSh mX8_isWrong 23 [.ref 0, .int (nI p), .int (nI s), .int (M 1 (p * 18 + 10)), .null] [.int (bI (stK (M 1) p))] M (RetI (bI (wrgS (M 1) n ns sl p s)) M) := by
  have hct := ctH_lt (M 1) p
  have hle := (hns p hp).1
  refine ev_istore 25 _ dX8_isWrong_23 (by decide) rfl rfl rfl ?_
  refine ev_iload_n 26 dX8_isWrong_25 rfl rfl ?_
  rcases (show s = 0 ∨ s = 1 ∨ s = 2 ∨ s = 3 ∨ s = 4 ∨ s = 5 by omega) with rfl | rfl | rfl | rfl | rfl | rfl
  · refine ev_tabIn 60 dX8_isWrong_26 (by decide) (by decide) rfl (by decide) ?_
    refine ev_iload 62 dX8_isWrong_60 rfl rfl ?_
    refine ev_if_neB 65 70 dX8_isWrong_62 (by decide) rfl (fun c62 => ?_) (fun c62 => ?_)
    · refine ev_aload_n 71 dX8_isWrong_70 rfl rfl ?_
      refine ev_getR 74 dX8_isWrong_71 rfl flX8_25 rfl rfl ?_
      refine ev_iload_n 75 dX8_isWrong_74 rfl rfl ?_
      refine ev_iaN 76 (nI (ns p).length) dX8_isWrong_75 rfl (by omega) (by decide) rfl (hns p hp).2.1 ?_
      refine ev_if_neN 79 83 dX8_isWrong_76 (by decide) rfl (by omega) (fun c76 => ?_) (fun c76 => ?_)
      · refine ev_iconst 84 (nI 0) dX8_isWrong_83 (by decide) rfl ?_
        exact ev_zret dX8_isWrong_84 rfl (Or.inl rfl) (⟨by unfold wrgS; rw [c62, decide_eq_false c76]; rfl, rfl⟩)
      · refine ev_iconst 80 (nI 1) dX8_isWrong_79 (by decide) rfl ?_
        refine ev_goto 84 dX8_isWrong_80 (by decide) ?_
        exact ev_zret dX8_isWrong_84 rfl (Or.inr rfl) (⟨by unfold wrgS; rw [c62, decide_eq_true c76]; rfl, rfl⟩)
    · refine ev_iload_n 66 dX8_isWrong_65 rfl rfl ?_
      refine ev_iconst 67 (nI 4) dX8_isWrong_66 (by decide) rfl ?_
      refine ev_icmp_ne 70 83 dX8_isWrong_67 (by decide) rfl (fun c67 => ?_) (fun c67 => ?_)
      · refine ev_iconst 84 (nI 0) dX8_isWrong_83 (by decide) rfl ?_
        exact ev_zret dX8_isWrong_84 rfl (Or.inl rfl) (⟨by unfold wrgS; rw [c62, beq_eq_false_iff_ne.mpr c67]; rfl, rfl⟩)
      · refine ev_aload_n 71 dX8_isWrong_70 rfl rfl ?_
        refine ev_getR 74 dX8_isWrong_71 rfl flX8_25 rfl rfl ?_
        refine ev_iload_n 75 dX8_isWrong_74 rfl rfl ?_
        refine ev_iaN 76 (nI (ns p).length) dX8_isWrong_75 rfl (by omega) (by decide) rfl (hns p hp).2.1 ?_
        refine ev_if_neN 79 83 dX8_isWrong_76 (by decide) rfl (by omega) (fun c76 => ?_) (fun c76 => ?_)
        · refine ev_iconst 84 (nI 0) dX8_isWrong_83 (by decide) rfl ?_
          exact ev_zret dX8_isWrong_84 rfl (Or.inl rfl) (⟨by unfold wrgS; rw [c62, beq_iff_eq.mpr c67, decide_eq_false c76]; rfl, rfl⟩)
        · refine ev_iconst 80 (nI 1) dX8_isWrong_79 (by decide) rfl ?_
          refine ev_goto 84 dX8_isWrong_80 (by decide) ?_
          exact ev_zret dX8_isWrong_84 rfl (Or.inr rfl) (⟨by unfold wrgS; rw [c62, beq_iff_eq.mpr c67, decide_eq_true c76]; rfl, rfl⟩)
  · refine ev_tabIn 85 dX8_isWrong_26 (by decide) (by decide) rfl (by decide) ?_
    refine ev_aload_n 86 dX8_isWrong_85 rfl rfl ?_
    refine ev_iload_n 87 dX8_isWrong_86 rfl rfl ?_
    refine ev_cV1I _ M 90 dX8_isWrong_87 mlX8_197 moX8_isTwin rfl imX8_isTwin ⟨_, _, rfl, rfl, rfl⟩ (Nat.le_of_ble_eq_true rfl) (Nat.le_of_ble_eq_true rfl) rfl (s_X8_isTwin ht hn hp hns) ?_
    exact ev_zretB dX8_isWrong_90 rfl (⟨rfl, rfl⟩)
  · refine ev_tabIn 91 dX8_isWrong_26 (by decide) (by decide) rfl (by decide) ?_
    refine ev_iload_n 92 dX8_isWrong_91 rfl rfl ?_
    refine ev_iconst 93 (nI 1) dX8_isWrong_92 (by decide) rfl ?_
    refine ev_icmp_ne 96 107 dX8_isWrong_93 (by decide) rfl (fun c93 => ?_) (fun c93 => ?_)
    · refine ev_iload 109 dX8_isWrong_107 rfl rfl ?_
      refine ev_if_eqB 112 127 dX8_isWrong_109 (by decide) rfl (fun c109 => ?_) (fun c109 => ?_)
      · refine ev_iconst 128 (nI 0) dX8_isWrong_127 (by decide) rfl ?_
        exact ev_zret dX8_isWrong_128 rfl (Or.inl rfl) (⟨by unfold wrgS; rw [beq_eq_false_iff_ne.mpr c93, c109]; rfl, rfl⟩)
      · refine ev_aload_n 113 dX8_isWrong_112 rfl rfl ?_
        refine ev_iload_n 114 dX8_isWrong_113 rfl rfl ?_
        refine ev_cV1I (nI (ctH (M 1) p)) M 117 dX8_isWrong_114 mlX8_200 moX8_contrast rfl imX8_contrast ⟨_, _, rfl, rfl, rfl⟩ (Nat.le_of_ble_eq_true rfl) (Nat.le_of_ble_eq_true rfl) rfl (by have z := s_X8_contrast (M := M) (by omega) hn hm hco (nI p); rwa [ctF, inB_nI (by omega), if_pos (by simp [hp]), nI_clamp (by omega)] at z) ?_
        refine ev_sipush 120 (nI 3000) dX8_isWrong_117 (by decide) rfl ?_
        refine ev_icmp_geN 123 127 dX8_isWrong_120 (by decide) rfl hct (by omega) (fun c120 => ?_) (fun c120 => ?_)
        · refine ev_iconst 128 (nI 0) dX8_isWrong_127 (by decide) rfl ?_
          exact ev_zret dX8_isWrong_128 rfl (Or.inl rfl) (⟨by unfold wrgS; rw [beq_eq_false_iff_ne.mpr c93, c109, decide_eq_false (show ¬ ctH (M 1) p < 3000 by omega)]; rfl, rfl⟩)
        · refine ev_iconst 124 (nI 1) dX8_isWrong_123 (by decide) rfl ?_
          refine ev_goto 128 dX8_isWrong_124 (by decide) ?_
          exact ev_zret dX8_isWrong_128 rfl (Or.inr rfl) (⟨by unfold wrgS; rw [beq_eq_false_iff_ne.mpr c93, c109, decide_eq_true (show ctH (M 1) p < 3000 by omega)]; rfl, rfl⟩)
    · refine ev_aload_n 97 dX8_isWrong_96 rfl rfl ?_
      refine ev_iload_n 98 dX8_isWrong_97 rfl rfl ?_
      refine ev_cV1I (nI (ctH (M 1) p)) M 101 dX8_isWrong_98 mlX8_200 moX8_contrast rfl imX8_contrast ⟨_, _, rfl, rfl, rfl⟩ (Nat.le_of_ble_eq_true rfl) (Nat.le_of_ble_eq_true rfl) rfl (by have z := s_X8_contrast (M := M) (by omega) hn hm hco (nI p); rwa [ctF, inB_nI (by omega), if_pos (by simp [hp]), nI_clamp (by omega)] at z) ?_
      refine ev_sipush 104 (nI 4500) dX8_isWrong_101 (by decide) rfl ?_
      refine ev_icmp_ltN 107 123 dX8_isWrong_104 (by decide) rfl hct (by omega) (fun c104 => ?_) (fun c104 => ?_)
      · refine ev_iconst 124 (nI 1) dX8_isWrong_123 (by decide) rfl ?_
        refine ev_goto 128 dX8_isWrong_124 (by decide) ?_
        exact ev_zret dX8_isWrong_128 rfl (Or.inr rfl) (⟨by unfold wrgS; rw [beq_iff_eq.mpr c93, decide_eq_true (show ctH (M 1) p < 4500 by omega)]; rfl, rfl⟩)
      · refine ev_iload 109 dX8_isWrong_107 rfl rfl ?_
        refine ev_if_eqB 112 127 dX8_isWrong_109 (by decide) rfl (fun c109 => ?_) (fun c109 => ?_)
        · refine ev_iconst 128 (nI 0) dX8_isWrong_127 (by decide) rfl ?_
          exact ev_zret dX8_isWrong_128 rfl (Or.inl rfl) (⟨by unfold wrgS; rw [beq_iff_eq.mpr c93, decide_eq_false (show ¬ ctH (M 1) p < 4500 by omega), c109]; rfl, rfl⟩)
        · refine ev_aload_n 113 dX8_isWrong_112 rfl rfl ?_
          refine ev_iload_n 114 dX8_isWrong_113 rfl rfl ?_
          refine ev_cV1I (nI (ctH (M 1) p)) M 117 dX8_isWrong_114 mlX8_200 moX8_contrast rfl imX8_contrast ⟨_, _, rfl, rfl, rfl⟩ (Nat.le_of_ble_eq_true rfl) (Nat.le_of_ble_eq_true rfl) rfl (by have z := s_X8_contrast (M := M) (by omega) hn hm hco (nI p); rwa [ctF, inB_nI (by omega), if_pos (by simp [hp]), nI_clamp (by omega)] at z) ?_
          refine ev_sipush 120 (nI 3000) dX8_isWrong_117 (by decide) rfl ?_
          refine ev_icmp_geN 123 127 dX8_isWrong_120 (by decide) rfl hct (by omega) (fun c120 => ?_) (fun c120 => ?_)
          · refine ev_iconst 128 (nI 0) dX8_isWrong_127 (by decide) rfl ?_
            exact ev_zret dX8_isWrong_128 rfl (Or.inl rfl) (⟨by unfold wrgS; rw [beq_iff_eq.mpr c93, decide_eq_false (show ¬ ctH (M 1) p < 4500 by omega), c109, decide_eq_false (show ¬ ctH (M 1) p < 3000 by omega)]; rfl, rfl⟩)
          · refine ev_iconst 124 (nI 1) dX8_isWrong_123 (by decide) rfl ?_
            refine ev_goto 128 dX8_isWrong_124 (by decide) ?_
            exact ev_zret dX8_isWrong_128 rfl (Or.inr rfl) (⟨by unfold wrgS; rw [beq_iff_eq.mpr c93, decide_eq_false (show ¬ ctH (M 1) p < 4500 by omega), c109, decide_eq_true (show ctH (M 1) p < 3000 by omega)]; rfl, rfl⟩)
  · refine ev_tabIn 129 dX8_isWrong_26 (by decide) (by decide) rfl (by decide) ?_
    refine ev_iload_n 130 dX8_isWrong_129 rfl rfl ?_
    refine ev_iconst 131 (nI 5) dX8_isWrong_130 (by decide) rfl ?_
    refine ev_icmp_ne 134 146 dX8_isWrong_131 (by decide) rfl (fun c131 => ?_) (fun c131 => ?_)
    · refine ev_iconst 147 (nI 0) dX8_isWrong_146 (by decide) rfl ?_
      exact ev_zret dX8_isWrong_147 rfl (Or.inl rfl) (⟨by unfold wrgS; rw [beq_eq_false_iff_ne.mpr c131]; rfl, rfl⟩)
    · refine ev_aload_n 135 dX8_isWrong_134 rfl rfl ?_
      refine ev_iload_n 136 dX8_isWrong_135 rfl rfl ?_
      refine ev_cV1I _ M 139 dX8_isWrong_136 mlX8_203 moX8_isClosed rfl imX8_isClosed ⟨_, _, rfl, rfl, rfl⟩ (Nat.le_of_ble_eq_true rfl) (Nat.le_of_ble_eq_true rfl) rfl (s_X8_isClosed ht hn hm hp ho) ?_
      refine ev_if_eqB 142 146 dX8_isWrong_139 (by decide) rfl (fun c139 => ?_) (fun c139 => ?_)
      · refine ev_iconst 147 (nI 0) dX8_isWrong_146 (by decide) rfl ?_
        exact ev_zret dX8_isWrong_147 rfl (Or.inl rfl) (⟨by unfold wrgS; rw [beq_iff_eq.mpr c131, c139]; rfl, rfl⟩)
      · refine ev_iconst 143 (nI 1) dX8_isWrong_142 (by decide) rfl ?_
        refine ev_goto 147 dX8_isWrong_143 (by decide) ?_
        exact ev_zret dX8_isWrong_147 rfl (Or.inr rfl) (⟨by unfold wrgS; rw [beq_iff_eq.mpr c131, c139]; rfl, rfl⟩)
  · refine ev_tabIn 148 dX8_isWrong_26 (by decide) (by decide) rfl (by decide) ?_
    refine ev_aload_n 149 dX8_isWrong_148 rfl rfl ?_
    refine ev_iload_n 150 dX8_isWrong_149 rfl rfl ?_
    refine ev_cV1I _ M 153 dX8_isWrong_150 mlX8_206 moX8_isAhead rfl imX8_isAhead ⟨_, _, rfl, rfl, rfl⟩ (Nat.le_of_ble_eq_true rfl) (Nat.le_of_ble_eq_true rfl) rfl (s_X8_isAhead hsl hslb (by omega)) ?_
    exact ev_zretB dX8_isWrong_153 rfl (⟨rfl, rfl⟩)
  · refine ev_tabOut 154 dX8_isWrong_26 (by decide) (by decide) ?_
    refine ev_aload_n 155 dX8_isWrong_154 rfl rfl ?_
    refine ev_iload_n 156 dX8_isWrong_155 rfl rfl ?_
    refine ev_bipush 158 (nI 8) dX8_isWrong_156 (by decide) rfl ?_
    refine ev_cV2I (M 1 (p * 18 + 8)) M 161 dX8_isWrong_158 mlX8_74 moX8_get rfl imX8_get ⟨_, _, rfl, rfl, rfl⟩ (Nat.le_of_ble_eq_true rfl) (Nat.le_of_ble_eq_true rfl) rfl (s_X8_get (a := p) (b := 8) (by omega) (by omega)) ?_
    refine ev_i2l 162 dX8_isWrong_161 rfl ?_
    refine ev_lconst 163 (lN 1) dX8_isWrong_162 rfl rfl ?_
    refine ev_ldc2 166 (lN 19) dX8_isWrong_163 kX8_209 rfl ?_
    refine ev_cS3I (bI (decide (0 < M 1 (p * 18 + 8)) && decide (M 1 (p * 18 + 8) < nI 20))) M 169 dX8_isWrong_166 mlX8_64 moX8_in rfl smX8_in (Nat.le_of_ble_eq_true rfl) (Nat.le_of_ble_eq_true rfl) rfl (by have z := s_in (Sh := MSh) (M := M) (M 1 (p * 18 + 8)).toInt64 (lN 1) (lN 19); rwa [in_1 _ (by omega)] at z) ?_
    refine ev_if_eqB 172 186 dX8_isWrong_169 (by decide) rfl (fun c169 => ?_) (fun c169 => ?_)
    · refine ev_iconst 187 (nI 0) dX8_isWrong_186 (by decide) rfl ?_
      exact ev_zret dX8_isWrong_187 rfl (Or.inl rfl) (⟨by unfold wrgS; rw [c169]; rfl, rfl⟩)
    · refine ev_aload_n 173 dX8_isWrong_172 rfl rfl ?_
      refine ev_iload_n 174 dX8_isWrong_173 rfl rfl ?_
      refine ev_bipush 176 (nI 9) dX8_isWrong_174 (by decide) rfl ?_
      refine ev_cV2I (M 1 (p * 18 + 9)) M 179 dX8_isWrong_176 mlX8_74 moX8_get rfl imX8_get ⟨_, _, rfl, rfl, rfl⟩ (Nat.le_of_ble_eq_true rfl) (Nat.le_of_ble_eq_true rfl) rfl (s_X8_get (a := p) (b := 9) (by omega) (by omega)) ?_
      refine ev_if_ne 182 186 dX8_isWrong_179 (by decide) rfl (fun c179 => ?_) (fun c179 => ?_)
      · refine ev_iconst 187 (nI 0) dX8_isWrong_186 (by decide) rfl ?_
        exact ev_zret dX8_isWrong_187 rfl (Or.inl rfl) (⟨by unfold wrgS; rw [c169, beq_eq_false_iff_ne.mpr c179]; rfl, rfl⟩)
      · refine ev_iconst 183 (nI 1) dX8_isWrong_182 (by decide) rfl ?_
        refine ev_goto 187 dX8_isWrong_183 (by decide) ?_
        exact ev_zret dX8_isWrong_187 rfl (Or.inr rfl) (⟨by unfold wrgS; rw [c169, beq_iff_eq.mpr c179]; rfl, rfl⟩)
theorem s_X8_isWrong {M : Mm} {n p s : Nat} {ns : Nat → List Int32} {sl : List Nat} (ht : TR (M 1) n) (hn : n ≤ 24) (hm : M 0 0 = nI n) (ho : opsOK (M 1) n) (hco : ∀ a, a < n → colOK (M 1) a) (hp : p < n) (hs : s < 6) (hns : ∀ q, q < n → nmAt M 5 6 q (ns q)) (hsl : rowAt M 7 0 10 sl) (hslb : ∀ x ∈ sl, x < 24) : Ct MSh mX8_isWrong [.ref 0, .int (nI p), .int (nI s)] M (RetI (bI (wrgS (M 1) n ns sl p s)) M) := by
  show Ev _ _ 0 [.ref 0, .int (nI p), .int (nI s), .null, .null] [] M _
  refine ev_aload_n 1 dX8_isWrong_0 rfl rfl ?_
  refine ev_iload_n 2 dX8_isWrong_1 rfl rfl ?_
  refine ev_bipush 4 (nI 10) dX8_isWrong_2 (by decide) rfl ?_
  refine ev_cV2I (M 1 (p * 18 + 10)) M 7 dX8_isWrong_4 mlX8_74 moX8_get rfl imX8_get ⟨_, _, rfl, rfl, rfl⟩ (Nat.le_of_ble_eq_true rfl) (Nat.le_of_ble_eq_true rfl) rfl (s_X8_get (a := p) (b := 10) (by omega) (by omega)) ?_
  refine ev_istore_n 8 _ dX8_isWrong_7 (by decide) rfl rfl rfl ?_
  refine ev_iload_n 9 dX8_isWrong_8 rfl rfl ?_
  refine ev_iconst 10 (nI 2) dX8_isWrong_9 (by decide) rfl ?_
  refine ev_icmp_eq 13 18 dX8_isWrong_10 (by decide) rfl (fun c10 => ?_) (fun c10 => ?_)
  · refine ev_iconst 19 (nI 1) dX8_isWrong_18 (by decide) rfl ?_
    refine ev_goto 23 dX8_isWrong_19 (by decide) ?_
    refine ev_eqI ((by rw [stK, beq_iff_eq.mpr c10]; rfl) : _ = bI (stK (M 1) p)) ?_
    exact s_X8_isWrong_23 ht hn hm ho hco hp hs hns hsl hslb
  · refine ev_iload_n 14 dX8_isWrong_13 rfl rfl ?_
    refine ev_iconst 15 (nI 3) dX8_isWrong_14 (by decide) rfl ?_
    refine ev_icmp_ne 18 22 dX8_isWrong_15 (by decide) rfl (fun c15 => ?_) (fun c15 => ?_)
    · refine ev_iconst 23 (nI 0) dX8_isWrong_22 (by decide) rfl ?_
      refine ev_eqI ((by rw [stK, beq_eq_false_iff_ne.mpr c10, beq_eq_false_iff_ne.mpr c15]; rfl) : _ = bI (stK (M 1) p)) ?_
      exact s_X8_isWrong_23 ht hn hm ho hco hp hs hns hsl hslb
    · refine ev_iconst 19 (nI 1) dX8_isWrong_18 (by decide) rfl ?_
      refine ev_goto 23 dX8_isWrong_19 (by decide) ?_
      refine ev_eqI ((by rw [stK, beq_eq_false_iff_ne.mpr c10, beq_iff_eq.mpr c15]; rfl) : _ = bI (stK (M 1) p)) ?_
      exact s_X8_isWrong_23 ht hn hm ho hco hp hs hns hsl hslb
