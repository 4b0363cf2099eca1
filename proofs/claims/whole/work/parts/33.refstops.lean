/-! the reference: findStops, hear, pairs -/
def InsM (M M1 : Mm) (l : List Nat) (k : Nat) : Prop := (∀ q, q ≠ 8 → M1 q = M q) ∧ (∀ j, j < k → M1 8 j = nI (nth l j)) ∧ ∀ j, k ≤ j → j < l.length → M1 8 (j + 1) = nI (nth l j)
theorem rk_clamp {h : Nat → Int32} {a v : Nat} (hv : v ≤ 100) (e : h (a * 18 + 6) = nI v) : rkN h a = if v = 0 then 101 else v := by rw [rkN, e, nI_clamp (by omega)]

theorem s_X8_findStops_148 {M M1 : Mm} {l : List Nat} {p i kk : Nat} {wi : Int32} {u5 : Value} {Q : Pst} (hl : rowAt M 8 0 12 l) (hlen : l.length < 24) (hk : kk ≤ l.length) (hs : InsM M M1 l kk) (k : ∀ M2, (∀ q, q ≠ 0 → q ≠ 8 → M2 q = M q) → (∀ j, j ≠ 12 → M2 0 j = M 0 j) → rowAt M2 8 0 12 (l.take kk ++ p :: l.drop kk) → Ev MSh mX8_findStops 11 [.ref 0, .int wi, .int (nI (i + 1)), .int (nI p), .int (nI kk), u5] [] M2 Q) : Ev MSh mX8_findStops 148 [.ref 0, .int wi, .int (nI i), .int (nI p), .int (nI kk), u5] [] M1 Q := by
  refine ev_aload_n 149 dX8_findStops_148 rfl rfl ?_
  refine ev_getR 152 dX8_findStops_149 rfl flX8_31 rfl rfl ?_
  refine ev_iload 154 dX8_findStops_152 rfl rfl ?_
  refine ev_iload_n 155 dX8_findStops_154 rfl rfl ?_
  refine ev_iaS 156 dX8_findStops_155 rfl (by omega) (by decide) rfl ?_
  refine ev_aload_n 157 dX8_findStops_156 rfl rfl ?_
  refine ev_dup 158 dX8_findStops_157 rfl rfl ?_
  refine ev_getIv 161 (nI l.length) dX8_findStops_158 rfl flX8_156 rfl rfl (by rw [mst_other _ _ _ (by decide), hs.1 0 (by decide)]; exact hl.1) ?_
  refine ev_iconst 162 (nI 1) dX8_findStops_161 (by decide) rfl ?_
  refine ev_iaddN 163 dX8_findStops_162 rfl ?_
  refine ev_putI 166 dX8_findStops_163 rfl flX8_156 fiX8_12 rfl rfl ?_
  refine ev_iincN 169 _ dX8_findStops_166 rfl (by decide) rfl rfl rfl ?_
  refine ev_goto 11 dX8_findStops_169 (by decide) ?_
  refine k _ (fun q a b => by rw [mst_other _ _ _ a, mst_other _ _ _ b]; exact hs.1 q b) (fun j hj => by rw [mst_same, upd, if_neg hj, mst_other _ _ _ (by decide), hs.1 0 (by decide)]) ⟨by rw [mst_same, upd, if_pos rfl, ins_len hk], by rw [ins_len hk]; omega, fun j hj => ?_⟩
  rw [mst_other _ _ _ (by decide), mst_same, upd, nth_ins hk]
  rw [ins_len hk] at hj
  rcases Nat.lt_trichotomy j kk with q | q | q
  · rw [if_neg (by omega), if_pos q]; exact hs.2.1 j q
  · rw [if_pos q, if_neg (by omega), if_pos q]
  · rw [if_neg (by omega), if_neg (by omega), if_neg (by omega)]
    have := hs.2.2 (j - 1) (by omega) (by omega)
    rwa [show j - 1 + 1 = j by omega] at this
theorem s_X8_findStops_78 {M : Mm} {l : List Nat} {p i : Nat} {wi : Int32} {Q : Pst} (hl : rowAt M 8 0 12 l) (hlen : l.length < 24) (hb : ∀ y ∈ l, y < 24) (hpl : ∀ y ∈ l, plOK (M 1) y) (hp : p < 24) (hpp : plOK (M 1) p) : ∀ kk (M1 : Mm), kk ≤ l.length → InsM M M1 l kk → (∀ KK, KK = insAt (M 1) p l kk → ∀ M2, (∀ q, q ≠ 0 → q ≠ 8 → M2 q = M q) → (∀ j, j ≠ 12 → M2 0 j = M 0 j) → rowAt M2 8 0 12 (l.take KK ++ p :: l.drop KK) → Ev MSh mX8_findStops 11 [.ref 0, .int wi, .int (nI (i + 1)), .int (nI p), .int (nI KK), .int (nI (rkN (M 1) p))] [] M2 Q) → Ev MSh mX8_findStops 78 [.ref 0, .int wi, .int (nI i), .int (nI p), .int (nI kk), .int (nI (rkN (M 1) p))] [] M1 Q
  | 0, M1, hkl, hs, k => by
    refine ev_iload 80 dX8_findStops_78 rfl rfl ?_
    refine ev_if_leN 83 148 dX8_findStops_80 (by decide) rfl (by omega) (fun c80 => ?_) (fun c80 => ?_)
    · exact s_X8_findStops_148 hl hlen (Nat.zero_le _) hs (k 0 rfl)
    · exact absurd rfl c80
  | kk + 1, M1, hkl, hs, k => by
    have hr1 := rkN_le hpp
    have hy : nth l kk ∈ l := getD_mem (by omega)
    have hy24 := hb _ hy
    have hr2 := rkN_le (hpl _ hy)
    obtain ⟨v, hv, ev⟩ := hpl _ hy
    have e1 : M1 1 = M 1 := hs.1 1 (by decide)
    refine ev_iload 80 dX8_findStops_78 rfl rfl ?_
    refine ev_if_leN 83 148 dX8_findStops_80 (by decide) rfl (by omega) (fun c80 => ?_) (fun c80 => ?_)
    · exact absurd c80 (by omega)
    · refine ev_aload_n 84 dX8_findStops_83 rfl rfl ?_
      refine ev_aload_n 85 dX8_findStops_84 rfl rfl ?_
      refine ev_getR 88 dX8_findStops_85 rfl flX8_31 rfl rfl ?_
      refine ev_iload 90 dX8_findStops_88 rfl rfl ?_
      refine ev_iconst 91 (nI 1) dX8_findStops_90 (by decide) rfl ?_
      refine ev_isubN 92 dX8_findStops_91 (by omega) rfl ?_
      refine ev_iaN 93 (nI (nth l kk)) dX8_findStops_92 rfl (by omega) (by decide) rfl (hs.2.1 kk (by omega)) ?_
      refine ev_bipush 95 (nI 6) dX8_findStops_93 (by decide) rfl ?_
      refine ev_cV2I (nI v) M1 98 dX8_findStops_95 mlX8_74 moX8_get rfl imX8_get ⟨_, _, rfl, rfl, rfl⟩ (Nat.le_of_ble_eq_true rfl) (Nat.le_of_ble_eq_true rfl) rfl (by have z := s_X8_get (M := M1) (a := nth l kk) (b := 6) hy24 (by omega); rwa [e1, ev] at z) ?_
      refine ev_if_neN 101 106 dX8_findStops_98 (by decide) rfl (by omega) (fun c98 => ?_) (fun c98 => ?_)
      · refine ev_aload_n 107 dX8_findStops_106 rfl rfl ?_
        refine ev_aload_n 108 dX8_findStops_107 rfl rfl ?_
        refine ev_getR 111 dX8_findStops_108 rfl flX8_31 rfl rfl ?_
        refine ev_iload 113 dX8_findStops_111 rfl rfl ?_
        refine ev_iconst 114 (nI 1) dX8_findStops_113 (by decide) rfl ?_
        refine ev_isubN 115 dX8_findStops_114 (by omega) rfl ?_
        refine ev_iaN 116 (nI (nth l kk)) dX8_findStops_115 rfl (by omega) (by decide) rfl (hs.2.1 kk (by omega)) ?_
        refine ev_bipush 118 (nI 6) dX8_findStops_116 (by decide) rfl ?_
        refine ev_cV2I (nI v) M1 121 dX8_findStops_118 mlX8_74 moX8_get rfl imX8_get ⟨_, _, rfl, rfl, rfl⟩ (Nat.le_of_ble_eq_true rfl) (Nat.le_of_ble_eq_true rfl) rfl (by have z := s_X8_get (M := M1) (a := nth l kk) (b := 6) hy24 (by omega); rwa [e1, ev] at z) ?_
        refine ev_eqI ((by rw [rk_clamp hv ev, if_neg c98]) : _ = nI (rkN (M 1) (nth l kk))) ?_
        refine ev_iload 123 dX8_findStops_121 rfl rfl ?_
        refine ev_icmp_leN 126 148 dX8_findStops_123 (by decide) rfl (by omega) (by omega) (fun c123 => ?_) (fun c123 => ?_)
        · refine s_X8_findStops_148 hl hlen hkl hs (k (kk + 1) ?_)
          rw [insAt, if_neg (by omega)]
        · refine ev_aload_n 127 dX8_findStops_126 rfl rfl ?_
          refine ev_getR 130 dX8_findStops_127 rfl flX8_31 rfl rfl ?_
          refine ev_iload 132 dX8_findStops_130 rfl rfl ?_
          refine ev_aload_n 133 dX8_findStops_132 rfl rfl ?_
          refine ev_getR 136 dX8_findStops_133 rfl flX8_31 rfl rfl ?_
          refine ev_iload 138 dX8_findStops_136 rfl rfl ?_
          refine ev_iconst 139 (nI 1) dX8_findStops_138 (by decide) rfl ?_
          refine ev_isubN 140 dX8_findStops_139 (by omega) rfl ?_
          refine ev_iaN 141 (nI (nth l kk)) dX8_findStops_140 rfl (by omega) (by decide) rfl (hs.2.1 kk (by omega)) ?_
          refine ev_iaS 142 dX8_findStops_141 rfl (by omega) (by decide) rfl ?_
          refine ev_iincD 145 _ dX8_findStops_142 rfl (by decide) rfl rfl rfl ?_
          refine ev_goto 78 dX8_findStops_145 (by decide) ?_
          refine s_X8_findStops_78 hl hlen hb hpl hp hpp kk _ (by omega) ⟨fun q h1 => by rw [mst_other _ _ _ h1]; exact hs.1 q h1, fun j hj => ?_, fun j h1 h2 => ?_⟩ (fun KK e => k KK (by rw [e, insAt, if_pos (by omega)]))
          · rw [mst_same, upd, if_neg (by omega)]; exact hs.2.1 j (by omega)
          · rw [mst_same, upd]
            by_cases e : j = kk
            · rw [if_pos (by omega), e]
            · rw [if_neg (by omega)]; exact hs.2.2 j (by omega) h2
      · refine ev_bipush 103 (nI 101) dX8_findStops_101 (by decide) rfl ?_
        refine ev_goto 121 dX8_findStops_103 (by decide) ?_
        refine ev_eqI ((by rw [rk_clamp hv ev, if_pos c98]) : _ = nI (rkN (M 1) (nth l kk))) ?_
        refine ev_iload 123 dX8_findStops_121 rfl rfl ?_
        refine ev_icmp_leN 126 148 dX8_findStops_123 (by decide) rfl (by omega) (by omega) (fun c123 => ?_) (fun c123 => ?_)
        · refine s_X8_findStops_148 hl hlen hkl hs (k (kk + 1) ?_)
          rw [insAt, if_neg (by omega)]
        · refine ev_aload_n 127 dX8_findStops_126 rfl rfl ?_
          refine ev_getR 130 dX8_findStops_127 rfl flX8_31 rfl rfl ?_
          refine ev_iload 132 dX8_findStops_130 rfl rfl ?_
          refine ev_aload_n 133 dX8_findStops_132 rfl rfl ?_
          refine ev_getR 136 dX8_findStops_133 rfl flX8_31 rfl rfl ?_
          refine ev_iload 138 dX8_findStops_136 rfl rfl ?_
          refine ev_iconst 139 (nI 1) dX8_findStops_138 (by decide) rfl ?_
          refine ev_isubN 140 dX8_findStops_139 (by omega) rfl ?_
          refine ev_iaN 141 (nI (nth l kk)) dX8_findStops_140 rfl (by omega) (by decide) rfl (hs.2.1 kk (by omega)) ?_
          refine ev_iaS 142 dX8_findStops_141 rfl (by omega) (by decide) rfl ?_
          refine ev_iincD 145 _ dX8_findStops_142 rfl (by decide) rfl rfl rfl ?_
          refine ev_goto 78 dX8_findStops_145 (by decide) ?_
          refine s_X8_findStops_78 hl hlen hb hpl hp hpp kk _ (by omega) ⟨fun q h1 => by rw [mst_other _ _ _ h1]; exact hs.1 q h1, fun j hj => ?_, fun j h1 h2 => ?_⟩ (fun KK e => k KK (by rw [e, insAt, if_pos (by omega)]))
          · rw [mst_same, upd, if_neg (by omega)]; exact hs.2.1 j (by omega)
          · rw [mst_same, upd]
            by_cases e : j = kk
            · rw [if_pos (by omega), e]
            · rw [if_neg (by omega)]; exact hs.2.2 j (by omega) h2
def SmP (M M1 : Mm) : Prop := (∀ k, k ≠ 0 → k ≠ 3 → k ≠ 4 → k ≠ 8 → M1 k = M k) ∧ ∀ j, j ≠ 12 → M1 0 j = M 0 j
theorem SmP.e1 {M M1 : Mm} (h : SmP M M1) : M1 1 = M 1 := h.1 1 (by decide) (by decide) (by decide) (by decide)
def wiP (h : Nat → Int32) (w : Option Nat) (p : Nat) : Bool := match w with
  | none => true
  | some t => decide (t ∈ chain h p)
def stpP (h : Nat → Int32) (w : Option Nat) (p : Nat) : Bool := (stK h p && shwn h p) && wiP h w p
def stpL (h : Nat → Int32) (w : Option Nat) (ol : List Nat) : List Nat := (ol.filter (stpP h w)).foldl (insL h) []
theorem stpL_snoc {h : Nat → Int32} {w : Option Nat} {ol : List Nat} {i : Nat} (hi : i < ol.length) : stpL h w (ol.take (i + 1)) = if stpP h w (nth ol i) then insL h (stpL h w (ol.take i)) (nth ol i) else stpL h w (ol.take i) := by
  rw [stpL, flt_snoc hi]
  cases hb : stpP h w (nth ol i) <;> simp [stpL, List.foldl_append]
theorem stpL_mem {h : Nat → Int32} {w : Option Nat} {ol : List Nat} {y : Nat} : y ∈ stpL h w ol ↔ y ∈ ol ∧ stpP h w y = true := by
  rw [stpL, foldl_ins_mem, List.mem_filter]; simp
theorem stpL_len (h : Nat → Int32) (w : Option Nat) (ol : List Nat) : (stpL h w ol).length ≤ ol.length := by
  rw [stpL, foldl_ins_len]
  simpa using List.length_filter_le _ _
theorem s_X8_findStops_k {M : Mm} {n : Nat} (ht : TR (M 1) n) (hn0 : 0 < n) (hn : n ≤ 24) (hm : M 0 0 = nI n) (hpl : ∀ y, y < n → plOK (M 1) y) (w : Option Nat) (hw : ∀ t, w = some t → t < 24) : ∀ d i (M1 : Mm) (u3 u4 u5 : Value), i + d = (ordF (M 1) n).length → SmP M M1 → rowAt M1 8 0 12 (stpL (M 1) w ((ordF (M 1) n).take i)) → (∀ j, j < (ordF (M 1) n).length → M1 3 j = nI (nth (ordF (M 1) n) j)) → Ev MSh mX8_findStops 11 [.ref 0, .int (optI w), .int (nI i), u3, u4, u5] [] M1 (fun r M2 => r = none ∧ SmP M M2 ∧ rowAt M2 8 0 12 (stpL (M 1) w (ordF (M 1) n)))
  | 0, i, M1, u3, u4, u5, h, hs, hr, hrow => by
    have hol := (ord_facts n hn0 (by omega) ht).1
    have hm1 : M1 0 0 = nI n := by rw [hs.2 0 (by decide)]; exact hm
    refine ev_iload_n 12 dX8_findStops_11 rfl rfl ?_
    refine ev_aload_n 13 dX8_findStops_12 rfl rfl ?_
    refine ev_getIv 16 (nI n) dX8_findStops_13 rfl flX8_57 rfl rfl hm1 ?_
    refine ev_icmp_geN 19 172 dX8_findStops_16 (by decide) rfl (by omega) (by omega) (fun c16 => ?_) (fun c16 => ?_)
    · exact ev_vret dX8_findStops_172 rfl (⟨rfl, hs, by rw [List.take_of_length_le (by omega)] at hr; exact hr⟩)
    · omega
  | d + 1, i, M1, u3, u4, u5, h, hs, hr, hrow => by
    have hol := (ord_facts n hn0 (by omega) ht).1
    have hm1 : M1 0 0 = nI n := by rw [hs.2 0 (by decide)]; exact hm
    have hq : nth (ordF (M 1) n) i < n := (ord_facts n hn0 (by omega) ht).2.2 _ (getD_mem (by omega))
    have hq24 : nth (ordF (M 1) n) i < 24 := by omega
    have hlen : (stpL (M 1) w ((ordF (M 1) n).take i)).length ≤ i := Nat.le_trans (stpL_len _ _ _) (by simp; omega)
    obtain ⟨v, hv, evv⟩ := hpl _ hq
    have hwn : optI w = -1 → wiP (M 1) w (nth (ordF (M 1) n) i) = true := fun c => by rw [optI_none c hw]; rfl
    refine ev_iload_n 12 dX8_findStops_11 rfl rfl ?_
    refine ev_aload_n 13 dX8_findStops_12 rfl rfl ?_
    refine ev_getIv 16 (nI n) dX8_findStops_13 rfl flX8_57 rfl rfl hm1 ?_
    refine ev_icmp_geN 19 172 dX8_findStops_16 (by decide) rfl (by omega) (by omega) (fun c16 => ?_) (fun c16 => ?_)
    · omega
    · refine ev_aload_n 20 dX8_findStops_19 rfl rfl ?_
      refine ev_getR 23 dX8_findStops_20 rfl flX8_16 rfl rfl ?_
      refine ev_iload_n 24 dX8_findStops_23 rfl rfl ?_
      refine ev_iaN 25 (nI (nth (ordF (M 1) n) i)) dX8_findStops_24 rfl (by omega) (by decide) rfl (hrow i (by omega)) ?_
      refine ev_istore_n 26 _ dX8_findStops_25 (by decide) rfl rfl rfl ?_
      refine ev_aload_n 27 dX8_findStops_26 rfl rfl ?_
      refine ev_iload_n 28 dX8_findStops_27 rfl rfl ?_
      refine ev_cV1I (bI (stK (M 1) (nth (ordF (M 1) n) i) && shwn (M 1) (nth (ordF (M 1) n) i))) M1 31 dX8_findStops_28 mlX8_159 moX8_isStop rfl imX8_isStop ⟨_, _, rfl, rfl, rfl⟩ (Nat.le_of_ble_eq_true rfl) (Nat.le_of_ble_eq_true rfl) rfl (by have z := s_X8_isStop (M := M1) (by rw [hs.e1]; exact ht) hn hq; rwa [hs.e1] at z) ?_
      refine ev_if_eqB 34 166 dX8_findStops_31 (by decide) rfl (fun c31 => ?_) (fun c31 => ?_)
      · refine ev_iincN 169 _ dX8_findStops_166 rfl (by decide) rfl rfl rfl ?_
        refine ev_goto 11 dX8_findStops_169 (by decide) ?_
        exact s_X8_findStops_k ht hn0 hn hm hpl w hw d (i + 1) M1 _ _ _ (by omega) hs (by rw [stpL_snoc (by omega), if_neg (by rw [stpP, c31, Bool.false_and]; decide)]; exact hr) hrow
      · refine ev_iload_n 35 dX8_findStops_34 rfl rfl ?_
        refine ev_iconst 36 (-1) dX8_findStops_35 (by decide) rfl ?_
        refine ev_icmp_eq 39 48 dX8_findStops_36 (by decide) rfl (fun c36 => ?_) (fun c36 => ?_)
        · refine ev_aload_n 49 dX8_findStops_48 rfl rfl ?_
          refine ev_getIv 52 (nI (stpL (M 1) w ((ordF (M 1) n).take i)).length) dX8_findStops_49 rfl flX8_156 rfl rfl hr.1 ?_
          refine ev_istore 54 _ dX8_findStops_52 (by decide) rfl rfl rfl ?_
          refine ev_aload_n 55 dX8_findStops_54 rfl rfl ?_
          refine ev_iload_n 56 dX8_findStops_55 rfl rfl ?_
          refine ev_bipush 58 (nI 6) dX8_findStops_56 (by decide) rfl ?_
          refine ev_cV2I (nI v) M1 61 dX8_findStops_58 mlX8_74 moX8_get rfl imX8_get ⟨_, _, rfl, rfl, rfl⟩ (Nat.le_of_ble_eq_true rfl) (Nat.le_of_ble_eq_true rfl) rfl (by have z := s_X8_get (M := M1) (a := nth (ordF (M 1) n) i) (b := 6) hq24 (by omega); rwa [hs.e1, evv] at z) ?_
          refine ev_if_neN 64 69 dX8_findStops_61 (by decide) rfl (by omega) (fun c61 => ?_) (fun c61 => ?_)
          · refine ev_aload_n 70 dX8_findStops_69 rfl rfl ?_
            refine ev_iload_n 71 dX8_findStops_70 rfl rfl ?_
            refine ev_bipush 73 (nI 6) dX8_findStops_71 (by decide) rfl ?_
            refine ev_cV2I (nI v) M1 76 dX8_findStops_73 mlX8_74 moX8_get rfl imX8_get ⟨_, _, rfl, rfl, rfl⟩ (Nat.le_of_ble_eq_true rfl) (Nat.le_of_ble_eq_true rfl) rfl (by have z := s_X8_get (M := M1) (a := nth (ordF (M 1) n) i) (b := 6) hq24 (by omega); rwa [hs.e1, evv] at z) ?_
            refine ev_eqI ((by rw [hs.e1, rk_clamp hv evv, if_neg c61]) : _ = nI (rkN (M1 1) (nth (ordF (M 1) n) i))) ?_
            refine ev_istore 78 _ dX8_findStops_76 (by decide) rfl rfl rfl ?_
            refine s_X8_findStops_78 (M := M1) hr (by omega) (fun y hy => Nat.lt_of_lt_of_le ((ord_facts n hn0 (by omega) ht).2.2 y (List.mem_of_mem_take (stpL_mem.mp hy).1)) hn) (fun y hy => by rw [hs.e1]; exact hpl y ((ord_facts n hn0 (by omega) ht).2.2 y (List.mem_of_mem_take (stpL_mem.mp hy).1))) hq24 (by rw [hs.e1]; exact hpl _ hq) _ M1 (Nat.le_refl _) ⟨fun _ _ => rfl, fun j hj => hr.2.2 j hj, fun j h1 h2 => by omega⟩ (fun KK eK M2 h1 h2 h3 => ?_)
            rw [hs.e1] at eK
            refine s_X8_findStops_k ht hn0 hn hm hpl w hw d (i + 1) M2 _ _ _ (by omega) ⟨fun k a b c d => by rw [h1 k a d]; exact hs.1 k a b c d, fun j hj => by rw [h2 j hj]; exact hs.2 j hj⟩ ?_ (fun j hj => by rw [h1 3 (by decide) (by decide)]; exact hrow j hj)
            rw [stpL_snoc (by omega), if_pos (by rw [stpP, c31, hwn c36]; rfl), insL, ← eK]
            exact h3
          · refine ev_bipush 66 (nI 101) dX8_findStops_64 (by decide) rfl ?_
            refine ev_goto 76 dX8_findStops_66 (by decide) ?_
            refine ev_eqI ((by rw [hs.e1, rk_clamp hv evv, if_pos c61]) : _ = nI (rkN (M1 1) (nth (ordF (M 1) n) i))) ?_
            refine ev_istore 78 _ dX8_findStops_76 (by decide) rfl rfl rfl ?_
            refine s_X8_findStops_78 (M := M1) hr (by omega) (fun y hy => Nat.lt_of_lt_of_le ((ord_facts n hn0 (by omega) ht).2.2 y (List.mem_of_mem_take (stpL_mem.mp hy).1)) hn) (fun y hy => by rw [hs.e1]; exact hpl y ((ord_facts n hn0 (by omega) ht).2.2 y (List.mem_of_mem_take (stpL_mem.mp hy).1))) hq24 (by rw [hs.e1]; exact hpl _ hq) _ M1 (Nat.le_refl _) ⟨fun _ _ => rfl, fun j hj => hr.2.2 j hj, fun j h1 h2 => by omega⟩ (fun KK eK M2 h1 h2 h3 => ?_)
            rw [hs.e1] at eK
            refine s_X8_findStops_k ht hn0 hn hm hpl w hw d (i + 1) M2 _ _ _ (by omega) ⟨fun k a b c d => by rw [h1 k a d]; exact hs.1 k a b c d, fun j hj => by rw [h2 j hj]; exact hs.2 j hj⟩ ?_ (fun j hj => by rw [h1 3 (by decide) (by decide)]; exact hrow j hj)
            rw [stpL_snoc (by omega), if_pos (by rw [stpP, c31, hwn c36]; rfl), insL, ← eK]
            exact h3
        · refine ev_aload_n 40 dX8_findStops_39 rfl rfl ?_
          refine ev_iload_n 41 dX8_findStops_40 rfl rfl ?_
          refine ev_iload_n 42 dX8_findStops_41 rfl rfl ?_
          refine ev_cV2I (bI (wiP (M 1) w (nth (ordF (M 1) n) i))) M1 45 dX8_findStops_42 mlX8_135 moX8_lies rfl imX8_lies ⟨_, _, rfl, rfl, rfl⟩ (Nat.le_of_ble_eq_true rfl) (Nat.le_of_ble_eq_true rfl) rfl (by
  cases w with
  | none => exact absurd rfl c36
  | some t => have z := s_X8_lies (M := M1) (by rw [hs.e1]; exact ht) hn hq (hw t rfl); rwa [hs.e1] at z) ?_
          refine ev_if_eqB 48 166 dX8_findStops_45 (by decide) rfl (fun c45 => ?_) (fun c45 => ?_)
          · refine ev_iincN 169 _ dX8_findStops_166 rfl (by decide) rfl rfl rfl ?_
            refine ev_goto 11 dX8_findStops_169 (by decide) ?_
            exact s_X8_findStops_k ht hn0 hn hm hpl w hw d (i + 1) M1 _ _ _ (by omega) hs (by rw [stpL_snoc (by omega), if_neg (by rw [stpP, c45, Bool.and_false]; decide)]; exact hr) hrow
          · refine ev_aload_n 49 dX8_findStops_48 rfl rfl ?_
            refine ev_getIv 52 (nI (stpL (M 1) w ((ordF (M 1) n).take i)).length) dX8_findStops_49 rfl flX8_156 rfl rfl hr.1 ?_
            refine ev_istore 54 _ dX8_findStops_52 (by decide) rfl rfl rfl ?_
            refine ev_aload_n 55 dX8_findStops_54 rfl rfl ?_
            refine ev_iload_n 56 dX8_findStops_55 rfl rfl ?_
            refine ev_bipush 58 (nI 6) dX8_findStops_56 (by decide) rfl ?_
            refine ev_cV2I (nI v) M1 61 dX8_findStops_58 mlX8_74 moX8_get rfl imX8_get ⟨_, _, rfl, rfl, rfl⟩ (Nat.le_of_ble_eq_true rfl) (Nat.le_of_ble_eq_true rfl) rfl (by have z := s_X8_get (M := M1) (a := nth (ordF (M 1) n) i) (b := 6) hq24 (by omega); rwa [hs.e1, evv] at z) ?_
            refine ev_if_neN 64 69 dX8_findStops_61 (by decide) rfl (by omega) (fun c61 => ?_) (fun c61 => ?_)
            · refine ev_aload_n 70 dX8_findStops_69 rfl rfl ?_
              refine ev_iload_n 71 dX8_findStops_70 rfl rfl ?_
              refine ev_bipush 73 (nI 6) dX8_findStops_71 (by decide) rfl ?_
              refine ev_cV2I (nI v) M1 76 dX8_findStops_73 mlX8_74 moX8_get rfl imX8_get ⟨_, _, rfl, rfl, rfl⟩ (Nat.le_of_ble_eq_true rfl) (Nat.le_of_ble_eq_true rfl) rfl (by have z := s_X8_get (M := M1) (a := nth (ordF (M 1) n) i) (b := 6) hq24 (by omega); rwa [hs.e1, evv] at z) ?_
              refine ev_eqI ((by rw [hs.e1, rk_clamp hv evv, if_neg c61]) : _ = nI (rkN (M1 1) (nth (ordF (M 1) n) i))) ?_
              refine ev_istore 78 _ dX8_findStops_76 (by decide) rfl rfl rfl ?_
              refine s_X8_findStops_78 (M := M1) hr (by omega) (fun y hy => Nat.lt_of_lt_of_le ((ord_facts n hn0 (by omega) ht).2.2 y (List.mem_of_mem_take (stpL_mem.mp hy).1)) hn) (fun y hy => by rw [hs.e1]; exact hpl y ((ord_facts n hn0 (by omega) ht).2.2 y (List.mem_of_mem_take (stpL_mem.mp hy).1))) hq24 (by rw [hs.e1]; exact hpl _ hq) _ M1 (Nat.le_refl _) ⟨fun _ _ => rfl, fun j hj => hr.2.2 j hj, fun j h1 h2 => by omega⟩ (fun KK eK M2 h1 h2 h3 => ?_)
              rw [hs.e1] at eK
              refine s_X8_findStops_k ht hn0 hn hm hpl w hw d (i + 1) M2 _ _ _ (by omega) ⟨fun k a b c d => by rw [h1 k a d]; exact hs.1 k a b c d, fun j hj => by rw [h2 j hj]; exact hs.2 j hj⟩ ?_ (fun j hj => by rw [h1 3 (by decide) (by decide)]; exact hrow j hj)
              rw [stpL_snoc (by omega), if_pos (by rw [stpP, c31, c45]; rfl), insL, ← eK]
              exact h3
            · refine ev_bipush 66 (nI 101) dX8_findStops_64 (by decide) rfl ?_
              refine ev_goto 76 dX8_findStops_66 (by decide) ?_
              refine ev_eqI ((by rw [hs.e1, rk_clamp hv evv, if_pos c61]) : _ = nI (rkN (M1 1) (nth (ordF (M 1) n) i))) ?_
              refine ev_istore 78 _ dX8_findStops_76 (by decide) rfl rfl rfl ?_
              refine s_X8_findStops_78 (M := M1) hr (by omega) (fun y hy => Nat.lt_of_lt_of_le ((ord_facts n hn0 (by omega) ht).2.2 y (List.mem_of_mem_take (stpL_mem.mp hy).1)) hn) (fun y hy => by rw [hs.e1]; exact hpl y ((ord_facts n hn0 (by omega) ht).2.2 y (List.mem_of_mem_take (stpL_mem.mp hy).1))) hq24 (by rw [hs.e1]; exact hpl _ hq) _ M1 (Nat.le_refl _) ⟨fun _ _ => rfl, fun j hj => hr.2.2 j hj, fun j h1 h2 => by omega⟩ (fun KK eK M2 h1 h2 h3 => ?_)
              rw [hs.e1] at eK
              refine s_X8_findStops_k ht hn0 hn hm hpl w hw d (i + 1) M2 _ _ _ (by omega) ⟨fun k a b c d => by rw [h1 k a d]; exact hs.1 k a b c d, fun j hj => by rw [h2 j hj]; exact hs.2 j hj⟩ ?_ (fun j hj => by rw [h1 3 (by decide) (by decide)]; exact hrow j hj)
              rw [stpL_snoc (by omega), if_pos (by rw [stpP, c31, c45]; rfl), insL, ← eK]
              exact h3
theorem s_X8_findStops {M : Mm} {n : Nat} (ht : TR (M 1) n) (hn0 : 0 < n) (hn : n ≤ 24) (hm : M 0 0 = nI n) (hpl : ∀ y, y < n → plOK (M 1) y) (w : Option Nat) (hw : ∀ t, w = some t → t < 24) : Ct MSh mX8_findStops [.ref 0, .int (optI w)] M (fun r M2 => r = none ∧ SmP M M2 ∧ rowAt M2 8 0 12 (stpL (M 1) w (ordF (M 1) n))) := by
  show Ev _ _ 0 [.ref 0, .int (optI w), .null, .null, .null, .null] [] M _
  refine ev_aload_n 1 dX8_findStops_0 rfl rfl ?_
  refine ev_cV0 4 dX8_findStops_1 mlX8_132 moX8_line rfl imX8_line ⟨_, _, rfl, rfl, rfl⟩ (Nat.le_of_ble_eq_true rfl) (Nat.le_of_ble_eq_true rfl) rfl (s_X8_line ht hn0 hn hm) ?_
  rintro r M1 ⟨rfl, h1, h3⟩
  refine ev_aload_n 5 dX8_findStops_4 rfl rfl ?_
  refine ev_iconst 6 (nI 0) dX8_findStops_5 (by decide) rfl ?_
  refine ev_putI 9 dX8_findStops_6 rfl flX8_156 fiX8_12 rfl rfl ?_
  refine ev_iconst 10 (nI 0) dX8_findStops_9 (by decide) rfl ?_
  refine ev_istore_n 11 _ dX8_findStops_10 (by decide) rfl rfl rfl ?_
  exact s_X8_findStops_k ht hn0 hn hm hpl w hw (ordF (M 1) n).length 0 _ _ _ _ (by omega) ⟨fun k a b c d => by rw [mst_other _ _ _ a]; exact h1 k b c, fun j hj => by rw [mst_same, upd, if_neg hj, h1 0 (by decide) (by decide)]⟩ ⟨by rw [mst_same, upd, if_pos rfl]; rfl, by simp [stpL], fun i hi => by simp [stpL] at hi⟩ (fun j hj => by rw [mst_other _ _ _ (by decide)]; exact h3 j hj)
