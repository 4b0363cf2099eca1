/-! the reference: findSaid, pairs, hear -/
def tbsS (h : Nat → Int32) (p : Nat) : Bool := if h (p * 18 + 10) = nI 1 then (h (p * 18 + 0) != 0 && (inm h p 2).isNone) else (h (p * 18 + 10) == nI 2 || h (p * 18 + 10) == nI 3 || h (p * 18 + 10) == nI 4)
def sdP (h : Nat → Int32) (p : Nat) : Bool := tbsS h p && shwn h p
def saidF (h : Nat → Int32) (n : Nat) : List Nat := (ordF h n).filter (sdP h)
def SmS (M M1 : Mm) : Prop := (∀ k, k ≠ 0 → k ≠ 3 → k ≠ 4 → k ≠ 7 → M1 k = M k) ∧ ∀ j, j ≠ 10 → M1 0 j = M 0 j
theorem SmS.push {M M1 : Mm} (h : SmS M M1) (i : Nat) (x y : Int32) : SmS M (mst (mst M1 7 i x) 0 10 y) := ⟨fun k a b c d => by rw [mst_other _ _ _ a, mst_other _ _ _ d]; exact h.1 k a b c d, fun j hj => by rw [mst_same, upd, if_neg hj, mst_other _ _ _ (by decide)]; exact h.2 j hj⟩
theorem SmS.e1 {M M1 : Mm} (h : SmS M M1) : M1 1 = M 1 := h.1 1 (by decide) (by decide) (by decide) (by decide)
theorem flt_snoc {f : Nat → Bool} {ol : List Nat} {i : Nat} (h : i < ol.length) : (ol.take (i + 1)).filter f = if f (nth ol i) then (ol.take i).filter f ++ [nth ol i] else (ol.take i).filter f := by
  rw [take_snoc h, List.filter_append]
  cases hb : f (nth ol i) <;> simp [List.filter, hb]
theorem optI_none {x : Option Nat} (h : optI x = -1) (hb : ∀ a, x = some a → a < 24) : x = none := by
  cases x with
  | none => rfl
  | some a => exact absurd h (nI_m1 (by have := hb a rfl; omega))

theorem s_X8_findSaid_80 {M1 : Mm} {n i q : Nat} {rl : List Nat} {kd : Int32} {b : Bool} {Q : Pst} (ht1 : TR (M1 1) n) (hn : n ≤ 24) (hq : q < n) (hr : rowAt M1 7 0 10 rl) (hlen : rl.length < 24) (k0 : (b && shwn (M1 1) q) = false → Ev MSh mX8_findSaid 11 [.ref 0, .int (nI (i + 1)), .int (nI q), .int kd, .int (bI b)] [] M1 Q) (k1 : (b && shwn (M1 1) q) = true → Ev MSh mX8_findSaid 11 [.ref 0, .int (nI (i + 1)), .int (nI q), .int kd, .int (bI b)] [] (mst (mst M1 7 rl.length (nI q)) 0 10 (nI (rl.length + 1))) Q) : Ev MSh mX8_findSaid 80 [.ref 0, .int (nI i), .int (nI q), .int kd, .int (bI b)] [] M1 Q := by
  refine ev_iload 82 dX8_findSaid_80 rfl rfl ?_
  refine ev_if_eqB 85 113 dX8_findSaid_82 (by decide) rfl (fun c82 => ?_) (fun c82 => ?_)
  · refine ev_iincN 116 _ dX8_findSaid_113 rfl (by decide) rfl rfl rfl ?_
    refine ev_goto 11 dX8_findSaid_116 (by decide) ?_
    exact k0 (by rw [c82]; rfl)
  · refine ev_aload_n 86 dX8_findSaid_85 rfl rfl ?_
    refine ev_iload_n 87 dX8_findSaid_86 rfl rfl ?_
    refine ev_cV1I _ M1 90 dX8_findSaid_87 mlX8_89 moX8_isShown rfl imX8_isShown ⟨_, _, rfl, rfl, rfl⟩ (Nat.le_of_ble_eq_true rfl) (Nat.le_of_ble_eq_true rfl) rfl (s_X8_isShown ht1 hn hq) ?_
    refine ev_if_eqB 93 113 dX8_findSaid_90 (by decide) rfl (fun c90 => ?_) (fun c90 => ?_)
    · refine ev_iincN 116 _ dX8_findSaid_113 rfl (by decide) rfl rfl rfl ?_
      refine ev_goto 11 dX8_findSaid_116 (by decide) ?_
      exact k0 (by rw [c90, Bool.and_false])
    · refine ev_aload_n 94 dX8_findSaid_93 rfl rfl ?_
      refine ev_getR 97 dX8_findSaid_94 rfl flX8_28 rfl rfl ?_
      refine ev_aload_n 98 dX8_findSaid_97 rfl rfl ?_
      refine ev_getIv 101 (nI rl.length) dX8_findSaid_98 rfl flX8_141 rfl rfl hr.1 ?_
      refine ev_iload_n 102 dX8_findSaid_101 rfl rfl ?_
      refine ev_iaS 103 dX8_findSaid_102 rfl (by omega) (by decide) rfl ?_
      refine ev_aload_n 104 dX8_findSaid_103 rfl rfl ?_
      refine ev_dup 105 dX8_findSaid_104 rfl rfl ?_
      refine ev_getIv 108 (nI rl.length) dX8_findSaid_105 rfl flX8_141 rfl rfl (by rw [mst_other _ _ _ (by decide)]; exact hr.1) ?_
      refine ev_iconst 109 (nI 1) dX8_findSaid_108 (by decide) rfl ?_
      refine ev_iaddN 110 dX8_findSaid_109 rfl ?_
      refine ev_putI 113 dX8_findSaid_110 rfl flX8_141 fiX8_10 rfl rfl ?_
      refine ev_iincN 116 _ dX8_findSaid_113 rfl (by decide) rfl rfl rfl ?_
      refine ev_goto 11 dX8_findSaid_116 (by decide) ?_
      exact k1 (by rw [c82, c90]; rfl)
theorem optI_some {x : Option Nat} (h : ¬ optI x = -1) : x.isNone = false := by
  cases x with
  | none => exact absurd rfl h
  | some a => rfl
theorem s_X8_findSaid_k {M : Mm} {n : Nat} (ht : TR (M 1) n) (hn0 : 0 < n) (hn : n ≤ 24) (hm : M 0 0 = nI n) : ∀ d i (M1 : Mm) (u v w : Value), i + d = (ordF (M 1) n).length → SmS M M1 → rowAt M1 7 0 10 (((ordF (M 1) n).take i).filter (sdP (M 1))) → (∀ j, j < (ordF (M 1) n).length → M1 3 j = nI (nth (ordF (M 1) n) j)) → Ev MSh mX8_findSaid 11 [.ref 0, .int (nI i), u, v, w] [] M1 (fun r M2 => r = none ∧ SmS M M2 ∧ rowAt M2 7 0 10 (saidF (M 1) n))
  | 0, i, M1, u, v, w, h, hs, hr, hrow => by
    have hol := (ord_facts n hn0 (by omega) ht).1
    have hm1 : M1 0 0 = nI n := by rw [hs.2 0 (by decide)]; exact hm
    refine ev_iload_n 12 dX8_findSaid_11 rfl rfl ?_
    refine ev_aload_n 13 dX8_findSaid_12 rfl rfl ?_
    refine ev_getIv 16 (nI n) dX8_findSaid_13 rfl flX8_57 rfl rfl hm1 ?_
    refine ev_icmp_geN 19 119 dX8_findSaid_16 (by decide) rfl (by omega) (by omega) (fun c16 => ?_) (fun c16 => ?_)
    · exact ev_vret dX8_findSaid_119 rfl (⟨rfl, hs, by rw [List.take_of_length_le (by omega)] at hr; exact hr⟩)
    · omega
  | d + 1, i, M1, u, v, w, h, hs, hr, hrow => by
    have hol := (ord_facts n hn0 (by omega) ht).1
    have hm1 : M1 0 0 = nI n := by rw [hs.2 0 (by decide)]; exact hm
    have hq : nth (ordF (M 1) n) i < n := (ord_facts n hn0 (by omega) ht).2.2 _ (getD_mem (by omega))
    have hq24 : nth (ordF (M 1) n) i < 24 := by omega
    have hlen : (((ordF (M 1) n).take i).filter (sdP (M 1))).length ≤ i := Nat.le_trans (List.length_filter_le _ _) (by simp; omega)
    refine ev_iload_n 12 dX8_findSaid_11 rfl rfl ?_
    refine ev_aload_n 13 dX8_findSaid_12 rfl rfl ?_
    refine ev_getIv 16 (nI n) dX8_findSaid_13 rfl flX8_57 rfl rfl hm1 ?_
    refine ev_icmp_geN 19 119 dX8_findSaid_16 (by decide) rfl (by omega) (by omega) (fun c16 => ?_) (fun c16 => ?_)
    · omega
    · refine ev_aload_n 20 dX8_findSaid_19 rfl rfl ?_
      refine ev_getR 23 dX8_findSaid_20 rfl flX8_16 rfl rfl ?_
      refine ev_iload_n 24 dX8_findSaid_23 rfl rfl ?_
      refine ev_iaN 25 (nI (nth (ordF (M 1) n) i)) dX8_findSaid_24 rfl (by omega) (by decide) rfl (hrow i (by omega)) ?_
      refine ev_istore_n 26 _ dX8_findSaid_25 (by decide) rfl rfl rfl ?_
      refine ev_aload_n 27 dX8_findSaid_26 rfl rfl ?_
      refine ev_iload_n 28 dX8_findSaid_27 rfl rfl ?_
      refine ev_bipush 30 (nI 10) dX8_findSaid_28 (by decide) rfl ?_
      refine ev_cV2I (M 1 ((nth (ordF (M 1) n) i) * 18 + 10)) M1 33 dX8_findSaid_30 mlX8_74 moX8_get rfl imX8_get ⟨_, _, rfl, rfl, rfl⟩ (Nat.le_of_ble_eq_true rfl) (Nat.le_of_ble_eq_true rfl) rfl (by have z := s_X8_get (M := M1) (a := (nth (ordF (M 1) n) i)) (b := 10) hq24 (by omega); rwa [hs.e1] at z) ?_
      refine ev_istore_n 34 _ dX8_findSaid_33 (by decide) rfl rfl rfl ?_
      refine ev_iload_n 35 dX8_findSaid_34 rfl rfl ?_
      refine ev_iconst 36 (nI 1) dX8_findSaid_35 (by decide) rfl ?_
      refine ev_icmp_ne 39 58 dX8_findSaid_36 (by decide) rfl (fun c36 => ?_) (fun c36 => ?_)
      · refine ev_iload_n 59 dX8_findSaid_58 rfl rfl ?_
        refine ev_iconst 60 (nI 2) dX8_findSaid_59 (by decide) rfl ?_
        refine ev_icmp_eq 63 73 dX8_findSaid_60 (by decide) rfl (fun c60 => ?_) (fun c60 => ?_)
        · refine ev_iconst 74 (nI 1) dX8_findSaid_73 (by decide) rfl ?_
          refine ev_goto 78 dX8_findSaid_74 (by decide) ?_
          refine ev_eqI ((by rw [tbsS, if_neg c36, beq_iff_eq.mpr c60]; rfl) : _ = bI (tbsS (M 1) (nth (ordF (M 1) n) i))) ?_
          refine ev_istore 80 _ dX8_findSaid_78 (by decide) rfl rfl rfl ?_
          refine s_X8_findSaid_80 (by rw [hs.e1]; exact ht) hn hq hr (by omega) (fun z => ?_) (fun z => ?_)
          · rw [hs.e1] at z
            exact s_X8_findSaid_k ht hn0 hn hm d (i + 1) M1 _ _ _ (by omega) hs (by rw [flt_snoc (by omega), if_neg (by rw [sdP, z]; decide)]; exact hr) hrow
          · rw [hs.e1] at z
            exact s_X8_findSaid_k ht hn0 hn hm d (i + 1) _ _ _ _ (by omega) (hs.push _ _ _) (by rw [flt_snoc (by omega), if_pos (by rw [sdP, z])]; exact hr.push (by decide) (by omega)) (fun j hj => by rw [mst_other _ _ _ (by decide), mst_other _ _ _ (by decide)]; exact hrow j hj)
        · refine ev_iload_n 64 dX8_findSaid_63 rfl rfl ?_
          refine ev_iconst 65 (nI 3) dX8_findSaid_64 (by decide) rfl ?_
          refine ev_icmp_eq 68 73 dX8_findSaid_65 (by decide) rfl (fun c65 => ?_) (fun c65 => ?_)
          · refine ev_iconst 74 (nI 1) dX8_findSaid_73 (by decide) rfl ?_
            refine ev_goto 78 dX8_findSaid_74 (by decide) ?_
            refine ev_eqI ((by rw [tbsS, if_neg c36, beq_eq_false_iff_ne.mpr c60, beq_iff_eq.mpr c65]; rfl) : _ = bI (tbsS (M 1) (nth (ordF (M 1) n) i))) ?_
            refine ev_istore 80 _ dX8_findSaid_78 (by decide) rfl rfl rfl ?_
            refine s_X8_findSaid_80 (by rw [hs.e1]; exact ht) hn hq hr (by omega) (fun z => ?_) (fun z => ?_)
            · rw [hs.e1] at z
              exact s_X8_findSaid_k ht hn0 hn hm d (i + 1) M1 _ _ _ (by omega) hs (by rw [flt_snoc (by omega), if_neg (by rw [sdP, z]; decide)]; exact hr) hrow
            · rw [hs.e1] at z
              exact s_X8_findSaid_k ht hn0 hn hm d (i + 1) _ _ _ _ (by omega) (hs.push _ _ _) (by rw [flt_snoc (by omega), if_pos (by rw [sdP, z])]; exact hr.push (by decide) (by omega)) (fun j hj => by rw [mst_other _ _ _ (by decide), mst_other _ _ _ (by decide)]; exact hrow j hj)
          · refine ev_iload_n 69 dX8_findSaid_68 rfl rfl ?_
            refine ev_iconst 70 (nI 4) dX8_findSaid_69 (by decide) rfl ?_
            refine ev_icmp_ne 73 77 dX8_findSaid_70 (by decide) rfl (fun c70 => ?_) (fun c70 => ?_)
            · refine ev_iconst 78 (nI 0) dX8_findSaid_77 (by decide) rfl ?_
              refine ev_eqI ((by rw [tbsS, if_neg c36, beq_eq_false_iff_ne.mpr c60, beq_eq_false_iff_ne.mpr c65, beq_eq_false_iff_ne.mpr c70]; rfl) : _ = bI (tbsS (M 1) (nth (ordF (M 1) n) i))) ?_
              refine ev_istore 80 _ dX8_findSaid_78 (by decide) rfl rfl rfl ?_
              refine s_X8_findSaid_80 (by rw [hs.e1]; exact ht) hn hq hr (by omega) (fun z => ?_) (fun z => ?_)
              · rw [hs.e1] at z
                exact s_X8_findSaid_k ht hn0 hn hm d (i + 1) M1 _ _ _ (by omega) hs (by rw [flt_snoc (by omega), if_neg (by rw [sdP, z]; decide)]; exact hr) hrow
              · rw [hs.e1] at z
                exact s_X8_findSaid_k ht hn0 hn hm d (i + 1) _ _ _ _ (by omega) (hs.push _ _ _) (by rw [flt_snoc (by omega), if_pos (by rw [sdP, z])]; exact hr.push (by decide) (by omega)) (fun j hj => by rw [mst_other _ _ _ (by decide), mst_other _ _ _ (by decide)]; exact hrow j hj)
            · refine ev_iconst 74 (nI 1) dX8_findSaid_73 (by decide) rfl ?_
              refine ev_goto 78 dX8_findSaid_74 (by decide) ?_
              refine ev_eqI ((by rw [tbsS, if_neg c36, beq_eq_false_iff_ne.mpr c60, beq_eq_false_iff_ne.mpr c65, beq_iff_eq.mpr c70]; rfl) : _ = bI (tbsS (M 1) (nth (ordF (M 1) n) i))) ?_
              refine ev_istore 80 _ dX8_findSaid_78 (by decide) rfl rfl rfl ?_
              refine s_X8_findSaid_80 (by rw [hs.e1]; exact ht) hn hq hr (by omega) (fun z => ?_) (fun z => ?_)
              · rw [hs.e1] at z
                exact s_X8_findSaid_k ht hn0 hn hm d (i + 1) M1 _ _ _ (by omega) hs (by rw [flt_snoc (by omega), if_neg (by rw [sdP, z]; decide)]; exact hr) hrow
              · rw [hs.e1] at z
                exact s_X8_findSaid_k ht hn0 hn hm d (i + 1) _ _ _ _ (by omega) (hs.push _ _ _) (by rw [flt_snoc (by omega), if_pos (by rw [sdP, z])]; exact hr.push (by decide) (by omega)) (fun j hj => by rw [mst_other _ _ _ (by decide), mst_other _ _ _ (by decide)]; exact hrow j hj)
      · refine ev_aload_n 40 dX8_findSaid_39 rfl rfl ?_
        refine ev_iload_n 41 dX8_findSaid_40 rfl rfl ?_
        refine ev_iconst 42 (nI 0) dX8_findSaid_41 (by decide) rfl ?_
        refine ev_cV2I (M 1 ((nth (ordF (M 1) n) i) * 18 + 0)) M1 45 dX8_findSaid_42 mlX8_74 moX8_get rfl imX8_get ⟨_, _, rfl, rfl, rfl⟩ (Nat.le_of_ble_eq_true rfl) (Nat.le_of_ble_eq_true rfl) rfl (by have z := s_X8_get (M := M1) (a := (nth (ordF (M 1) n) i)) (b := 0) hq24 (by omega); rwa [hs.e1] at z) ?_
        refine ev_if_eq 48 58 dX8_findSaid_45 (by decide) rfl (fun c45 => ?_) (fun c45 => ?_)
        · refine ev_iload_n 59 dX8_findSaid_58 rfl rfl ?_
          refine ev_iconst 60 (nI 2) dX8_findSaid_59 (by decide) rfl ?_
          refine ev_icmp_eq 63 73 dX8_findSaid_60 (by decide) rfl (fun c60 => ?_) (fun c60 => ?_)
          · refine ev_iconst 74 (nI 1) dX8_findSaid_73 (by decide) rfl ?_
            refine ev_goto 78 dX8_findSaid_74 (by decide) ?_
            refine ev_eqI ((absurd (c36.symm.trans c60) (by decide)) : _ = bI (tbsS (M 1) (nth (ordF (M 1) n) i))) ?_
            refine ev_istore 80 _ dX8_findSaid_78 (by decide) rfl rfl rfl ?_
            refine s_X8_findSaid_80 (by rw [hs.e1]; exact ht) hn hq hr (by omega) (fun z => ?_) (fun z => ?_)
            · rw [hs.e1] at z
              exact s_X8_findSaid_k ht hn0 hn hm d (i + 1) M1 _ _ _ (by omega) hs (by rw [flt_snoc (by omega), if_neg (by rw [sdP, z]; decide)]; exact hr) hrow
            · rw [hs.e1] at z
              exact s_X8_findSaid_k ht hn0 hn hm d (i + 1) _ _ _ _ (by omega) (hs.push _ _ _) (by rw [flt_snoc (by omega), if_pos (by rw [sdP, z])]; exact hr.push (by decide) (by omega)) (fun j hj => by rw [mst_other _ _ _ (by decide), mst_other _ _ _ (by decide)]; exact hrow j hj)
          · refine ev_iload_n 64 dX8_findSaid_63 rfl rfl ?_
            refine ev_iconst 65 (nI 3) dX8_findSaid_64 (by decide) rfl ?_
            refine ev_icmp_eq 68 73 dX8_findSaid_65 (by decide) rfl (fun c65 => ?_) (fun c65 => ?_)
            · refine ev_iconst 74 (nI 1) dX8_findSaid_73 (by decide) rfl ?_
              refine ev_goto 78 dX8_findSaid_74 (by decide) ?_
              refine ev_eqI ((absurd (c36.symm.trans c65) (by decide)) : _ = bI (tbsS (M 1) (nth (ordF (M 1) n) i))) ?_
              refine ev_istore 80 _ dX8_findSaid_78 (by decide) rfl rfl rfl ?_
              refine s_X8_findSaid_80 (by rw [hs.e1]; exact ht) hn hq hr (by omega) (fun z => ?_) (fun z => ?_)
              · rw [hs.e1] at z
                exact s_X8_findSaid_k ht hn0 hn hm d (i + 1) M1 _ _ _ (by omega) hs (by rw [flt_snoc (by omega), if_neg (by rw [sdP, z]; decide)]; exact hr) hrow
              · rw [hs.e1] at z
                exact s_X8_findSaid_k ht hn0 hn hm d (i + 1) _ _ _ _ (by omega) (hs.push _ _ _) (by rw [flt_snoc (by omega), if_pos (by rw [sdP, z])]; exact hr.push (by decide) (by omega)) (fun j hj => by rw [mst_other _ _ _ (by decide), mst_other _ _ _ (by decide)]; exact hrow j hj)
            · refine ev_iload_n 69 dX8_findSaid_68 rfl rfl ?_
              refine ev_iconst 70 (nI 4) dX8_findSaid_69 (by decide) rfl ?_
              refine ev_icmp_ne 73 77 dX8_findSaid_70 (by decide) rfl (fun c70 => ?_) (fun c70 => ?_)
              · refine ev_iconst 78 (nI 0) dX8_findSaid_77 (by decide) rfl ?_
                refine ev_eqI ((by rw [tbsS, if_pos c36, show (M 1 (nth (ordF (M 1) n) i * 18 + 0) != 0) = false from by rw [c45]; rfl]; rfl) : _ = bI (tbsS (M 1) (nth (ordF (M 1) n) i))) ?_
                refine ev_istore 80 _ dX8_findSaid_78 (by decide) rfl rfl rfl ?_
                refine s_X8_findSaid_80 (by rw [hs.e1]; exact ht) hn hq hr (by omega) (fun z => ?_) (fun z => ?_)
                · rw [hs.e1] at z
                  exact s_X8_findSaid_k ht hn0 hn hm d (i + 1) M1 _ _ _ (by omega) hs (by rw [flt_snoc (by omega), if_neg (by rw [sdP, z]; decide)]; exact hr) hrow
                · rw [hs.e1] at z
                  exact s_X8_findSaid_k ht hn0 hn hm d (i + 1) _ _ _ _ (by omega) (hs.push _ _ _) (by rw [flt_snoc (by omega), if_pos (by rw [sdP, z])]; exact hr.push (by decide) (by omega)) (fun j hj => by rw [mst_other _ _ _ (by decide), mst_other _ _ _ (by decide)]; exact hrow j hj)
              · refine ev_iconst 74 (nI 1) dX8_findSaid_73 (by decide) rfl ?_
                refine ev_goto 78 dX8_findSaid_74 (by decide) ?_
                refine ev_eqI ((absurd (c36.symm.trans c70) (by decide)) : _ = bI (tbsS (M 1) (nth (ordF (M 1) n) i))) ?_
                refine ev_istore 80 _ dX8_findSaid_78 (by decide) rfl rfl rfl ?_
                refine s_X8_findSaid_80 (by rw [hs.e1]; exact ht) hn hq hr (by omega) (fun z => ?_) (fun z => ?_)
                · rw [hs.e1] at z
                  exact s_X8_findSaid_k ht hn0 hn hm d (i + 1) M1 _ _ _ (by omega) hs (by rw [flt_snoc (by omega), if_neg (by rw [sdP, z]; decide)]; exact hr) hrow
                · rw [hs.e1] at z
                  exact s_X8_findSaid_k ht hn0 hn hm d (i + 1) _ _ _ _ (by omega) (hs.push _ _ _) (by rw [flt_snoc (by omega), if_pos (by rw [sdP, z])]; exact hr.push (by decide) (by omega)) (fun j hj => by rw [mst_other _ _ _ (by decide), mst_other _ _ _ (by decide)]; exact hrow j hj)
        · refine ev_aload_n 49 dX8_findSaid_48 rfl rfl ?_
          refine ev_iload_n 50 dX8_findSaid_49 rfl rfl ?_
          refine ev_iconst 51 (nI 2) dX8_findSaid_50 (by decide) rfl ?_
          refine ev_cV2I (optI (inm (M 1) (nth (ordF (M 1) n) i) 2)) M1 54 dX8_findSaid_51 mlX8_86 moX8_innermost rfl imX8_innermost ⟨_, _, rfl, rfl, rfl⟩ (Nat.le_of_ble_eq_true rfl) (Nat.le_of_ble_eq_true rfl) rfl (by have z := s_X8_innermost (M := M1) (a := nth (ordF (M 1) n) i) (k := 2) (by rw [hs.e1]; exact ht) hn hq; rwa [hs.e1] at z) ?_
          refine ev_iconst 55 (-1) dX8_findSaid_54 (by decide) rfl ?_
          refine ev_icmp_eq 58 73 dX8_findSaid_55 (by decide) rfl (fun c55 => ?_) (fun c55 => ?_)
          · refine ev_iconst 74 (nI 1) dX8_findSaid_73 (by decide) rfl ?_
            refine ev_goto 78 dX8_findSaid_74 (by decide) ?_
            refine ev_eqI ((by rw [tbsS, if_pos c36, bne_iff_ne.mpr c45, optI_none c55 (fun a e => Nat.lt_trans (chain_lt _ _ _ (inm_mem e)) hq24)]; rfl) : _ = bI (tbsS (M 1) (nth (ordF (M 1) n) i))) ?_
            refine ev_istore 80 _ dX8_findSaid_78 (by decide) rfl rfl rfl ?_
            refine s_X8_findSaid_80 (by rw [hs.e1]; exact ht) hn hq hr (by omega) (fun z => ?_) (fun z => ?_)
            · rw [hs.e1] at z
              exact s_X8_findSaid_k ht hn0 hn hm d (i + 1) M1 _ _ _ (by omega) hs (by rw [flt_snoc (by omega), if_neg (by rw [sdP, z]; decide)]; exact hr) hrow
            · rw [hs.e1] at z
              exact s_X8_findSaid_k ht hn0 hn hm d (i + 1) _ _ _ _ (by omega) (hs.push _ _ _) (by rw [flt_snoc (by omega), if_pos (by rw [sdP, z])]; exact hr.push (by decide) (by omega)) (fun j hj => by rw [mst_other _ _ _ (by decide), mst_other _ _ _ (by decide)]; exact hrow j hj)
          · refine ev_iload_n 59 dX8_findSaid_58 rfl rfl ?_
            refine ev_iconst 60 (nI 2) dX8_findSaid_59 (by decide) rfl ?_
            refine ev_icmp_eq 63 73 dX8_findSaid_60 (by decide) rfl (fun c60 => ?_) (fun c60 => ?_)
            · refine ev_iconst 74 (nI 1) dX8_findSaid_73 (by decide) rfl ?_
              refine ev_goto 78 dX8_findSaid_74 (by decide) ?_
              refine ev_eqI ((absurd (c36.symm.trans c60) (by decide)) : _ = bI (tbsS (M 1) (nth (ordF (M 1) n) i))) ?_
              refine ev_istore 80 _ dX8_findSaid_78 (by decide) rfl rfl rfl ?_
              refine s_X8_findSaid_80 (by rw [hs.e1]; exact ht) hn hq hr (by omega) (fun z => ?_) (fun z => ?_)
              · rw [hs.e1] at z
                exact s_X8_findSaid_k ht hn0 hn hm d (i + 1) M1 _ _ _ (by omega) hs (by rw [flt_snoc (by omega), if_neg (by rw [sdP, z]; decide)]; exact hr) hrow
              · rw [hs.e1] at z
                exact s_X8_findSaid_k ht hn0 hn hm d (i + 1) _ _ _ _ (by omega) (hs.push _ _ _) (by rw [flt_snoc (by omega), if_pos (by rw [sdP, z])]; exact hr.push (by decide) (by omega)) (fun j hj => by rw [mst_other _ _ _ (by decide), mst_other _ _ _ (by decide)]; exact hrow j hj)
            · refine ev_iload_n 64 dX8_findSaid_63 rfl rfl ?_
              refine ev_iconst 65 (nI 3) dX8_findSaid_64 (by decide) rfl ?_
              refine ev_icmp_eq 68 73 dX8_findSaid_65 (by decide) rfl (fun c65 => ?_) (fun c65 => ?_)
              · refine ev_iconst 74 (nI 1) dX8_findSaid_73 (by decide) rfl ?_
                refine ev_goto 78 dX8_findSaid_74 (by decide) ?_
                refine ev_eqI ((absurd (c36.symm.trans c65) (by decide)) : _ = bI (tbsS (M 1) (nth (ordF (M 1) n) i))) ?_
                refine ev_istore 80 _ dX8_findSaid_78 (by decide) rfl rfl rfl ?_
                refine s_X8_findSaid_80 (by rw [hs.e1]; exact ht) hn hq hr (by omega) (fun z => ?_) (fun z => ?_)
                · rw [hs.e1] at z
                  exact s_X8_findSaid_k ht hn0 hn hm d (i + 1) M1 _ _ _ (by omega) hs (by rw [flt_snoc (by omega), if_neg (by rw [sdP, z]; decide)]; exact hr) hrow
                · rw [hs.e1] at z
                  exact s_X8_findSaid_k ht hn0 hn hm d (i + 1) _ _ _ _ (by omega) (hs.push _ _ _) (by rw [flt_snoc (by omega), if_pos (by rw [sdP, z])]; exact hr.push (by decide) (by omega)) (fun j hj => by rw [mst_other _ _ _ (by decide), mst_other _ _ _ (by decide)]; exact hrow j hj)
              · refine ev_iload_n 69 dX8_findSaid_68 rfl rfl ?_
                refine ev_iconst 70 (nI 4) dX8_findSaid_69 (by decide) rfl ?_
                refine ev_icmp_ne 73 77 dX8_findSaid_70 (by decide) rfl (fun c70 => ?_) (fun c70 => ?_)
                · refine ev_iconst 78 (nI 0) dX8_findSaid_77 (by decide) rfl ?_
                  refine ev_eqI ((by rw [tbsS, if_pos c36, optI_some c55, Bool.and_false]; rfl) : _ = bI (tbsS (M 1) (nth (ordF (M 1) n) i))) ?_
                  refine ev_istore 80 _ dX8_findSaid_78 (by decide) rfl rfl rfl ?_
                  refine s_X8_findSaid_80 (by rw [hs.e1]; exact ht) hn hq hr (by omega) (fun z => ?_) (fun z => ?_)
                  · rw [hs.e1] at z
                    exact s_X8_findSaid_k ht hn0 hn hm d (i + 1) M1 _ _ _ (by omega) hs (by rw [flt_snoc (by omega), if_neg (by rw [sdP, z]; decide)]; exact hr) hrow
                  · rw [hs.e1] at z
                    exact s_X8_findSaid_k ht hn0 hn hm d (i + 1) _ _ _ _ (by omega) (hs.push _ _ _) (by rw [flt_snoc (by omega), if_pos (by rw [sdP, z])]; exact hr.push (by decide) (by omega)) (fun j hj => by rw [mst_other _ _ _ (by decide), mst_other _ _ _ (by decide)]; exact hrow j hj)
                · refine ev_iconst 74 (nI 1) dX8_findSaid_73 (by decide) rfl ?_
                  refine ev_goto 78 dX8_findSaid_74 (by decide) ?_
                  refine ev_eqI ((absurd (c36.symm.trans c70) (by decide)) : _ = bI (tbsS (M 1) (nth (ordF (M 1) n) i))) ?_
                  refine ev_istore 80 _ dX8_findSaid_78 (by decide) rfl rfl rfl ?_
                  refine s_X8_findSaid_80 (by rw [hs.e1]; exact ht) hn hq hr (by omega) (fun z => ?_) (fun z => ?_)
                  · rw [hs.e1] at z
                    exact s_X8_findSaid_k ht hn0 hn hm d (i + 1) M1 _ _ _ (by omega) hs (by rw [flt_snoc (by omega), if_neg (by rw [sdP, z]; decide)]; exact hr) hrow
                  · rw [hs.e1] at z
                    exact s_X8_findSaid_k ht hn0 hn hm d (i + 1) _ _ _ _ (by omega) (hs.push _ _ _) (by rw [flt_snoc (by omega), if_pos (by rw [sdP, z])]; exact hr.push (by decide) (by omega)) (fun j hj => by rw [mst_other _ _ _ (by decide), mst_other _ _ _ (by decide)]; exact hrow j hj)
theorem s_X8_findSaid {M : Mm} {n : Nat} (ht : TR (M 1) n) (hn0 : 0 < n) (hn : n ≤ 24) (hm : M 0 0 = nI n) : Ct MSh mX8_findSaid [.ref 0] M (fun r M2 => r = none ∧ SmS M M2 ∧ rowAt M2 7 0 10 (saidF (M 1) n)) := by
  show Ev _ _ 0 [.ref 0, .null, .null, .null, .null] [] M _
  refine ev_aload_n 1 dX8_findSaid_0 rfl rfl ?_
  refine ev_cV0 4 dX8_findSaid_1 mlX8_132 moX8_line rfl imX8_line ⟨_, _, rfl, rfl, rfl⟩ (Nat.le_of_ble_eq_true rfl) (Nat.le_of_ble_eq_true rfl) rfl (s_X8_line ht hn0 hn hm) ?_
  rintro r M1 ⟨rfl, h1, h3⟩
  refine ev_aload_n 5 dX8_findSaid_4 rfl rfl ?_
  refine ev_iconst 6 (nI 0) dX8_findSaid_5 (by decide) rfl ?_
  refine ev_putI 9 dX8_findSaid_6 rfl flX8_141 fiX8_10 rfl rfl ?_
  refine ev_iconst 10 (nI 0) dX8_findSaid_9 (by decide) rfl ?_
  refine ev_istore_n 11 _ dX8_findSaid_10 (by decide) rfl rfl rfl ?_
  exact s_X8_findSaid_k ht hn0 hn hm (ordF (M 1) n).length 0 _ _ _ _ (by omega) ⟨fun k a b c d => by rw [mst_other _ _ _ a]; exact h1 k b c, fun j hj => by rw [mst_same, upd, if_neg hj, h1 0 (by decide) (by decide)]⟩ ⟨by rw [mst_same, upd, if_pos rfl]; rfl, by simp, fun i hi => by simp at hi⟩ (fun j hj => by rw [mst_other _ _ _ (by decide)]; exact h3 j hj)
