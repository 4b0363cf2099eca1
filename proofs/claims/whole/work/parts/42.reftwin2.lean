/-! the reference: isTwin, isAhead -/
def twN (h : Nat → Int32) (ns : Nat → List Int32) (a : Nat) : Bool := (stK h a && decide ((ns a).length ≠ 0)) && twR h ns a a
theorem s_X8_isTwin_69f {M : Mm} {a j : Nat} {l2 : List Int32} (ha : a < 24) (h2 : nmAt M 5 6 a l2) (kd : Int32) {Q : Pst} (k : Ev MSh mX8_isTwin 132 [.ref 0, .int (nI a), .int kd, .int (nI j), .int (bI false), .int (nI 0)] [] M Q) : Ev MSh mX8_isTwin 69 [.ref 0, .int (nI a), .int kd, .int (nI j), .int (bI false), .int (nI 0)] [] M Q := by
  have hle := h2.1
  refine ev_iload 71 dX8_isTwin_69 rfl rfl ?_
  refine ev_aload_n 72 dX8_isTwin_71 rfl rfl ?_
  refine ev_getR 75 dX8_isTwin_72 rfl flX8_25 rfl rfl ?_
  refine ev_iload_n 76 dX8_isTwin_75 rfl rfl ?_
  refine ev_iaN 77 (nI l2.length) dX8_isTwin_76 rfl (by omega) (by decide) rfl h2.2.1 ?_
  refine ev_icmp_geN 80 125 dX8_isTwin_77 (by decide) rfl (by omega) (by omega) (fun c77 => ?_) (fun c77 => ?_)
  · refine ev_iload 127 dX8_isTwin_125 rfl rfl ?_
    refine ev_if_eqB 130 132 dX8_isTwin_127 (by decide) rfl (fun c127 => ?_) (fun c127 => ?_)
    · exact k
    · cases c127
  · refine ev_iload 82 dX8_isTwin_80 rfl rfl ?_
    refine ev_if_eqB 85 125 dX8_isTwin_82 (by decide) rfl (fun c82 => ?_) (fun c82 => ?_)
    · refine ev_iload 127 dX8_isTwin_125 rfl rfl ?_
      refine ev_if_eqB 130 132 dX8_isTwin_127 (by decide) rfl (fun c127 => ?_) (fun c127 => ?_)
      · exact k
      · cases c127
    · cases c82
theorem s_X8_isTwin_125 {M : Mm} {c : Bool} {x y z u : Value} {Q : Pst} (k1 : c = true → Q (some (.int (nI 1))) M) (k0 : c = false → Ev MSh mX8_isTwin 132 [.ref 0, x, y, z, .int (bI c), u] [] M Q) : Ev MSh mX8_isTwin 125 [.ref 0, x, y, z, .int (bI c), u] [] M Q := by
  refine ev_iload 127 dX8_isTwin_125 rfl rfl ?_
  refine ev_if_eqB 130 132 dX8_isTwin_127 (by decide) rfl (fun c127 => ?_) (fun c127 => ?_)
  · exact k0 c127
  · refine ev_iconst 131 (nI 1) dX8_isTwin_130 (by decide) rfl ?_
    exact ev_zret dX8_isTwin_131 rfl (Or.inr rfl) (k1 c127)
theorem s_X8_isTwin_31 {M : Mm} {n a : Nat} {ns : Nat → List Int32} (ht : TR (M 1) n) (hn : n ≤ 24) (ha : a < n) (hns : ∀ q, q < n → nmAt M 5 6 q (ns q)) (kd : Int32) : ∀ d i (u v : Value), i + d = a → twR (M 1) ns a i = false → Ev MSh mX8_isTwin 31 [.ref 0, .int (nI a), .int kd, .int (nI i), u, v] [] M (RetI (bI (twR (M 1) ns a a)) M)
  | 0, i, u, v, h, hno => by
    refine ev_iload_n 32 dX8_isTwin_31 rfl rfl ?_
    refine ev_iload_n 33 dX8_isTwin_32 rfl rfl ?_
    refine ev_icmp_geN 36 138 dX8_isTwin_33 (by decide) rfl (by omega) (by omega) (fun c33 => ?_) (fun c33 => ?_)
    · refine ev_iconst 139 (nI 0) dX8_isTwin_138 (by decide) rfl ?_
      exact ev_zret dX8_isTwin_139 rfl (Or.inl rfl) (⟨by rw [show i = a by omega] at hno; rw [hno]; rfl, rfl⟩)
    · omega
  | d + 1, i, u, v, h, hno => by
    have ha24 : a < 24 := by omega
    have hi6 := hns i (by omega)
    have hle1 := hi6.1
    have hle2 := (hns a ha).1
    refine ev_iload_n 32 dX8_isTwin_31 rfl rfl ?_
    refine ev_iload_n 33 dX8_isTwin_32 rfl rfl ?_
    refine ev_icmp_geN 36 138 dX8_isTwin_33 (by decide) rfl (by omega) (by omega) (fun c33 => ?_) (fun c33 => ?_)
    · omega
    · refine ev_aload_n 37 dX8_isTwin_36 rfl rfl ?_
      refine ev_iload_n 38 dX8_isTwin_37 rfl rfl ?_
      refine ev_cV1I _ M 41 dX8_isTwin_38 mlX8_159 moX8_isStop rfl imX8_isStop ⟨_, _, rfl, rfl, rfl⟩ (Nat.le_of_ble_eq_true rfl) (Nat.le_of_ble_eq_true rfl) rfl (s_X8_isStop ht hn (by omega)) ?_
      refine ev_if_eqB 44 63 dX8_isTwin_41 (by decide) rfl (fun c41 => ?_) (fun c41 => ?_)
      · refine ev_iconst 64 (nI 0) dX8_isTwin_63 (by decide) rfl ?_
        refine ev_istore 66 _ dX8_isTwin_64 (by decide) rfl rfl rfl ?_
        refine ev_iconst 67 (nI 0) dX8_isTwin_66 (by decide) rfl ?_
        refine ev_istore 69 _ dX8_isTwin_67 (by decide) rfl rfl rfl ?_
        refine s_X8_isTwin_69f ha24 (hns a ha) kd ?_
        refine ev_iincN 135 _ dX8_isTwin_132 rfl (by decide) rfl rfl rfl ?_
        refine ev_goto 31 dX8_isTwin_135 (by decide) ?_
        exact s_X8_isTwin_31 ht hn ha hns kd d (i + 1) _ _ (by omega) (by rw [twR, hno, c41]; rfl)
      · refine ev_aload_n 45 dX8_isTwin_44 rfl rfl ?_
        refine ev_getR 48 dX8_isTwin_45 rfl flX8_25 rfl rfl ?_
        refine ev_iload_n 49 dX8_isTwin_48 rfl rfl ?_
        refine ev_iaN 50 (nI (ns i).length) dX8_isTwin_49 rfl (by omega) (by decide) rfl hi6.2.1 ?_
        refine ev_aload_n 51 dX8_isTwin_50 rfl rfl ?_
        refine ev_getR 54 dX8_isTwin_51 rfl flX8_25 rfl rfl ?_
        refine ev_iload_n 55 dX8_isTwin_54 rfl rfl ?_
        refine ev_iaN 56 (nI (ns a).length) dX8_isTwin_55 rfl (by omega) (by decide) rfl (hns a ha).2.1 ?_
        refine ev_icmp_neN 59 63 dX8_isTwin_56 (by decide) rfl (by omega) (by omega) (fun c56 => ?_) (fun c56 => ?_)
        · refine ev_iconst 64 (nI 0) dX8_isTwin_63 (by decide) rfl ?_
          refine ev_istore 66 _ dX8_isTwin_64 (by decide) rfl rfl rfl ?_
          refine ev_iconst 67 (nI 0) dX8_isTwin_66 (by decide) rfl ?_
          refine ev_istore 69 _ dX8_isTwin_67 (by decide) rfl rfl rfl ?_
          refine s_X8_isTwin_69f ha24 (hns a ha) kd ?_
          refine ev_iincN 135 _ dX8_isTwin_132 rfl (by decide) rfl rfl rfl ?_
          refine ev_goto 31 dX8_isTwin_135 (by decide) ?_
          exact s_X8_isTwin_31 ht hn ha hns kd d (i + 1) _ _ (by omega) (by rw [twR, hno, c41, decide_eq_false c56, Bool.true_and, Bool.false_and]; rfl)
        · refine ev_iconst 60 (nI 1) dX8_isTwin_59 (by decide) rfl ?_
          refine ev_goto 64 dX8_isTwin_60 (by decide) ?_
          refine ev_istore 66 _ dX8_isTwin_64 (by decide) rfl rfl rfl ?_
          refine ev_iconst 67 (nI 0) dX8_isTwin_66 (by decide) rfl ?_
          refine ev_istore 69 _ dX8_isTwin_67 (by decide) rfl rfl rfl ?_
          refine s_X8_isTwin_69 ha24 (by omega) hi6 (hns a ha) (by omega) kd true (fun v => ?_) (ns a).length 0 (by omega)
          refine s_X8_isTwin_125 (fun e => ⟨?_, rfl⟩) (fun e => ?_)
          · rw [twR_yes (k := i) (by omega) (by rw [c41, decide_eq_true c56]; exact e)]; rfl
          · refine ev_iincN 135 _ dX8_isTwin_132 rfl (by decide) rfl rfl rfl ?_
            refine ev_goto 31 dX8_isTwin_135 (by decide) ?_
            exact s_X8_isTwin_31 ht hn ha hns kd d (i + 1) _ _ (by omega) (by rw [twR, hno, c41, decide_eq_true c56]; exact e)
theorem s_X8_isTwin {M : Mm} {n a : Nat} {ns : Nat → List Int32} (ht : TR (M 1) n) (hn : n ≤ 24) (ha : a < n) (hns : ∀ q, q < n → nmAt M 5 6 q (ns q)) : Ct MSh mX8_isTwin [.ref 0, .int (nI a)] M (RetI (bI (twN (M 1) ns a)) M) := by
  have hle2 := (hns a ha).1
  show Ev _ _ 0 [.ref 0, .int (nI a), .null, .null, .null, .null] [] M _
  refine ev_aload_n 1 dX8_isTwin_0 rfl rfl ?_
  refine ev_iload_n 2 dX8_isTwin_1 rfl rfl ?_
  refine ev_bipush 4 (nI 10) dX8_isTwin_2 (by decide) rfl ?_
  refine ev_cV2I (M 1 (a * 18 + 10)) M 7 dX8_isTwin_4 mlX8_74 moX8_get rfl imX8_get ⟨_, _, rfl, rfl, rfl⟩ (Nat.le_of_ble_eq_true rfl) (Nat.le_of_ble_eq_true rfl) rfl (s_X8_get (a := a) (b := 10) (by omega) (by omega)) ?_
  refine ev_istore_n 8 _ dX8_isTwin_7 (by decide) rfl rfl rfl ?_
  refine ev_iload_n 9 dX8_isTwin_8 rfl rfl ?_
  refine ev_iconst 10 (nI 2) dX8_isTwin_9 (by decide) rfl ?_
  refine ev_icmp_eq 13 18 dX8_isTwin_10 (by decide) rfl (fun c10 => ?_) (fun c10 => ?_)
  · refine ev_aload_n 19 dX8_isTwin_18 rfl rfl ?_
    refine ev_getR 22 dX8_isTwin_19 rfl flX8_25 rfl rfl ?_
    refine ev_iload_n 23 dX8_isTwin_22 rfl rfl ?_
    refine ev_iaN 24 (nI (ns a).length) dX8_isTwin_23 rfl (by omega) (by decide) rfl (hns a ha).2.1 ?_
    refine ev_if_neN 27 29 dX8_isTwin_24 (by decide) rfl (by omega) (fun c24 => ?_) (fun c24 => ?_)
    · refine ev_iconst 30 (nI 0) dX8_isTwin_29 (by decide) rfl ?_
      refine ev_istore_n 31 _ dX8_isTwin_30 (by decide) rfl rfl rfl ?_
      rw [twN, stK, beq_iff_eq.mpr c10, decide_eq_true c24]
      exact s_X8_isTwin_31 ht hn ha hns _ a 0 _ _ (by omega) rfl
    · refine ev_iconst 28 (nI 0) dX8_isTwin_27 (by decide) rfl ?_
      exact ev_zret dX8_isTwin_28 rfl (Or.inl rfl) (⟨by rw [twN, decide_eq_false (fun z => z c24), Bool.and_false]; rfl, rfl⟩)
  · refine ev_iload_n 14 dX8_isTwin_13 rfl rfl ?_
    refine ev_iconst 15 (nI 3) dX8_isTwin_14 (by decide) rfl ?_
    refine ev_icmp_ne 18 27 dX8_isTwin_15 (by decide) rfl (fun c15 => ?_) (fun c15 => ?_)
    · refine ev_iconst 28 (nI 0) dX8_isTwin_27 (by decide) rfl ?_
      exact ev_zret dX8_isTwin_28 rfl (Or.inl rfl) (⟨by rw [twN, stK, beq_eq_false_iff_ne.mpr c10, beq_eq_false_iff_ne.mpr c15]; rfl, rfl⟩)
    · refine ev_aload_n 19 dX8_isTwin_18 rfl rfl ?_
      refine ev_getR 22 dX8_isTwin_19 rfl flX8_25 rfl rfl ?_
      refine ev_iload_n 23 dX8_isTwin_22 rfl rfl ?_
      refine ev_iaN 24 (nI (ns a).length) dX8_isTwin_23 rfl (by omega) (by decide) rfl (hns a ha).2.1 ?_
      refine ev_if_neN 27 29 dX8_isTwin_24 (by decide) rfl (by omega) (fun c24 => ?_) (fun c24 => ?_)
      · refine ev_iconst 30 (nI 0) dX8_isTwin_29 (by decide) rfl ?_
        refine ev_istore_n 31 _ dX8_isTwin_30 (by decide) rfl rfl rfl ?_
        rw [twN, stK, beq_eq_false_iff_ne.mpr c10, beq_iff_eq.mpr c15, decide_eq_true c24]
        exact s_X8_isTwin_31 ht hn ha hns _ a 0 _ _ (by omega) rfl
      · refine ev_iconst 28 (nI 0) dX8_isTwin_27 (by decide) rfl ?_
        exact ev_zret dX8_isTwin_28 rfl (Or.inl rfl) (⟨by rw [twN, decide_eq_false (fun z => z c24), Bool.and_false]; rfl, rfl⟩)
