/-! Reading and Spoken -/
def hArea (h : Nat → Int32) (a : Nat) : Bool := decide (0 < h (a * 18 + 14)) && decide (0 < h (a * 18 + 15))
def isAbv (h : Nat → Int32) (p q : Nat) : Bool := decide (h (p * 18 + 13) + h (p * 18 + 15) ≤ h (q * 18 + 13))
def isLft (h : Nat → Int32) (p q : Nat) : Bool := decide (h (p * 18 + 12) + h (p * 18 + 14) ≤ h (q * 18 + 12))
def astr (h : Nat → Int32) (p q : Nat) : Bool := hArea h p && hArea h q && (isAbv h q p || (isLft h q p && !isAbv h p q))
theorem i_le0 {x : Int32} (h : x ≤ 0) : ¬ 0 < x := by
  rw [Int32.le_iff_toInt_le] at h
  rw [Int32.lt_iff_toInt_lt]
  omega
theorem i_nle0 {x : Int32} (h : ¬ x ≤ 0) : 0 < x := by
  rw [Int32.le_iff_toInt_le] at h
  rw [Int32.lt_iff_toInt_lt]
  omega
theorem i_lt_nle {x y : Int32} (h : x < y) : ¬ y ≤ x := by
  rw [Int32.lt_iff_toInt_lt] at h
  rw [Int32.le_iff_toInt_le]
  omega
theorem i_nlt_le {x y : Int32} (h : ¬ x < y) : y ≤ x := by
  rw [Int32.lt_iff_toInt_lt] at h
  rw [Int32.le_iff_toInt_le]
  omega
def nth (l : List Nat) (i : Nat) : Nat := l.getD i 0
theorem nth_app {l : List Nat} {x i : Nat} (h : i < l.length) : nth (l ++ [x]) i = nth l i := by simp [nth, List.getElem?_append_left h]
theorem nth_last (l : List Nat) (x : Nat) : nth (l ++ [x]) l.length = x := by simp [nth]
def rowAt (M : Mm) (c so sj : Nat) (l : List Nat) : Prop := M so sj = nI l.length ∧ l.length ≤ 24 ∧ ∀ i, i < l.length → M c i = nI (nth l i)
theorem rowAt.push {M : Mm} {c so sj : Nat} {l : List Nat} {x : Nat} (hc : c ≠ so) (h : rowAt M c so sj l) (hl : l.length < 24) : rowAt (mst (mst M c l.length (nI x)) so sj (nI (l.length + 1))) c so sj (l ++ [x]) := by
  refine ⟨by rw [mst_same, upd]; simp, by simp; omega, fun i hi => ?_⟩
  rw [mst_other _ _ _ hc, mst_same, upd]
  simp at hi
  by_cases e : i = l.length
  · subst e; simp [nth_last]
  · rw [if_neg e, h.2.2 i (by omega), nth_app (by omega)]
theorem rowAt.of {M M' : Mm} {c so sj : Nat} {l : List Nat} (h : rowAt M c so sj l) (hc : M' c = M c) (hs : M' so sj = M so sj) : rowAt M' c so sj l := ⟨hs.trans h.1, h.2.1, fun i hi => by rw [hc]; exact h.2.2 i hi⟩
theorem take_snoc {l : List Nat} {i : Nat} (h : i < l.length) : l.take (i + 1) = l.take i ++ [nth l i] := by
  rw [List.take_succ]
  simp [nth, List.getElem?_eq_getElem h]
theorem getD_mem {l : List Nat} {i : Nat} (h : i < l.length) : nth l i ∈ l := by
  simp [nth, List.getElem?_eq_getElem h]
def tbs (M : Mm) (a : Nat) : Bool := if M 1 (a * 18 + 10) = nI 1 then (M 1 (a * 18 + 0) != 0 && ((M 2 a &&& M 4 2) == 0)) else (M 1 (a * 18 + 10) == nI 2 || M 1 (a * 18 + 10) == nI 3 || M 1 (a * 18 + 10) == nI 4)

theorem s_X3_hasArea {M : Mm} {a : Nat} (ha : a < 24) : Ct XSh mX3_hasArea [.ref 9, .int (nI a)] M (RetI (bI (hArea (M 1) a)) M) := by
  show Ev _ _ 0 [.ref 9, .int (nI a)] [] M _
  refine ev_aload_n 1 dX3_hasArea_0 rfl rfl ?_
  refine ev_getR 4 dX3_hasArea_1 rfl flX3_15 rfl rfl ?_
  refine ev_iload_n 5 dX3_hasArea_4 rfl rfl ?_
  refine ev_bipush 7 (nI 14) dX3_hasArea_5 (by decide) rfl ?_
  refine ev_cV2I (M 1 (a * 18 + 14)) M 10 dX3_hasArea_7 mlX3_43 moX2_get rfl imX2_get ⟨_, _, rfl, rfl, rfl⟩ (Nat.le_of_ble_eq_true rfl) (Nat.le_of_ble_eq_true rfl) rfl (s_X2_get (a := a) (b := 14) ha (by omega)) ?_
  refine ev_if_le 13 30 dX3_hasArea_10 (by decide) rfl (fun c10 => ?_) (fun c10 => ?_)
  · refine ev_iconst 31 (nI 0) dX3_hasArea_30 (by decide) rfl ?_
    exact ev_zret dX3_hasArea_31 rfl (Or.inl rfl) (⟨by rw [hArea, decide_eq_false (i_le0 c10)]; rfl, rfl⟩)
  · refine ev_aload_n 14 dX3_hasArea_13 rfl rfl ?_
    refine ev_getR 17 dX3_hasArea_14 rfl flX3_15 rfl rfl ?_
    refine ev_iload_n 18 dX3_hasArea_17 rfl rfl ?_
    refine ev_bipush 20 (nI 15) dX3_hasArea_18 (by decide) rfl ?_
    refine ev_cV2I (M 1 (a * 18 + 15)) M 23 dX3_hasArea_20 mlX3_43 moX2_get rfl imX2_get ⟨_, _, rfl, rfl, rfl⟩ (Nat.le_of_ble_eq_true rfl) (Nat.le_of_ble_eq_true rfl) rfl (s_X2_get (a := a) (b := 15) ha (by omega)) ?_
    refine ev_if_le 26 30 dX3_hasArea_23 (by decide) rfl (fun c23 => ?_) (fun c23 => ?_)
    · refine ev_iconst 31 (nI 0) dX3_hasArea_30 (by decide) rfl ?_
      exact ev_zret dX3_hasArea_31 rfl (Or.inl rfl) (⟨by rw [hArea, decide_eq_false (i_le0 c23), Bool.and_false]; rfl, rfl⟩)
    · refine ev_iconst 27 (nI 1) dX3_hasArea_26 (by decide) rfl ?_
      refine ev_goto 31 dX3_hasArea_27 (by decide) ?_
      exact ev_zret dX3_hasArea_31 rfl (Or.inr rfl) (⟨by rw [hArea, decide_eq_true (i_nle0 c10), decide_eq_true (i_nle0 c23)]; rfl, rfl⟩)
theorem s_X3_isAbove {M : Mm} {a b : Nat} (ha : a < 24) (hb : b < 24) : Ct XSh mX3_isAbove [.ref 9, .int (nI a), .int (nI b)] M (RetI (bI (isAbv (M 1) a b)) M) := by
  show Ev _ _ 0 [.ref 9, .int (nI a), .int (nI b)] [] M _
  refine ev_aload_n 1 dX3_isAbove_0 rfl rfl ?_
  refine ev_getR 4 dX3_isAbove_1 rfl flX3_15 rfl rfl ?_
  refine ev_iload_n 5 dX3_isAbove_4 rfl rfl ?_
  refine ev_bipush 7 (nI 13) dX3_isAbove_5 (by decide) rfl ?_
  refine ev_cV2I (M 1 (a * 18 + 13)) M 10 dX3_isAbove_7 mlX3_43 moX2_get rfl imX2_get ⟨_, _, rfl, rfl, rfl⟩ (Nat.le_of_ble_eq_true rfl) (Nat.le_of_ble_eq_true rfl) rfl (s_X2_get (a := a) (b := 13) ha (by omega)) ?_
  refine ev_aload_n 11 dX3_isAbove_10 rfl rfl ?_
  refine ev_getR 14 dX3_isAbove_11 rfl flX3_15 rfl rfl ?_
  refine ev_iload_n 15 dX3_isAbove_14 rfl rfl ?_
  refine ev_bipush 17 (nI 15) dX3_isAbove_15 (by decide) rfl ?_
  refine ev_cV2I (M 1 (a * 18 + 15)) M 20 dX3_isAbove_17 mlX3_43 moX2_get rfl imX2_get ⟨_, _, rfl, rfl, rfl⟩ (Nat.le_of_ble_eq_true rfl) (Nat.le_of_ble_eq_true rfl) rfl (s_X2_get (a := a) (b := 15) ha (by omega)) ?_
  refine ev_iadd 21 dX3_isAbove_20 rfl ?_
  refine ev_aload_n 22 dX3_isAbove_21 rfl rfl ?_
  refine ev_getR 25 dX3_isAbove_22 rfl flX3_15 rfl rfl ?_
  refine ev_iload_n 26 dX3_isAbove_25 rfl rfl ?_
  refine ev_bipush 28 (nI 13) dX3_isAbove_26 (by decide) rfl ?_
  refine ev_cV2I (M 1 (b * 18 + 13)) M 31 dX3_isAbove_28 mlX3_43 moX2_get rfl imX2_get ⟨_, _, rfl, rfl, rfl⟩ (Nat.le_of_ble_eq_true rfl) (Nat.le_of_ble_eq_true rfl) rfl (s_X2_get (a := b) (b := 13) hb (by omega)) ?_
  refine ev_icmp_gt 34 38 dX3_isAbove_31 (by decide) rfl (fun c31 => ?_) (fun c31 => ?_)
  · refine ev_iconst 39 (nI 0) dX3_isAbove_38 (by decide) rfl ?_
    exact ev_zret dX3_isAbove_39 rfl (Or.inl rfl) (⟨by rw [isAbv, decide_eq_false (i_lt_nle c31)]; rfl, rfl⟩)
  · refine ev_iconst 35 (nI 1) dX3_isAbove_34 (by decide) rfl ?_
    refine ev_goto 39 dX3_isAbove_35 (by decide) ?_
    exact ev_zret dX3_isAbove_39 rfl (Or.inr rfl) (⟨by rw [isAbv, decide_eq_true (i_nlt_le c31)]; rfl, rfl⟩)
theorem s_X3_isLeftOf {M : Mm} {a b : Nat} (ha : a < 24) (hb : b < 24) : Ct XSh mX3_isLeftOf [.ref 9, .int (nI a), .int (nI b)] M (RetI (bI (isLft (M 1) a b)) M) := by
  show Ev _ _ 0 [.ref 9, .int (nI a), .int (nI b)] [] M _
  refine ev_aload_n 1 dX3_isLeftOf_0 rfl rfl ?_
  refine ev_getR 4 dX3_isLeftOf_1 rfl flX3_15 rfl rfl ?_
  refine ev_iload_n 5 dX3_isLeftOf_4 rfl rfl ?_
  refine ev_bipush 7 (nI 12) dX3_isLeftOf_5 (by decide) rfl ?_
  refine ev_cV2I (M 1 (a * 18 + 12)) M 10 dX3_isLeftOf_7 mlX3_43 moX2_get rfl imX2_get ⟨_, _, rfl, rfl, rfl⟩ (Nat.le_of_ble_eq_true rfl) (Nat.le_of_ble_eq_true rfl) rfl (s_X2_get (a := a) (b := 12) ha (by omega)) ?_
  refine ev_aload_n 11 dX3_isLeftOf_10 rfl rfl ?_
  refine ev_getR 14 dX3_isLeftOf_11 rfl flX3_15 rfl rfl ?_
  refine ev_iload_n 15 dX3_isLeftOf_14 rfl rfl ?_
  refine ev_bipush 17 (nI 14) dX3_isLeftOf_15 (by decide) rfl ?_
  refine ev_cV2I (M 1 (a * 18 + 14)) M 20 dX3_isLeftOf_17 mlX3_43 moX2_get rfl imX2_get ⟨_, _, rfl, rfl, rfl⟩ (Nat.le_of_ble_eq_true rfl) (Nat.le_of_ble_eq_true rfl) rfl (s_X2_get (a := a) (b := 14) ha (by omega)) ?_
  refine ev_iadd 21 dX3_isLeftOf_20 rfl ?_
  refine ev_aload_n 22 dX3_isLeftOf_21 rfl rfl ?_
  refine ev_getR 25 dX3_isLeftOf_22 rfl flX3_15 rfl rfl ?_
  refine ev_iload_n 26 dX3_isLeftOf_25 rfl rfl ?_
  refine ev_bipush 28 (nI 12) dX3_isLeftOf_26 (by decide) rfl ?_
  refine ev_cV2I (M 1 (b * 18 + 12)) M 31 dX3_isLeftOf_28 mlX3_43 moX2_get rfl imX2_get ⟨_, _, rfl, rfl, rfl⟩ (Nat.le_of_ble_eq_true rfl) (Nat.le_of_ble_eq_true rfl) rfl (s_X2_get (a := b) (b := 12) hb (by omega)) ?_
  refine ev_icmp_gt 34 38 dX3_isLeftOf_31 (by decide) rfl (fun c31 => ?_) (fun c31 => ?_)
  · refine ev_iconst 39 (nI 0) dX3_isLeftOf_38 (by decide) rfl ?_
    exact ev_zret dX3_isLeftOf_39 rfl (Or.inl rfl) (⟨by rw [isLft, decide_eq_false (i_lt_nle c31)]; rfl, rfl⟩)
  · refine ev_iconst 35 (nI 1) dX3_isLeftOf_34 (by decide) rfl ?_
    refine ev_goto 39 dX3_isLeftOf_35 (by decide) ?_
    exact ev_zret dX3_isLeftOf_39 rfl (Or.inr rfl) (⟨by rw [isLft, decide_eq_true (i_nlt_le c31)]; rfl, rfl⟩)
theorem s_X3_isAstray {M : Mm} {a b : Nat} (ha : a < 24) (hb : b < 24) : Ct XSh mX3_isAstray [.ref 9, .int (nI a), .int (nI b)] M (RetI (bI (astr (M 1) a b)) M) := by
  show Ev _ _ 0 [.ref 9, .int (nI a), .int (nI b)] [] M _
  refine ev_aload_n 1 dX3_isAstray_0 rfl rfl ?_
  refine ev_iload_n 2 dX3_isAstray_1 rfl rfl ?_
  refine ev_cV1I _ M 5 dX3_isAstray_2 mlX3_57 moX3_hasArea rfl imX3_hasArea ⟨_, _, rfl, rfl, rfl⟩ (Nat.le_of_ble_eq_true rfl) (Nat.le_of_ble_eq_true rfl) rfl (s_X3_hasArea ha) ?_
  refine ev_if_eqB 8 16 dX3_isAstray_5 (by decide) rfl (fun c5 => ?_) (fun c5 => ?_)
  · refine ev_iconst 17 (nI 0) dX3_isAstray_16 (by decide) rfl ?_
    exact ev_zret dX3_isAstray_17 rfl (Or.inl rfl) (⟨by simp only [astr, *]; rfl, rfl⟩)
  · refine ev_aload_n 9 dX3_isAstray_8 rfl rfl ?_
    refine ev_iload_n 10 dX3_isAstray_9 rfl rfl ?_
    refine ev_cV1I _ M 13 dX3_isAstray_10 mlX3_57 moX3_hasArea rfl imX3_hasArea ⟨_, _, rfl, rfl, rfl⟩ (Nat.le_of_ble_eq_true rfl) (Nat.le_of_ble_eq_true rfl) rfl (s_X3_hasArea hb) ?_
    refine ev_if_neB 16 18 dX3_isAstray_13 (by decide) rfl (fun c13 => ?_) (fun c13 => ?_)
    · refine ev_aload_n 19 dX3_isAstray_18 rfl rfl ?_
      refine ev_iload_n 20 dX3_isAstray_19 rfl rfl ?_
      refine ev_iload_n 21 dX3_isAstray_20 rfl rfl ?_
      refine ev_cV2I _ M 24 dX3_isAstray_21 mlX3_60 moX3_isAbove rfl imX3_isAbove ⟨_, _, rfl, rfl, rfl⟩ (Nat.le_of_ble_eq_true rfl) (Nat.le_of_ble_eq_true rfl) rfl (s_X3_isAbove hb ha) ?_
      refine ev_if_neB 27 45 dX3_isAstray_24 (by decide) rfl (fun c24 => ?_) (fun c24 => ?_)
      · refine ev_iconst 46 (nI 1) dX3_isAstray_45 (by decide) rfl ?_
        refine ev_goto 50 dX3_isAstray_46 (by decide) ?_
        exact ev_zret dX3_isAstray_50 rfl (Or.inr rfl) (⟨by simp only [astr, *]; rfl, rfl⟩)
      · refine ev_aload_n 28 dX3_isAstray_27 rfl rfl ?_
        refine ev_iload_n 29 dX3_isAstray_28 rfl rfl ?_
        refine ev_iload_n 30 dX3_isAstray_29 rfl rfl ?_
        refine ev_cV2I _ M 33 dX3_isAstray_30 mlX3_63 moX3_isLeftOf rfl imX3_isLeftOf ⟨_, _, rfl, rfl, rfl⟩ (Nat.le_of_ble_eq_true rfl) (Nat.le_of_ble_eq_true rfl) rfl (s_X3_isLeftOf hb ha) ?_
        refine ev_if_eqB 36 49 dX3_isAstray_33 (by decide) rfl (fun c33 => ?_) (fun c33 => ?_)
        · refine ev_iconst 50 (nI 0) dX3_isAstray_49 (by decide) rfl ?_
          exact ev_zret dX3_isAstray_50 rfl (Or.inl rfl) (⟨by simp only [astr, *]; rfl, rfl⟩)
        · refine ev_aload_n 37 dX3_isAstray_36 rfl rfl ?_
          refine ev_iload_n 38 dX3_isAstray_37 rfl rfl ?_
          refine ev_iload_n 39 dX3_isAstray_38 rfl rfl ?_
          refine ev_cV2I _ M 42 dX3_isAstray_39 mlX3_60 moX3_isAbove rfl imX3_isAbove ⟨_, _, rfl, rfl, rfl⟩ (Nat.le_of_ble_eq_true rfl) (Nat.le_of_ble_eq_true rfl) rfl (s_X3_isAbove ha hb) ?_
          refine ev_if_neB 45 49 dX3_isAstray_42 (by decide) rfl (fun c42 => ?_) (fun c42 => ?_)
          · refine ev_iconst 50 (nI 0) dX3_isAstray_49 (by decide) rfl ?_
            exact ev_zret dX3_isAstray_50 rfl (Or.inl rfl) (⟨by simp only [astr, *]; rfl, rfl⟩)
          · refine ev_iconst 46 (nI 1) dX3_isAstray_45 (by decide) rfl ?_
            refine ev_goto 50 dX3_isAstray_46 (by decide) ?_
            exact ev_zret dX3_isAstray_50 rfl (Or.inr rfl) (⟨by simp only [astr, *]; rfl, rfl⟩)
    · refine ev_iconst 17 (nI 0) dX3_isAstray_16 (by decide) rfl ?_
      exact ev_zret dX3_isAstray_17 rfl (Or.inl rfl) (⟨by simp only [astr, *]; rfl, rfl⟩)
theorem s_X3_isToBeSaid {M : Mm} {a n : Nat} (hn : n ≤ 24) (hsz : M 0 5 = nI n) (ha : a < n) : Ct XSh mX3_isToBeSaid [.ref 9, .int (nI a)] M (RetI (bI (tbs M a)) M) := by
  show Ev _ _ 0 [.ref 9, .int (nI a), .null] [] M _
  refine ev_aload_n 1 dX3_isToBeSaid_0 rfl rfl ?_
  refine ev_getR 4 dX3_isToBeSaid_1 rfl flX3_15 rfl rfl ?_
  refine ev_iload_n 5 dX3_isToBeSaid_4 rfl rfl ?_
  refine ev_bipush 7 (nI 10) dX3_isToBeSaid_5 (by decide) rfl ?_
  refine ev_cV2I (M 1 (a * 18 + 10)) M 10 dX3_isToBeSaid_7 mlX3_43 moX2_get rfl imX2_get ⟨_, _, rfl, rfl, rfl⟩ (Nat.le_of_ble_eq_true rfl) (Nat.le_of_ble_eq_true rfl) rfl (s_X2_get (a := a) (b := 10) (by omega) (by omega)) ?_
  refine ev_istore_n 11 _ dX3_isToBeSaid_10 (by decide) rfl rfl rfl ?_
  refine ev_iload_n 12 dX3_isToBeSaid_11 rfl rfl ?_
  refine ev_iconst 13 (nI 1) dX3_isToBeSaid_12 (by decide) rfl ?_
  refine ev_icmp_ne 16 55 dX3_isToBeSaid_13 (by decide) rfl (fun c13 => ?_) (fun c13 => ?_)
  · refine ev_iload_n 56 dX3_isToBeSaid_55 rfl rfl ?_
    refine ev_iconst 57 (nI 2) dX3_isToBeSaid_56 (by decide) rfl ?_
    refine ev_icmp_eq 60 70 dX3_isToBeSaid_57 (by decide) rfl (fun c57 => ?_) (fun c57 => ?_)
    · refine ev_iconst 71 (nI 1) dX3_isToBeSaid_70 (by decide) rfl ?_
      refine ev_goto 75 dX3_isToBeSaid_71 (by decide) ?_
      exact ev_zret dX3_isToBeSaid_75 rfl (Or.inr rfl) (⟨by rw [tbs, if_neg c13, beq_iff_eq.mpr c57]; rfl, rfl⟩)
    · refine ev_iload_n 61 dX3_isToBeSaid_60 rfl rfl ?_
      refine ev_iconst 62 (nI 3) dX3_isToBeSaid_61 (by decide) rfl ?_
      refine ev_icmp_eq 65 70 dX3_isToBeSaid_62 (by decide) rfl (fun c62 => ?_) (fun c62 => ?_)
      · refine ev_iconst 71 (nI 1) dX3_isToBeSaid_70 (by decide) rfl ?_
        refine ev_goto 75 dX3_isToBeSaid_71 (by decide) ?_
        exact ev_zret dX3_isToBeSaid_75 rfl (Or.inr rfl) (⟨by rw [tbs, if_neg c13, beq_eq_false_iff_ne.mpr c57, beq_iff_eq.mpr c62]; rfl, rfl⟩)
      · refine ev_iload_n 66 dX3_isToBeSaid_65 rfl rfl ?_
        refine ev_iconst 67 (nI 4) dX3_isToBeSaid_66 (by decide) rfl ?_
        refine ev_icmp_ne 70 74 dX3_isToBeSaid_67 (by decide) rfl (fun c67 => ?_) (fun c67 => ?_)
        · refine ev_iconst 75 (nI 0) dX3_isToBeSaid_74 (by decide) rfl ?_
          exact ev_zret dX3_isToBeSaid_75 rfl (Or.inl rfl) (⟨by rw [tbs, if_neg c13, beq_eq_false_iff_ne.mpr c57, beq_eq_false_iff_ne.mpr c62, beq_eq_false_iff_ne.mpr c67]; rfl, rfl⟩)
        · refine ev_iconst 71 (nI 1) dX3_isToBeSaid_70 (by decide) rfl ?_
          refine ev_goto 75 dX3_isToBeSaid_71 (by decide) ?_
          exact ev_zret dX3_isToBeSaid_75 rfl (Or.inr rfl) (⟨by rw [tbs, if_neg c13, beq_eq_false_iff_ne.mpr c57, beq_eq_false_iff_ne.mpr c62, beq_iff_eq.mpr c67]; rfl, rfl⟩)
  · refine ev_aload_n 17 dX3_isToBeSaid_16 rfl rfl ?_
    refine ev_getR 20 dX3_isToBeSaid_17 rfl flX3_15 rfl rfl ?_
    refine ev_iload_n 21 dX3_isToBeSaid_20 rfl rfl ?_
    refine ev_iconst 22 (nI 0) dX3_isToBeSaid_21 (by decide) rfl ?_
    refine ev_cV2I (M 1 (a * 18 + 0)) M 25 dX3_isToBeSaid_22 mlX3_43 moX2_get rfl imX2_get ⟨_, _, rfl, rfl, rfl⟩ (Nat.le_of_ble_eq_true rfl) (Nat.le_of_ble_eq_true rfl) rfl (s_X2_get (a := a) (b := 0) (by omega) (by omega)) ?_
    refine ev_if_eq 28 53 dX3_isToBeSaid_25 (by decide) rfl (fun c25 => ?_) (fun c25 => ?_)
    · refine ev_iconst 54 (nI 0) dX3_isToBeSaid_53 (by decide) rfl ?_
      exact ev_zret dX3_isToBeSaid_54 rfl (Or.inl rfl) (⟨by rw [tbs, if_pos c13, show (M 1 (a * 18 + 0) != 0) = false from by rw [c25]; rfl]; rfl, rfl⟩)
    · refine ev_aload_n 29 dX3_isToBeSaid_28 rfl rfl ?_
      refine ev_getR 32 dX3_isToBeSaid_29 rfl flX3_15 rfl rfl ?_
      refine ev_iload_n 33 dX3_isToBeSaid_32 rfl rfl ?_
      refine ev_cV1I (M 2 a) M 36 dX3_isToBeSaid_33 mlX3_47 moX2_aroundOf rfl imX2_aroundOf ⟨_, _, rfl, rfl, rfl⟩ (Nat.le_of_ble_eq_true rfl) (Nat.le_of_ble_eq_true rfl) rfl (s_X2_aroundOfN hn hsz ha) ?_
      refine ev_aload_n 37 dX3_isToBeSaid_36 rfl rfl ?_
      refine ev_getR 40 dX3_isToBeSaid_37 rfl flX3_15 rfl rfl ?_
      refine ev_getR 43 dX3_isToBeSaid_40 rfl flX3_51 rfl rfl ?_
      refine ev_iconst 44 (nI 2) dX3_isToBeSaid_43 (by decide) rfl ?_
      refine ev_iaN 45 _ dX3_isToBeSaid_44 rfl (by decide) (by decide) rfl rfl ?_
      refine ev_iand 46 dX3_isToBeSaid_45 rfl ?_
      refine ev_if_ne 49 53 dX3_isToBeSaid_46 (by decide) rfl (fun c46 => ?_) (fun c46 => ?_)
      · refine ev_iconst 54 (nI 0) dX3_isToBeSaid_53 (by decide) rfl ?_
        exact ev_zret dX3_isToBeSaid_54 rfl (Or.inl rfl) (⟨by rw [tbs, if_pos c13, beq_eq_false_iff_ne.mpr c46, Bool.and_false]; rfl, rfl⟩)
      · refine ev_iconst 50 (nI 1) dX3_isToBeSaid_49 (by decide) rfl ?_
        refine ev_goto 54 dX3_isToBeSaid_50 (by decide) ?_
        exact ev_zret dX3_isToBeSaid_54 rfl (Or.inr rfl) (⟨by rw [tbs, if_pos c13, beq_iff_eq.mpr c46, bne_iff_ne.mpr c25]; rfl, rfl⟩)
def rowF (l : List Nat) (k : Int32) : Int32 := if inB k l.length then nI (nth l k.toNatClampNeg) else -1
theorem s_X3_at {M : Mm} {l : List Nat} (k : Int32) (hl : rowAt M 10 9 2 l) : Ct XSh mX3_at [.ref 9, .int k] M (RetI (rowF l k) M) := by
  have hle := hl.2.1
  have hin : ¬ k < 0 → ¬ nI l.length ≤ k → inB k l.length = true := fun c1 c11 => decide_eq_true (by rw [int_lt0] at c1; rw [Int32.le_iff_toInt_le, nI_toInt (by omega)] at c11; omega)
  have hout : nI l.length ≤ k → inB k l.length = false := fun c11 => decide_eq_false (by rw [Int32.le_iff_toInt_le, nI_toInt (by omega)] at c11; omega)
  show Ev _ _ 0 [.ref 9, .int k] [] M _
  refine ev_iload_n 1 dX3_at_0 rfl rfl ?_
  refine ev_if_lt 4 21 dX3_at_1 (by decide) rfl (fun c1 => ?_) (fun c1 => ?_)
  · refine ev_iconst 22 (-1) dX3_at_21 (by decide) rfl ?_
    exact ev_iret dX3_at_22 rfl (⟨by rw [rowF, if_neg (by rw [inB_lt c1]; decide)], rfl⟩)
  · refine ev_iload_n 5 dX3_at_4 rfl rfl ?_
    refine ev_aload_n 6 dX3_at_5 rfl rfl ?_
    refine ev_getIv 9 _ dX3_at_6 rfl flX3_19 rfl rfl hl.1 ?_
    refine ev_icmp_ge 12 21 dX3_at_9 (by decide) rfl (fun c9 => ?_) (fun c9 => ?_)
    · refine ev_iconst 22 (-1) dX3_at_21 (by decide) rfl ?_
      exact ev_iret dX3_at_22 rfl (⟨by rw [rowF, if_neg (by rw [hout c9]; decide)], rfl⟩)
    · obtain ⟨j, hj, rfl⟩ := inB_of (x := k) (n := l.length) (hin c1 c9) (by omega)
      refine ev_aload_n 13 dX3_at_12 rfl rfl ?_
      refine ev_getR 16 dX3_at_13 rfl flX3_9 rfl rfl ?_
      refine ev_iload_n 17 dX3_at_16 rfl rfl ?_
      refine ev_iaN 18 _ dX3_at_17 rfl (by omega) (by decide) rfl (hl.2.2 j hj) ?_
      refine ev_goto 22 dX3_at_18 (by decide) ?_
      exact ev_iret dX3_at_22 rfl (⟨by rw [rowF, inB_nI (by omega), if_pos (decide_eq_true hj), nI_clamp (by omega)], rfl⟩)
def gthF (M : Mm) (sh : Int32) (ol : List Nat) : List Nat := ol.filter (fun p => bt sh p && tbs M p)
theorem tbs_congr {M M1 : Mm} (h : ∀ k, k ≠ 9 → k ≠ 10 → M1 k = M k) (a : Nat) : tbs M1 a = tbs M a := by
  simp only [tbs, h 1 (by decide) (by decide), h 2 (by decide) (by decide), h 4 (by decide) (by decide)]
theorem gthF_snoc {M : Mm} {sh : Int32} {ol : List Nat} {i : Nat} (h : i < ol.length) : gthF M sh (ol.take (i + 1)) = if bt sh (nth ol i) && tbs M (nth ol i) then gthF M sh (ol.take i) ++ [nth ol i] else gthF M sh (ol.take i) := by
  rw [take_snoc h, gthF, List.filter_append, ← gthF]
  cases hb : (bt sh (nth ol i) && tbs M (nth ol i)) <;> simp [List.filter, hb]
def Sm9 (M M1 : Mm) : Prop := (∀ k, k ≠ 9 → k ≠ 10 → M1 k = M k)

theorem s_X3_gather_k {M : Mm} (sh : Int32) {ol : List Nat} (ho : rowAt M 5 0 5 ol) (hb : ∀ x ∈ ol, x < ol.length) : ∀ d i (M1 : Mm) (v : Value), i + d = ol.length → Sm9 M M1 → rowAt M1 10 9 2 (gthF M sh (ol.take i)) → Ev XSh mX3_gather 7 [.ref 9, .int sh, .int (nI i), v] [] M1 (fun r M2 => r = none ∧ Sm9 M M2 ∧ rowAt M2 10 9 2 (gthF M sh ol))
  | 0, i, M1, v, h, hm, hr => by
    have hs1 : M1 0 5 = nI ol.length := by rw [hm 0 (by decide) (by decide)]; exact ho.1
    have hol := ho.2.1
    refine ev_iload_n 8 dX3_gather_7 rfl rfl ?_
    refine ev_aload_n 9 dX3_gather_8 rfl rfl ?_
    refine ev_getR 12 dX3_gather_9 rfl flX3_15 rfl rfl ?_
    refine ev_getIv 15 (nI ol.length) dX3_gather_12 rfl flX3_29 rfl rfl hs1 ?_
    refine ev_icmp_geN 18 70 dX3_gather_15 (by decide) rfl (by omega) (by omega) (fun c15 => ?_) (fun c15 => ?_)
    · exact ev_vret dX3_gather_70 rfl (⟨rfl, hm, by rw [List.take_of_length_le (by omega)] at hr; exact hr⟩)
    · omega
  | d + 1, i, M1, v, h, hm, hr => by
    have hs1 : M1 0 5 = nI ol.length := by rw [hm 0 (by decide) (by decide)]; exact ho.1
    have hol := ho.2.1
    have hx0 : nth ol i < ol.length := hb _ (getD_mem (by omega))
    have hx : nth ol i < 24 := by omega
    have hlen : (gthF M sh (ol.take i)).length ≤ i := Nat.le_trans (List.length_filter_le _ _) (by simp; omega)
    refine ev_iload_n 8 dX3_gather_7 rfl rfl ?_
    refine ev_aload_n 9 dX3_gather_8 rfl rfl ?_
    refine ev_getR 12 dX3_gather_9 rfl flX3_15 rfl rfl ?_
    refine ev_getIv 15 (nI ol.length) dX3_gather_12 rfl flX3_29 rfl rfl hs1 ?_
    refine ev_icmp_geN 18 70 dX3_gather_15 (by decide) rfl (by omega) (by omega) (fun c15 => ?_) (fun c15 => ?_)
    · omega
    · refine ev_aload_n 19 dX3_gather_18 rfl rfl ?_
      refine ev_getR 22 dX3_gather_19 rfl flX3_15 rfl rfl ?_
      refine ev_getR 25 dX3_gather_22 rfl flX3_32 rfl rfl ?_
      refine ev_iload_n 26 dX3_gather_25 rfl rfl ?_
      refine ev_iaN 27 (nI (nth ol i)) dX3_gather_26 rfl (by omega) (by decide) rfl (by rw [hm 5 (by decide) (by decide)]; exact ho.2.2 i (by omega)) ?_
      refine ev_istore_n 28 _ dX3_gather_27 (by decide) rfl rfl rfl ?_
      refine ev_iload_n 29 dX3_gather_28 rfl rfl ?_
      refine ev_iload_n 30 dX3_gather_29 rfl rfl ?_
      refine ev_cS2I _ M1 33 dX3_gather_30 mlX3_35 moX7_holds rfl smX7_holds (Nat.le_of_ble_eq_true rfl) (Nat.le_of_ble_eq_true rfl) rfl (s_holds _ _) ?_
      refine ev_if_eqB 36 64 dX3_gather_33 (by decide) rfl (fun c33 => ?_) (fun c33 => ?_)
      · have hbt : bt sh (nth ol i) = false := by rw [hB_nI hx] at c33; exact c33
        refine ev_iincN 67 _ dX3_gather_64 rfl (by decide) rfl rfl rfl ?_
        refine ev_goto 7 dX3_gather_67 (by decide) ?_
        exact s_X3_gather_k sh ho hb d (i + 1) M1 _ (by omega) hm (by rw [gthF_snoc (by omega), if_neg (by simp [hbt])]; exact hr)
      · have hbt : bt sh (nth ol i) = true := by rw [hB_nI hx] at c33; exact c33
        refine ev_aload_n 37 dX3_gather_36 rfl rfl ?_
        refine ev_iload_n 38 dX3_gather_37 rfl rfl ?_
        refine ev_cV1I _ M1 41 dX3_gather_38 mlX3_39 moX3_isToBeSaid rfl imX3_isToBeSaid ⟨_, _, rfl, rfl, rfl⟩ (Nat.le_of_ble_eq_true rfl) (Nat.le_of_ble_eq_true rfl) rfl (s_X3_isToBeSaid hol hs1 hx0) ?_
        refine ev_if_eqB 44 64 dX3_gather_41 (by decide) rfl (fun c41 => ?_) (fun c41 => ?_)
        · have htb : tbs M (nth ol i) = false := by rw [tbs_congr hm] at c41; exact c41
          refine ev_iincN 67 _ dX3_gather_64 rfl (by decide) rfl rfl rfl ?_
          refine ev_goto 7 dX3_gather_67 (by decide) ?_
          exact s_X3_gather_k sh ho hb d (i + 1) M1 _ (by omega) hm (by rw [gthF_snoc (by omega), if_neg (by simp [htb])]; exact hr)
        · have htb : tbs M (nth ol i) = true := by rw [tbs_congr hm] at c41; exact c41
          refine ev_aload_n 45 dX3_gather_44 rfl rfl ?_
          refine ev_getR 48 dX3_gather_45 rfl flX3_9 rfl rfl ?_
          refine ev_aload_n 49 dX3_gather_48 rfl rfl ?_
          refine ev_getIv 52 _ dX3_gather_49 rfl flX3_19 rfl rfl hr.1 ?_
          refine ev_iload_n 53 dX3_gather_52 rfl rfl ?_
          refine ev_iaS 54 dX3_gather_53 rfl (by omega) (by decide) rfl ?_
          refine ev_aload_n 55 dX3_gather_54 rfl rfl ?_
          refine ev_dup 56 dX3_gather_55 rfl rfl ?_
          refine ev_getIv 59 (nI (gthF M sh (ol.take i)).length) dX3_gather_56 rfl flX3_19 rfl rfl (by rw [mst_other _ _ _ (by decide)]; exact hr.1) ?_
          refine ev_iconst 60 (nI 1) dX3_gather_59 (by decide) rfl ?_
          refine ev_iaddN 61 dX3_gather_60 rfl ?_
          refine ev_putI 64 dX3_gather_61 rfl flX3_19 fiX3_2 rfl rfl ?_
          refine ev_iincN 67 _ dX3_gather_64 rfl (by decide) rfl rfl rfl ?_
          refine ev_goto 7 dX3_gather_67 (by decide) ?_
          refine s_X3_gather_k sh ho hb d (i + 1) _ _ (by omega) (fun k h9 h10 => by rw [mst_other _ _ _ h9, mst_other _ _ _ h10]; exact hm k h9 h10) ?_
          rw [gthF_snoc (by omega), if_pos (by simp only [hbt, htb]; rfl)]
          exact hr.push (by decide) (by omega)
theorem s_X3_gather {M : Mm} (sh : Int32) {ol : List Nat} (ho : rowAt M 5 0 5 ol) (hb : ∀ x ∈ ol, x < ol.length) : Ct XSh mX3_gather [.ref 9, .int sh] M (fun r M2 => r = none ∧ Sm9 M M2 ∧ rowAt M2 10 9 2 (gthF M sh ol)) := by
  show Ev _ _ 0 [.ref 9, .int sh, .null, .null] [] M _
  refine ev_aload_n 1 dX3_gather_0 rfl rfl ?_
  refine ev_iconst 2 (nI 0) dX3_gather_1 (by decide) rfl ?_
  refine ev_putI 5 dX3_gather_2 rfl flX3_19 fiX3_2 rfl rfl ?_
  refine ev_iconst 6 (nI 0) dX3_gather_5 (by decide) rfl ?_
  refine ev_istore_n 7 _ dX3_gather_6 (by decide) rfl rfl rfl ?_
  exact s_X3_gather_k sh ho hb ol.length 0 _ _ (by omega) (fun k h9 h10 => mst_other _ _ _ h9) ⟨by rw [mst_same, upd]; rfl, by simp [gthF], fun i hi => by simp [gthF] at hi⟩
