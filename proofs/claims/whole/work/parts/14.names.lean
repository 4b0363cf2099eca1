/-! Names -/
def nmAt (M : Mm) (w c p : Nat) (l : List Int32) : Prop := l.length ≤ 8 ∧ M c p = nI l.length ∧ ∀ i, i < l.length → M w (p * 8 + i) = l.getD i 0
def nmOK (M M' : Mm) (w c p : Nat) : Prop := (∀ k, k ≠ w → k ≠ c → M' k = M k) ∧ (∀ q, q ≠ p → M' c q = M c q) ∧ (∀ q i, q ≠ p → i < 8 → M' w (q * 8 + i) = M w (q * 8 + i))
theorem nmOK.rf (M : Mm) (w c p : Nat) : nmOK M M w c p := ⟨fun _ _ _ => rfl, fun _ _ => rfl, fun _ _ _ _ => rfl⟩
theorem nmOK.tr {M M1 M2 : Mm} {w c p : Nat} (h1 : nmOK M M1 w c p) (h2 : nmOK M1 M2 w c p) : nmOK M M2 w c p :=
  ⟨fun k a b => (h2.1 k a b).trans (h1.1 k a b), fun q a => (h2.2.1 q a).trans (h1.2.1 q a), fun q i a b => (h2.2.2 q i a b).trans (h1.2.2 q i a b)⟩
def addW (l : List Int32) (v : Int32) : List Int32 := if v = 0 then l else if l.length < 8 then l ++ [v] else l
theorem addW_le {l : List Int32} (v : Int32) (h : l.length ≤ 8) : (addW l v).length ≤ 8 := by
  unfold addW
  split
  · exact h
  · split
    · simp; omega
    · exact h
theorem nm_set0 {M : Mm} {w c p : Nat} (hwc : w ≠ c) : nmOK M (mst M c p (nI 0)) w c p ∧ nmAt (mst M c p (nI 0)) w c p [] := by
  refine ⟨⟨fun k a b => mst_other M _ _ b, fun q hq => by rw [mst_same, upd]; simp [hq], fun q i hq hi => by rw [mst_other M _ _ hwc]⟩, by simp, by rw [mst_same, upd]; simp, by simp⟩
theorem nm_put {M : Mm} {w c p : Nat} {l : List Int32} {v : Int32} (hwc : w ≠ c) (h : nmAt M w c p l) (hl : l.length < 8) :
    nmOK M (mst (mst M w (p * 8 + l.length) v) c p (nI (l.length + 1))) w c p ∧ nmAt (mst (mst M w (p * 8 + l.length) v) c p (nI (l.length + 1))) w c p (l ++ [v]) := by
  have hcw : c ≠ w := Ne.symm hwc
  refine ⟨⟨fun k a b => by rw [mst_other _ _ _ b, mst_other _ _ _ a], fun q hq => by rw [mst_same, upd, if_neg hq, mst_other _ _ _ hcw], fun q i hq hi => ?_⟩, by simp; omega, by rw [mst_same, upd]; simp, fun i hi => ?_⟩
  · rw [mst_other _ _ _ hwc, mst_same, upd, if_neg (by omega)]
  · rw [mst_other _ _ _ hwc, mst_same, upd]
    simp at hi
    by_cases e : i = l.length
    · subst e; simp
    · rw [if_neg (by omega), h.2.2 i (by omega)]
      simp [List.getElem?_append_left (show i < l.length by omega)]
def XNm (M M' : Mm) (p : Nat) (l : List Int32) : Prop := nmOK M M' 7 8 p ∧ nmAt M' 7 8 p l

theorem s_X1_add {M : Mm} {a : Nat} {l : List Int32} (v : Int32) (ha : a < 24) (hl : nmAt M 7 8 a l) : Ct XSh mX1_add [.ref 6, .int (nI a), .int v] M (fun r M2 => r = none ∧ XNm M M2 a (addW l v)) := by
  have hle := hl.1
  have hz : ∀ j, mst M 7 j v 8 a = nI l.length := fun j => by rw [mst_other _ _ _ (by decide)]; exact hl.2.1
  show Ev _ _ 0 [.ref 6, .int (nI a), .int v] [] M _
  refine ev_iload_n 1 dX1_add_0 rfl rfl ?_
  refine ev_if_eq 4 42 dX1_add_1 (by decide) rfl (fun c1 => ?_) (fun c1 => ?_)
  · exact ev_vret dX1_add_42 rfl (⟨rfl, nmOK.rf _ _ _ _, by rw [addW, if_pos c1]; exact hl⟩)
  · refine ev_aload_n 5 dX1_add_4 rfl rfl ?_
    refine ev_getR 8 dX1_add_5 rfl flX1_15 rfl rfl ?_
    refine ev_iload_n 9 dX1_add_8 rfl rfl ?_
    refine ev_iaN 10 _ dX1_add_9 rfl (by omega) (by decide) rfl hl.2.1 ?_
    refine ev_bipush 12 (nI 8) dX1_add_10 (by decide) rfl ?_
    refine ev_icmp_geN 15 42 dX1_add_12 (by decide) rfl (by omega) (by omega) (fun c12 => ?_) (fun c12 => ?_)
    · exact ev_vret dX1_add_42 rfl (⟨rfl, nmOK.rf _ _ _ _, by rw [addW, if_neg c1, if_neg (by omega)]; exact hl⟩)
    · refine ev_aload_n 16 dX1_add_15 rfl rfl ?_
      refine ev_getR 19 dX1_add_16 rfl flX1_9 rfl rfl ?_
      refine ev_iload_n 20 dX1_add_19 rfl rfl ?_
      refine ev_bipush 22 (nI 8) dX1_add_20 (by decide) rfl ?_
      refine ev_imulN 23 dX1_add_22 rfl ?_
      refine ev_aload_n 24 dX1_add_23 rfl rfl ?_
      refine ev_getR 27 dX1_add_24 rfl flX1_15 rfl rfl ?_
      refine ev_iload_n 28 dX1_add_27 rfl rfl ?_
      refine ev_iaN 29 _ dX1_add_28 rfl (by omega) (by decide) rfl hl.2.1 ?_
      refine ev_iaddN 30 dX1_add_29 rfl ?_
      refine ev_iload_n 31 dX1_add_30 rfl rfl ?_
      refine ev_iaS 32 dX1_add_31 rfl (by omega) (by decide) rfl ?_
      refine ev_aload_n 33 dX1_add_32 rfl rfl ?_
      refine ev_getR 36 dX1_add_33 rfl flX1_15 rfl rfl ?_
      refine ev_iload_n 37 dX1_add_36 rfl rfl ?_
      refine ev_dup2 38 dX1_add_37 rfl rfl rfl ?_
      refine ev_iaN 39 _ dX1_add_38 rfl (by omega) (by decide) rfl (hz _) ?_
      refine ev_iconst 40 (nI 1) dX1_add_39 (by decide) rfl ?_
      refine ev_iaddN 41 dX1_add_40 rfl ?_
      refine ev_iaS 42 dX1_add_41 rfl (by omega) (by decide) rfl ?_
      exact ev_vret dX1_add_42 rfl (⟨rfl, by rw [addW, if_neg c1, if_pos (by omega)]; exact nm_put (by decide) hl (by omega)⟩)
theorem s_X1_lengthOf {M : Mm} {a : Nat} (ha : a < 24) : Ct XSh mX1_lengthOf [.ref 6, .int (nI a)] M (RetI (M 8 a) M) := by
  show Ev _ _ 0 [.ref 6, .int (nI a)] [] M _
  refine ev_aload_n 1 dX1_lengthOf_0 rfl rfl ?_
  refine ev_getR 4 dX1_lengthOf_1 rfl flX1_15 rfl rfl ?_
  refine ev_iload_n 5 dX1_lengthOf_4 rfl rfl ?_
  refine ev_iaN 6 _ dX1_lengthOf_5 rfl (by omega) (by decide) rfl rfl ?_
  exact ev_iret dX1_lengthOf_6 rfl (⟨rfl, rfl⟩)
def wdF (l : List Int32) (k : Int32) : Int32 := if inB k l.length then l.getD k.toNatClampNeg 0 else 0
theorem s_X1_wordOf {M : Mm} {a : Nat} {l : List Int32} (k : Int32) (ha : a < 24) (hl : nmAt M 7 8 a l) : Ct XSh mX1_wordOf [.ref 6, .int (nI a), .int k] M (RetI (wdF l k) M) := by
  have hle := hl.1
  have hin : ¬ k < 0 → ¬ nI l.length ≤ k → inB k l.length = true := fun c1 c11 => decide_eq_true (by rw [int_lt0] at c1; rw [Int32.le_iff_toInt_le, nI_toInt (by omega)] at c11; omega)
  have hout : nI l.length ≤ k → inB k l.length = false := fun c11 => decide_eq_false (by rw [Int32.le_iff_toInt_le, nI_toInt (by omega)] at c11; omega)
  show Ev _ _ 0 [.ref 6, .int (nI a), .int k] [] M _
  refine ev_iload_n 1 dX1_wordOf_0 rfl rfl ?_
  refine ev_if_lt 4 28 dX1_wordOf_1 (by decide) rfl (fun c1 => ?_) (fun c1 => ?_)
  · refine ev_iconst 29 (nI 0) dX1_wordOf_28 (by decide) rfl ?_
    exact ev_iret dX1_wordOf_29 rfl (⟨by rw [wdF, if_neg (by rw [inB_lt c1]; decide)]; rfl, rfl⟩)
  · refine ev_iload_n 5 dX1_wordOf_4 rfl rfl ?_
    refine ev_aload_n 6 dX1_wordOf_5 rfl rfl ?_
    refine ev_getR 9 dX1_wordOf_6 rfl flX1_15 rfl rfl ?_
    refine ev_iload_n 10 dX1_wordOf_9 rfl rfl ?_
    refine ev_iaN 11 _ dX1_wordOf_10 rfl (by omega) (by decide) rfl hl.2.1 ?_
    refine ev_icmp_ge 14 28 dX1_wordOf_11 (by decide) rfl (fun c11 => ?_) (fun c11 => ?_)
    · refine ev_iconst 29 (nI 0) dX1_wordOf_28 (by decide) rfl ?_
      exact ev_iret dX1_wordOf_29 rfl (⟨by rw [wdF, if_neg (by rw [hout c11]; decide)]; rfl, rfl⟩)
    · obtain ⟨j, hj, rfl⟩ := inB_of (x := k) (n := l.length) (hin c1 c11) (by omega)
      refine ev_aload_n 15 dX1_wordOf_14 rfl rfl ?_
      refine ev_getR 18 dX1_wordOf_15 rfl flX1_9 rfl rfl ?_
      refine ev_iload_n 19 dX1_wordOf_18 rfl rfl ?_
      refine ev_bipush 21 (nI 8) dX1_wordOf_19 (by decide) rfl ?_
      refine ev_imulN 22 dX1_wordOf_21 rfl ?_
      refine ev_iload_n 23 dX1_wordOf_22 rfl rfl ?_
      refine ev_iaddN 24 dX1_wordOf_23 rfl ?_
      refine ev_iaN 25 _ dX1_wordOf_24 rfl (by omega) (by decide) rfl (hl.2.2 j hj) ?_
      refine ev_goto 29 dX1_wordOf_25 (by decide) ?_
      exact ev_iret dX1_wordOf_29 rfl (⟨by rw [wdF, inB_nI (by omega), if_pos (decide_eq_true hj), nI_clamp (by omega)], rfl⟩)
def alk (l1 l2 : List Int32) (k : Nat) : Bool := match k with
  | 0 => true
  | k + 1 => alk l1 l2 k && (l1.getD k 0 == l2.getD k 0)
theorem alk_no {l1 l2 : List Int32} {i : Nat} : ∀ {n : Nat}, i < n → ¬ l1.getD i 0 = l2.getD i 0 → alk l1 l2 n = false
  | 0, h, _ => by omega
  | n + 1, h, c => by
    by_cases e : i = n
    · subst e
      have : (l1.getD i 0 == l2.getD i 0) = false := by simpa using c
      rw [alk, this, Bool.and_false]
    · rw [alk, alk_no (by omega) c, Bool.false_and]
theorem s_X1_areAlike_k {M : Mm} {a b : Nat} {l1 l2 : List Int32} (ha : a < 24) (hb : b < 24) (h1 : nmAt M 7 8 a l1) (h2 : nmAt M 7 8 b l2) (he : l1.length = l2.length) : ∀ d i, i + d = l1.length → alk l1 l2 i = true → Ev XSh mX1_areAlike 19 [.ref 6, .int (nI a), .int (nI b), .int (nI i)] [] M (RetI (bI (alk l1 l2 l1.length)) M)
  | 0, i, h, hk => by
    have hle := h1.1
    have hi : l1.length = i := by omega
    rw [← hi] at hk ⊢
    refine ev_iload_n 20 dX1_areAlike_19 rfl rfl ?_
    refine ev_aload_n 21 dX1_areAlike_20 rfl rfl ?_
    refine ev_getR 24 dX1_areAlike_21 rfl flX1_15 rfl rfl ?_
    refine ev_iload_n 25 dX1_areAlike_24 rfl rfl ?_
    refine ev_iaN 26 _ dX1_areAlike_25 rfl (by omega) (by decide) rfl h1.2.1 ?_
    refine ev_icmp_geN 29 52 dX1_areAlike_26 (by decide) rfl (by omega) (by omega) (fun c26 => ?_) (fun c26 => ?_)
    · refine ev_iconst 53 (nI 1) dX1_areAlike_52 (by decide) rfl ?_
      exact ev_zret dX1_areAlike_53 rfl (Or.inr rfl) (⟨by rw [hk]; rfl, rfl⟩)
    · omega
  | d + 1, i, h, hk => by
    have hle := h1.1
    refine ev_iload_n 20 dX1_areAlike_19 rfl rfl ?_
    refine ev_aload_n 21 dX1_areAlike_20 rfl rfl ?_
    refine ev_getR 24 dX1_areAlike_21 rfl flX1_15 rfl rfl ?_
    refine ev_iload_n 25 dX1_areAlike_24 rfl rfl ?_
    refine ev_iaN 26 _ dX1_areAlike_25 rfl (by omega) (by decide) rfl h1.2.1 ?_
    refine ev_icmp_geN 29 52 dX1_areAlike_26 (by decide) rfl (by omega) (by omega) (fun c26 => ?_) (fun c26 => ?_)
    · omega
    · refine ev_aload_n 30 dX1_areAlike_29 rfl rfl ?_
      refine ev_iload_n 31 dX1_areAlike_30 rfl rfl ?_
      refine ev_iload_n 32 dX1_areAlike_31 rfl rfl ?_
      refine ev_cV2I (l1.getD i 0) M 35 dX1_areAlike_32 mlX1_59 moX1_wordOf rfl imX1_wordOf ⟨_, _, rfl, rfl, rfl⟩ (Nat.le_of_ble_eq_true rfl) (Nat.le_of_ble_eq_true rfl) rfl (by have := s_X1_wordOf (k := nI i) ha h1; rwa [wdF, inB_nI (by omega), if_pos (decide_eq_true (by omega)), nI_clamp (by omega)] at this) ?_
      refine ev_aload_n 36 dX1_areAlike_35 rfl rfl ?_
      refine ev_iload_n 37 dX1_areAlike_36 rfl rfl ?_
      refine ev_iload_n 38 dX1_areAlike_37 rfl rfl ?_
      refine ev_cV2I (l2.getD i 0) M 41 dX1_areAlike_38 mlX1_59 moX1_wordOf rfl imX1_wordOf ⟨_, _, rfl, rfl, rfl⟩ (Nat.le_of_ble_eq_true rfl) (Nat.le_of_ble_eq_true rfl) rfl (by have := s_X1_wordOf (k := nI i) hb h2; rwa [wdF, inB_nI (by omega), if_pos (decide_eq_true (by omega)), nI_clamp (by omega)] at this) ?_
      refine ev_icmp_eq 44 46 dX1_areAlike_41 (by decide) rfl (fun c41 => ?_) (fun c41 => ?_)
      · refine ev_iincN 49 _ dX1_areAlike_46 rfl (by decide) rfl rfl rfl ?_
        refine ev_goto 19 dX1_areAlike_49 (by decide) ?_
        exact s_X1_areAlike_k ha hb h1 h2 he d (i + 1) (by omega) (by rw [alk, hk, c41]; simp)
      · refine ev_iconst 45 (nI 0) dX1_areAlike_44 (by decide) rfl ?_
        exact ev_zret dX1_areAlike_45 rfl (Or.inl rfl) (⟨by rw [alk_no (by omega) c41]; rfl, rfl⟩)
theorem s_X1_areAlike {M : Mm} {a b : Nat} {l1 l2 : List Int32} (ha : a < 24) (hb : b < 24) (h1 : nmAt M 7 8 a l1) (h2 : nmAt M 7 8 b l2) : Ct XSh mX1_areAlike [.ref 6, .int (nI a), .int (nI b)] M (RetI (bI (decide (l1.length = l2.length) && alk l1 l2 l1.length)) M) := by
  have hle := h1.1
  have hle2 := h2.1
  show Ev _ _ 0 [.ref 6, .int (nI a), .int (nI b), .null] [] M _
  refine ev_aload_n 1 dX1_areAlike_0 rfl rfl ?_
  refine ev_getR 4 dX1_areAlike_1 rfl flX1_15 rfl rfl ?_
  refine ev_iload_n 5 dX1_areAlike_4 rfl rfl ?_
  refine ev_iaN 6 _ dX1_areAlike_5 rfl (by omega) (by decide) rfl h1.2.1 ?_
  refine ev_aload_n 7 dX1_areAlike_6 rfl rfl ?_
  refine ev_getR 10 dX1_areAlike_7 rfl flX1_15 rfl rfl ?_
  refine ev_iload_n 11 dX1_areAlike_10 rfl rfl ?_
  refine ev_iaN 12 _ dX1_areAlike_11 rfl (by omega) (by decide) rfl h2.2.1 ?_
  refine ev_icmp_eqN 15 17 dX1_areAlike_12 (by decide) rfl (by omega) (by omega) (fun c12 => ?_) (fun c12 => ?_)
  · refine ev_iconst 18 (nI 0) dX1_areAlike_17 (by decide) rfl ?_
    refine ev_istore_n 19 _ dX1_areAlike_18 (by decide) rfl rfl rfl ?_
    rw [decide_eq_true c12, Bool.true_and]
    exact s_X1_areAlike_k ha hb h1 h2 c12 l1.length 0 (by omega) rfl
  · refine ev_iconst 16 (nI 0) dX1_areAlike_15 (by decide) rfl ?_
    exact ev_zret dX1_areAlike_16 rfl (Or.inl rfl) (⟨by rw [decide_eq_false c12]; rfl, rfl⟩)
def ownW (M : Mm) (n : Nat) (l : List Int32) (s : Int32) : List Int32 := if inB s n then addW l (M 1 (s.toNatClampNeg * 18 + 0)) else l
theorem s_X1_addOwnOf {M : Mm} {a n : Nat} {l : List Int32} (s : Int32) (hn : n ≤ 24) (hsz : M 0 5 = nI n) (ha : a < 24) (hl : nmAt M 7 8 a l) : Ct XSh mX1_addOwnOf [.ref 6, .int (nI a), .int s] M (fun r M2 => r = none ∧ XNm M M2 a (ownW M n l s)) := by
  show Ev _ _ 0 [.ref 6, .int (nI a), .int s] [] M _
  refine ev_aload_n 1 dX1_addOwnOf_0 rfl rfl ?_
  refine ev_getR 4 dX1_addOwnOf_1 rfl flX1_18 rfl rfl ?_
  refine ev_iload_n 5 dX1_addOwnOf_4 rfl rfl ?_
  refine ev_cV1I _ M 8 dX1_addOwnOf_5 mlX1_55 moX2_has rfl imX2_has ⟨_, _, rfl, rfl, rfl⟩ (Nat.le_of_ble_eq_true rfl) (Nat.le_of_ble_eq_true rfl) rfl (s_X2_has hn hsz s) ?_
  refine ev_if_eqB 11 25 dX1_addOwnOf_8 (by decide) rfl (fun c8 => ?_) (fun c8 => ?_)
  · exact ev_vret dX1_addOwnOf_25 rfl (⟨rfl, nmOK.rf _ _ _ _, by rw [ownW, if_neg (by rw [c8]; decide)]; exact hl⟩)
  · obtain ⟨j, hj, rfl⟩ := inB_of c8 (by omega)
    refine ev_aload_n 12 dX1_addOwnOf_11 rfl rfl ?_
    refine ev_iload_n 13 dX1_addOwnOf_12 rfl rfl ?_
    refine ev_aload_n 14 dX1_addOwnOf_13 rfl rfl ?_
    refine ev_getR 17 dX1_addOwnOf_14 rfl flX1_18 rfl rfl ?_
    refine ev_iload_n 18 dX1_addOwnOf_17 rfl rfl ?_
    refine ev_iconst 19 (nI 0) dX1_addOwnOf_18 (by decide) rfl ?_
    refine ev_cV2I _ M 22 dX1_addOwnOf_19 mlX1_22 moX2_get rfl imX2_get ⟨_, _, rfl, rfl, rfl⟩ (Nat.le_of_ble_eq_true rfl) (Nat.le_of_ble_eq_true rfl) rfl (s_X2_get (a := j) (b := 0) (by omega) (by omega)) ?_
    refine ev_cV2 25 dX1_addOwnOf_22 mlX1_32 moX1_add rfl imX1_add ⟨_, _, rfl, rfl, rfl⟩ (Nat.le_of_ble_eq_true rfl) (Nat.le_of_ble_eq_true rfl) rfl (s_X1_add _ ha hl) ?_
    rintro r M2 ⟨rfl, h2⟩
    exact ev_vret dX1_addOwnOf_25 rfl (⟨rfl, by rw [ownW, if_pos c8, nI_clamp (by omega)]; exact h2⟩)
def txtF (M : Mm) (n : Nat) (tx : Int32) (l : List Int32) : Nat → List Int32
  | 0 => l
  | k + 1 => if hB tx (M 5 k) then ownW M n (txtF M n tx l k) (M 5 k) else txtF M n tx l k
theorem s_X1_addTextsIn_k {M : Mm} {a n : Nat} {l : List Int32} (hn : n ≤ 24) (hsz : M 0 5 = nI n) (ha : a < 24) (tx sh : Int32) : ∀ d i (M1 : Mm), i + d = n → XNm M M1 a (txtF M n tx l i) → Ev XSh mX1_addTextsIn 25 [.ref 6, .int (nI a), .int sh, .int tx, .int (nI i)] [] M1 (fun r M2 => r = none ∧ XNm M M2 a (txtF M n tx l n))
  | 0, i, M1, h, hx => by
    have hs1 : M1 0 5 = nI n := by rw [hx.1.1 0 (by decide) (by decide)]; exact hsz
    have hi : n = i := by omega
    subst hi
    refine ev_iload 27 dX1_addTextsIn_25 rfl rfl ?_
    refine ev_aload_n 28 dX1_addTextsIn_27 rfl rfl ?_
    refine ev_getR 31 dX1_addTextsIn_28 rfl flX1_18 rfl rfl ?_
    refine ev_getIv 34 (nI n) dX1_addTextsIn_31 rfl flX1_44 rfl rfl hs1 ?_
    refine ev_icmp_geN 37 75 dX1_addTextsIn_34 (by decide) rfl (by omega) (by omega) (fun c34 => ?_) (fun c34 => ?_)
    · exact ev_vret dX1_addTextsIn_75 rfl (⟨rfl, hx⟩)
    · omega
  | d + 1, i, M1, h, hx => by
    have hs1 : M1 0 5 = nI n := by rw [hx.1.1 0 (by decide) (by decide)]; exact hsz
    refine ev_iload 27 dX1_addTextsIn_25 rfl rfl ?_
    refine ev_aload_n 28 dX1_addTextsIn_27 rfl rfl ?_
    refine ev_getR 31 dX1_addTextsIn_28 rfl flX1_18 rfl rfl ?_
    refine ev_getIv 34 (nI n) dX1_addTextsIn_31 rfl flX1_44 rfl rfl hs1 ?_
    refine ev_icmp_geN 37 75 dX1_addTextsIn_34 (by decide) rfl (by omega) (by omega) (fun c34 => ?_) (fun c34 => ?_)
    · omega
    · refine ev_iload_n 38 dX1_addTextsIn_37 rfl rfl ?_
      refine ev_aload_n 39 dX1_addTextsIn_38 rfl rfl ?_
      refine ev_getR 42 dX1_addTextsIn_39 rfl flX1_18 rfl rfl ?_
      refine ev_getR 45 dX1_addTextsIn_42 rfl flX1_48 rfl rfl ?_
      refine ev_iload 47 dX1_addTextsIn_45 rfl rfl ?_
      refine ev_iaN 48 (M 5 i) dX1_addTextsIn_47 rfl (by omega) (by decide) rfl (by rw [hx.1.1 5 (by decide) (by decide)]) ?_
      refine ev_cS2I _ M1 51 dX1_addTextsIn_48 mlX1_51 moX7_holds rfl smX7_holds (Nat.le_of_ble_eq_true rfl) (Nat.le_of_ble_eq_true rfl) rfl (s_holds _ _) ?_
      refine ev_if_eqB 54 69 dX1_addTextsIn_51 (by decide) rfl (fun c51 => ?_) (fun c51 => ?_)
      · refine ev_iincN 72 _ dX1_addTextsIn_69 rfl (by decide) rfl rfl rfl ?_
        refine ev_goto 25 dX1_addTextsIn_72 (by decide) ?_
        exact s_X1_addTextsIn_k hn hsz ha tx sh d (i + 1) M1 (by omega) (by rw [txtF, if_neg (by rw [c51]; decide)]; exact hx)
      · refine ev_aload_n 55 dX1_addTextsIn_54 rfl rfl ?_
        refine ev_iload_n 56 dX1_addTextsIn_55 rfl rfl ?_
        refine ev_aload_n 57 dX1_addTextsIn_56 rfl rfl ?_
        refine ev_getR 60 dX1_addTextsIn_57 rfl flX1_18 rfl rfl ?_
        refine ev_getR 63 dX1_addTextsIn_60 rfl flX1_48 rfl rfl ?_
        refine ev_iload 65 dX1_addTextsIn_63 rfl rfl ?_
        refine ev_iaN 66 (M 5 i) dX1_addTextsIn_65 rfl (by omega) (by decide) rfl (by rw [hx.1.1 5 (by decide) (by decide)]) ?_
        refine ev_cV2 69 dX1_addTextsIn_66 mlX1_28 moX1_addOwnOf rfl imX1_addOwnOf ⟨_, _, rfl, rfl, rfl⟩ (Nat.le_of_ble_eq_true rfl) (Nat.le_of_ble_eq_true rfl) rfl (s_X1_addOwnOf (M 5 i) hn hs1 ha hx.2) ?_
        rintro r M2 ⟨rfl, h2⟩
        refine ev_iincN 72 _ dX1_addTextsIn_69 rfl (by decide) rfl rfl rfl ?_
        refine ev_goto 25 dX1_addTextsIn_72 (by decide) ?_
        exact s_X1_addTextsIn_k hn hsz ha tx sh d (i + 1) M2 (by omega) ⟨hx.1.tr h2.1, by rw [txtF, if_pos c51]; simpa only [ownW, hx.1.1 1 (by decide) (by decide)] using h2.2⟩
theorem s_X1_addTextsIn {M : Mm} {a n : Nat} {l : List Int32} (hn : n ≤ 24) (hsz : M 0 5 = nI n) (ha : a < 24) (sh : Int32) (hl : nmAt M 7 8 a l) : Ct XSh mX1_addTextsIn [.ref 6, .int (nI a), .int sh] M (fun r M2 => r = none ∧ XNm M M2 a (txtF M n ((M 3 a &&& M 4 1) &&& sh) l n)) := by
  show Ev _ _ 0 [.ref 6, .int (nI a), .int sh, .null, .null] [] M _
  refine ev_aload_n 1 dX1_addTextsIn_0 rfl rfl ?_
  refine ev_getR 4 dX1_addTextsIn_1 rfl flX1_18 rfl rfl ?_
  refine ev_getR 7 dX1_addTextsIn_4 rfl flX1_38 rfl rfl ?_
  refine ev_iload_n 8 dX1_addTextsIn_7 rfl rfl ?_
  refine ev_iaN 9 _ dX1_addTextsIn_8 rfl (by omega) (by decide) rfl rfl ?_
  refine ev_aload_n 10 dX1_addTextsIn_9 rfl rfl ?_
  refine ev_getR 13 dX1_addTextsIn_10 rfl flX1_18 rfl rfl ?_
  refine ev_getR 16 dX1_addTextsIn_13 rfl flX1_41 rfl rfl ?_
  refine ev_iconst 17 (nI 1) dX1_addTextsIn_16 (by decide) rfl ?_
  refine ev_iaN 18 _ dX1_addTextsIn_17 rfl (by decide) (by decide) rfl rfl ?_
  refine ev_iand 19 dX1_addTextsIn_18 rfl ?_
  refine ev_iload_n 20 dX1_addTextsIn_19 rfl rfl ?_
  refine ev_iand 21 dX1_addTextsIn_20 rfl ?_
  refine ev_istore_n 22 _ dX1_addTextsIn_21 (by decide) rfl rfl rfl ?_
  refine ev_iconst 23 (nI 0) dX1_addTextsIn_22 (by decide) rfl ?_
  refine ev_istore 25 _ dX1_addTextsIn_23 (by decide) rfl rfl rfl ?_
  exact s_X1_addTextsIn_k hn hsz ha _ sh n 0 M (by omega) ⟨nmOK.rf _ _ _ _, hl⟩
def nm1 (M : Mm) (n a : Nat) : List Int32 := ownW M n (ownW M n [] (M 1 (a * 18 + 3))) (M 1 (a * 18 + 4))
def nmE (l l2 : List Int32) : List Int32 := if l.length = 0 then l2 else l
def nm3 (M : Mm) (n a : Nat) : List Int32 := nmE (nmE (nm1 M n a) (addW (nm1 M n a) (M 1 (a * 18 + 1)))) (addW (nmE (nm1 M n a) (addW (nm1 M n a) (M 1 (a * 18 + 1)))) (M 1 (a * 18 + 0)))
def nm4 (M : Mm) (n a : Nat) (sh : Int32) : List Int32 := if (nm3 M n a).length = 0 ∧ M 1 (a * 18 + 10) = nI 2 then txtF M n ((M 3 a &&& M 4 1) &&& sh) (nm3 M n a) n else nm3 M n a
def nmF (M : Mm) (n a : Nat) (sh : Int32) : List Int32 := nmE (nm4 M n a sh) (addW (nm4 M n a sh) (M 1 (a * 18 + 2)))
theorem XNm.len {M M' : Mm} {p : Nat} {l : List Int32} (h : XNm M M' p l) : l.length ≤ 8 := h.2.1
theorem XNm.add {M M1 M2 : Mm} {p : Nat} {l l2 : List Int32} (h : XNm M M1 p l) (h2 : XNm M1 M2 p l2) : XNm M M2 p l2 := ⟨h.1.tr h2.1, h2.2⟩
theorem txtF_congr {M M1 : Mm} (h1 : M1 1 = M 1) (h5 : M1 5 = M 5) (n : Nat) (tx : Int32) (l : List Int32) : ∀ k, txtF M1 n tx l k = txtF M n tx l k
  | 0 => rfl
  | k + 1 => by rw [txtF, txtF, txtF_congr h1 h5 n tx l k, h5]; simp only [ownW, h1]
theorem s_X1_compose_110 {M M1 : Mm} {a : Nat} {l : List Int32} (sh : Int32) (ha : a < 24) (hx : XNm M M1 a l) : Ev XSh mX1_compose 110 [.ref 6, .int (nI a), .int sh] [] M1 (fun r M2 => r = none ∧ XNm M M2 a (nmE l (addW l (M 1 (a * 18 + 2))))) := by
  have hle := hx.len
  refine ev_aload_n 111 dX1_compose_110 rfl rfl ?_
  refine ev_getR 114 dX1_compose_111 rfl flX1_15 rfl rfl ?_
  refine ev_iload_n 115 dX1_compose_114 rfl rfl ?_
  refine ev_iaN 116 _ dX1_compose_115 rfl (by omega) (by decide) rfl hx.2.2.1 ?_
  refine ev_if_neN 119 133 dX1_compose_116 (by decide) rfl (by omega) (fun c116 => ?_) (fun c116 => ?_)
  · exact ev_vret dX1_compose_133 rfl (⟨rfl, by first | (rw [nmE, if_neg c116]; exact hx) | (rw [nmE, if_pos c116]; exact hx.add h2)⟩)
  · refine ev_aload_n 120 dX1_compose_119 rfl rfl ?_
    refine ev_iload_n 121 dX1_compose_120 rfl rfl ?_
    refine ev_aload_n 122 dX1_compose_121 rfl rfl ?_
    refine ev_getR 125 dX1_compose_122 rfl flX1_18 rfl rfl ?_
    refine ev_iload_n 126 dX1_compose_125 rfl rfl ?_
    refine ev_iconst 127 (nI 2) dX1_compose_126 (by decide) rfl ?_
    refine ev_cV2I (M 1 (a * 18 + 2)) M1 130 dX1_compose_127 mlX1_22 moX2_get rfl imX2_get ⟨_, _, rfl, rfl, rfl⟩ (Nat.le_of_ble_eq_true rfl) (Nat.le_of_ble_eq_true rfl) rfl (by rw [← hx.1.1 1 (by decide) (by decide)]; exact s_X2_get (a := a) (b := 2) ha (by omega)) ?_
    refine ev_cV2 133 dX1_compose_130 mlX1_32 moX1_add rfl imX1_add ⟨_, _, rfl, rfl, rfl⟩ (Nat.le_of_ble_eq_true rfl) (Nat.le_of_ble_eq_true rfl) rfl (s_X1_add _ ha hx.2) ?_
    rintro r M2 ⟨rfl, h2⟩
    exact ev_vret dX1_compose_133 rfl (⟨rfl, by first | (rw [nmE, if_neg c116]; exact hx) | (rw [nmE, if_pos c116]; exact hx.add h2)⟩)
theorem s_X1_compose_81 {M M1 : Mm} {a n : Nat} {l : List Int32} (sh : Int32) (hn : n ≤ 24) (hsz : M 0 5 = nI n) (ha : a < 24) (hx : XNm M M1 a l) : Ev XSh mX1_compose 81 [.ref 6, .int (nI a), .int sh] [] M1 (fun r M2 => r = none ∧ XNm M M2 a (nmE (if l.length = 0 ∧ M 1 (a * 18 + 10) = nI 2 then txtF M n ((M 3 a &&& M 4 1) &&& sh) l n else l) (addW (if l.length = 0 ∧ M 1 (a * 18 + 10) = nI 2 then txtF M n ((M 3 a &&& M 4 1) &&& sh) l n else l) (M 1 (a * 18 + 2))))) := by
  have hle := hx.len
  have hs1 : M1 0 5 = nI n := by rw [hx.1.1 0 (by decide) (by decide)]; exact hsz
  refine ev_aload_n 82 dX1_compose_81 rfl rfl ?_
  refine ev_getR 85 dX1_compose_82 rfl flX1_15 rfl rfl ?_
  refine ev_iload_n 86 dX1_compose_85 rfl rfl ?_
  refine ev_iaN 87 _ dX1_compose_86 rfl (by omega) (by decide) rfl hx.2.2.1 ?_
  refine ev_if_neN 90 110 dX1_compose_87 (by decide) rfl (by omega) (fun c87 => ?_) (fun c87 => ?_)
  · rw [if_neg (fun z => c87 z.1)]
    exact s_X1_compose_110 sh ha hx
  · refine ev_aload_n 91 dX1_compose_90 rfl rfl ?_
    refine ev_getR 94 dX1_compose_91 rfl flX1_18 rfl rfl ?_
    refine ev_iload_n 95 dX1_compose_94 rfl rfl ?_
    refine ev_bipush 97 (nI 10) dX1_compose_95 (by decide) rfl ?_
    refine ev_cV2I (M 1 (a * 18 + 10)) M1 100 dX1_compose_97 mlX1_22 moX2_get rfl imX2_get ⟨_, _, rfl, rfl, rfl⟩ (Nat.le_of_ble_eq_true rfl) (Nat.le_of_ble_eq_true rfl) rfl (by rw [← hx.1.1 1 (by decide) (by decide)]; exact s_X2_get (a := a) (b := 10) ha (by omega)) ?_
    refine ev_iconst 101 (nI 2) dX1_compose_100 (by decide) rfl ?_
    refine ev_icmp_ne 104 110 dX1_compose_101 (by decide) rfl (fun c101 => ?_) (fun c101 => ?_)
    · rw [if_neg (fun z => c101 z.2)]
      exact s_X1_compose_110 sh ha hx
    · refine ev_aload_n 105 dX1_compose_104 rfl rfl ?_
      refine ev_iload_n 106 dX1_compose_105 rfl rfl ?_
      refine ev_iload_n 107 dX1_compose_106 rfl rfl ?_
      refine ev_cV2 110 dX1_compose_107 mlX1_35 moX1_addTextsIn rfl imX1_addTextsIn ⟨_, _, rfl, rfl, rfl⟩ (Nat.le_of_ble_eq_true rfl) (Nat.le_of_ble_eq_true rfl) rfl (s_X1_addTextsIn hn hs1 ha sh hx.2) ?_
      rintro r M2 ⟨rfl, h2⟩
      rw [if_pos ⟨c87, c101⟩]
      refine s_X1_compose_110 sh ha (hx.add ?_)
      have e := txtF_congr (hx.1.1 1 (by decide) (by decide)) (hx.1.1 5 (by decide) (by decide)) n ((M 3 a &&& M 4 1) &&& sh) l n
      rw [hx.1.1 3 (by decide) (by decide), hx.1.1 4 (by decide) (by decide), e] at h2
      exact h2
theorem s_X1_compose_58 {M M1 : Mm} {a n : Nat} {l : List Int32} (sh : Int32) {Q : Pst} (hn : n ≤ 24) (hsz : M 0 5 = nI n) (ha : a < 24) (hx : XNm M M1 a l) (k : ∀ M2, XNm M M2 a (nmE l (addW l (M 1 (a * 18 + 0)))) → Ev XSh mX1_compose 81 [.ref 6, .int (nI a), .int sh] [] M2 Q) : Ev XSh mX1_compose 58 [.ref 6, .int (nI a), .int sh] [] M1 Q := by
  have hle := hx.len
  refine ev_aload_n 59 dX1_compose_58 rfl rfl ?_
  refine ev_getR 62 dX1_compose_59 rfl flX1_15 rfl rfl ?_
  refine ev_iload_n 63 dX1_compose_62 rfl rfl ?_
  refine ev_iaN 64 _ dX1_compose_63 rfl (by omega) (by decide) rfl hx.2.2.1 ?_
  refine ev_if_neN 67 81 dX1_compose_64 (by decide) rfl (by omega) (fun c64 => ?_) (fun c64 => ?_)
  · exact k _ (by rw [nmE, if_neg c64]; exact hx)
  · refine ev_aload_n 68 dX1_compose_67 rfl rfl ?_
    refine ev_iload_n 69 dX1_compose_68 rfl rfl ?_
    refine ev_aload_n 70 dX1_compose_69 rfl rfl ?_
    refine ev_getR 73 dX1_compose_70 rfl flX1_18 rfl rfl ?_
    refine ev_iload_n 74 dX1_compose_73 rfl rfl ?_
    refine ev_iconst 75 (nI 0) dX1_compose_74 (by decide) rfl ?_
    refine ev_cV2I (M 1 (a * 18 + 0)) M1 78 dX1_compose_75 mlX1_22 moX2_get rfl imX2_get ⟨_, _, rfl, rfl, rfl⟩ (Nat.le_of_ble_eq_true rfl) (Nat.le_of_ble_eq_true rfl) rfl (by rw [← hx.1.1 1 (by decide) (by decide)]; exact s_X2_get (a := a) (b := 0) ha (by omega)) ?_
    refine ev_cV2 81 dX1_compose_78 mlX1_32 moX1_add rfl imX1_add ⟨_, _, rfl, rfl, rfl⟩ (Nat.le_of_ble_eq_true rfl) (Nat.le_of_ble_eq_true rfl) rfl (s_X1_add _ ha hx.2) ?_
    rintro r M2 ⟨rfl, h2⟩
    exact k _ (by rw [nmE, if_pos c64]; exact hx.add h2)
theorem s_X1_compose_35 {M M1 : Mm} {a n : Nat} {l : List Int32} (sh : Int32) {Q : Pst} (hn : n ≤ 24) (hsz : M 0 5 = nI n) (ha : a < 24) (hx : XNm M M1 a l) (k : ∀ M2, XNm M M2 a (nmE l (addW l (M 1 (a * 18 + 1)))) → Ev XSh mX1_compose 58 [.ref 6, .int (nI a), .int sh] [] M2 Q) : Ev XSh mX1_compose 35 [.ref 6, .int (nI a), .int sh] [] M1 Q := by
  have hle := hx.len
  refine ev_aload_n 36 dX1_compose_35 rfl rfl ?_
  refine ev_getR 39 dX1_compose_36 rfl flX1_15 rfl rfl ?_
  refine ev_iload_n 40 dX1_compose_39 rfl rfl ?_
  refine ev_iaN 41 _ dX1_compose_40 rfl (by omega) (by decide) rfl hx.2.2.1 ?_
  refine ev_if_neN 44 58 dX1_compose_41 (by decide) rfl (by omega) (fun c41 => ?_) (fun c41 => ?_)
  · exact k _ (by rw [nmE, if_neg c41]; exact hx)
  · refine ev_aload_n 45 dX1_compose_44 rfl rfl ?_
    refine ev_iload_n 46 dX1_compose_45 rfl rfl ?_
    refine ev_aload_n 47 dX1_compose_46 rfl rfl ?_
    refine ev_getR 50 dX1_compose_47 rfl flX1_18 rfl rfl ?_
    refine ev_iload_n 51 dX1_compose_50 rfl rfl ?_
    refine ev_iconst 52 (nI 1) dX1_compose_51 (by decide) rfl ?_
    refine ev_cV2I (M 1 (a * 18 + 1)) M1 55 dX1_compose_52 mlX1_22 moX2_get rfl imX2_get ⟨_, _, rfl, rfl, rfl⟩ (Nat.le_of_ble_eq_true rfl) (Nat.le_of_ble_eq_true rfl) rfl (by rw [← hx.1.1 1 (by decide) (by decide)]; exact s_X2_get (a := a) (b := 1) ha (by omega)) ?_
    refine ev_cV2 58 dX1_compose_55 mlX1_32 moX1_add rfl imX1_add ⟨_, _, rfl, rfl, rfl⟩ (Nat.le_of_ble_eq_true rfl) (Nat.le_of_ble_eq_true rfl) rfl (s_X1_add _ ha hx.2) ?_
    rintro r M2 ⟨rfl, h2⟩
    exact k _ (by rw [nmE, if_pos c41]; exact hx.add h2)
theorem s_X1_compose {M : Mm} {a n : Nat} (sh : Int32) (hn : n ≤ 24) (hsz : M 0 5 = nI n) (ha : a < 24) : Ct XSh mX1_compose [.ref 6, .int (nI a), .int sh] M (fun r M2 => r = none ∧ XNm M M2 a (nmF M n a sh)) := by
  show Ev _ _ 0 [.ref 6, .int (nI a), .int sh] [] M _
  refine ev_aload_n 1 dX1_compose_0 rfl rfl ?_
  refine ev_getR 4 dX1_compose_1 rfl flX1_15 rfl rfl ?_
  refine ev_iload_n 5 dX1_compose_4 rfl rfl ?_
  refine ev_iconst 6 (nI 0) dX1_compose_5 (by decide) rfl ?_
  refine ev_iaS 7 dX1_compose_6 rfl (by omega) (by decide) rfl ?_
  obtain ⟨M1, hM1⟩ : ∃ y, y = mst M 8 a (nI 0) := ⟨_, rfl⟩
  refine ev_eqM hM1.symm ?_
  have hx : XNm M M1 a [] := by rw [hM1]; exact nm_set0 (by decide)
  have hs1 : M1 0 5 = nI n := by rw [hx.1.1 0 (by decide) (by decide)]; exact hsz
  refine ev_aload_n 8 dX1_compose_7 rfl rfl ?_
  refine ev_iload_n 9 dX1_compose_8 rfl rfl ?_
  refine ev_aload_n 10 dX1_compose_9 rfl rfl ?_
  refine ev_getR 13 dX1_compose_10 rfl flX1_18 rfl rfl ?_
  refine ev_iload_n 14 dX1_compose_13 rfl rfl ?_
  refine ev_iconst 15 (nI 3) dX1_compose_14 (by decide) rfl ?_
  refine ev_cV2I (M 1 (a * 18 + 3)) M1 18 dX1_compose_15 mlX1_22 moX2_get rfl imX2_get ⟨_, _, rfl, rfl, rfl⟩ (Nat.le_of_ble_eq_true rfl) (Nat.le_of_ble_eq_true rfl) rfl (by rw [← hx.1.1 1 (by decide) (by decide)]; exact s_X2_get (a := a) (b := 3) ha (by omega)) ?_
  refine ev_cV2 21 dX1_compose_18 mlX1_28 moX1_addOwnOf rfl imX1_addOwnOf ⟨_, _, rfl, rfl, rfl⟩ (Nat.le_of_ble_eq_true rfl) (Nat.le_of_ble_eq_true rfl) rfl (s_X1_addOwnOf _ hn hs1 ha hx.2) ?_
  rintro r M3 ⟨rfl, h3⟩
  replace hx : XNm M M3 a (ownW M n [] (M 1 (a * 18 + 3))) := by
    have := hx.add h3
    simpa only [ownW, hx.1.1 1 (by decide) (by decide)] using this
  have hs3 : M3 0 5 = nI n := by rw [hx.1.1 0 (by decide) (by decide)]; exact hsz
  refine ev_aload_n 22 dX1_compose_21 rfl rfl ?_
  refine ev_iload_n 23 dX1_compose_22 rfl rfl ?_
  refine ev_aload_n 24 dX1_compose_23 rfl rfl ?_
  refine ev_getR 27 dX1_compose_24 rfl flX1_18 rfl rfl ?_
  refine ev_iload_n 28 dX1_compose_27 rfl rfl ?_
  refine ev_iconst 29 (nI 4) dX1_compose_28 (by decide) rfl ?_
  refine ev_cV2I (M 1 (a * 18 + 4)) M3 32 dX1_compose_29 mlX1_22 moX2_get rfl imX2_get ⟨_, _, rfl, rfl, rfl⟩ (Nat.le_of_ble_eq_true rfl) (Nat.le_of_ble_eq_true rfl) rfl (by rw [← hx.1.1 1 (by decide) (by decide)]; exact s_X2_get (a := a) (b := 4) ha (by omega)) ?_
  refine ev_cV2 35 dX1_compose_32 mlX1_28 moX1_addOwnOf rfl imX1_addOwnOf ⟨_, _, rfl, rfl, rfl⟩ (Nat.le_of_ble_eq_true rfl) (Nat.le_of_ble_eq_true rfl) rfl (s_X1_addOwnOf _ hn hs3 ha hx.2) ?_
  rintro r M5 ⟨rfl, h5⟩
  replace hx : XNm M M5 a (nm1 M n a) := by
    have := hx.add h5
    simpa only [nm1, ownW, hx.1.1 1 (by decide) (by decide)] using this
  exact s_X1_compose_35 sh hn hsz ha hx (fun M6 h6 => s_X1_compose_58 sh hn hsz ha h6 (fun M7 h7 => s_X1_compose_81 sh hn hsz ha h7))
