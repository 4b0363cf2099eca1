/-! Names -/
def nmAt (M : Mm) (w c p : Nat) (l : List Int32) : Prop := l.length ≤ 8 ∧ M c p = nI l.length ∧ ∀ i, i < l.length → M w (p * 8 + i) = l.getD i 0
def nmOK (M M' : Mm) (w c p : Nat) : Prop := (∀ k, k ≠ w → k ≠ c → M' k = M k) ∧ (∀ q, q ≠ p → M' c q = M c q) ∧ (∀ q i, q ≠ p → i < 8 → M' w (q * 8 + i) = M w (q * 8 + i))
theorem nmOK.rf (M : Mm) (w c p : Nat) : nmOK M M w c p := ⟨fun _ _ _ => rfl, fun _ _ => rfl, fun _ _ _ _ => rfl⟩
theorem nmOK.tr {M M1 M2 : Mm} {w c p : Nat} (h1 : nmOK M M1 w c p) (h2 : nmOK M1 M2 w c p) : nmOK M M2 w c p :=
  ⟨fun k a b => (h2.1 k a b).trans (h1.1 k a b), fun q a => (h2.2.1 q a).trans (h1.2.1 q a), fun q i a b => (h2.2.2 q i a b).trans (h1.2.2 q i a b)⟩
def addW (l : List Int32) (v : Int32) : List Int32 := if v = 0 then l else if l.length < 8 then l ++ [v] else l
theorem addW_le {l : List Int32} (v : Int32) (h : l.length ≤ 8) : (addW l v).length ≤ 8 := by
  unfold addW
  split
  · exact h
  · split
    · simp; omega
    · exact h
theorem nm_set0 {M : Mm} {w c p : Nat} (hwc : w ≠ c) : nmOK M (mst M c p (nI 0)) w c p ∧ nmAt (mst M c p (nI 0)) w c p [] := by
  refine ⟨⟨fun k a b => mst_other M _ _ b, fun q hq => by rw [mst_same, upd]; simp [hq], fun q i hq hi => by rw [mst_other M _ _ hwc]⟩, by simp, by rw [mst_same, upd]; simp, by simp⟩
theorem nm_put {M : Mm} {w c p : Nat} {l : List Int32} {v : Int32} (hwc : w ≠ c) (h : nmAt M w c p l) (hl : l.length < 8) :
    nmOK M (mst (mst M w (p * 8 + l.length) v) c p (nI (l.length + 1))) w c p ∧ nmAt (mst (mst M w (p * 8 + l.length) v) c p (nI (l.length + 1))) w c p (l ++ [v]) := by
  have hcw : c ≠ w := Ne.symm hwc
  refine ⟨⟨fun k a b => by rw [mst_other _ _ _ b, mst_other _ _ _ a], fun q hq => by rw [mst_same, upd, if_neg hq, mst_other _ _ _ hcw], fun q i hq hi => ?_⟩, by simp; omega, by rw [mst_same, upd]; simp, fun i hi => ?_⟩
  · rw [mst_other _ _ _ hwc, mst_same, upd, if_neg (by omega)]
  · rw [mst_other _ _ _ hwc, mst_same, upd]
    simp at hi
    by_cases e : i = l.length
    · subst e; simp
    · rw [if_neg (by omega), h.2.2 i (by omega)]
      simp [List.getElem?_append_left (show i < l.length by omega)]
def XNm (M M' : Mm) (p : Nat) (l : List Int32) : Prop := nmOK M M' 7 8 p ∧ nmAt M' 7 8 p l

theorem s_X1_add {M : Mm} {a n : Nat} {l : List Int32} (v : Int32) (hn : n ≤ 24) (hsz : M 0 5 = nI n) (ha : a < n) (hl : nmAt M 7 8 a l) : Ct XSh mX1_add [.ref 6, .int (nI a), .int v] M (fun r M2 => r = none ∧ XNm M M2 a (addW l v)) := by
  have hle := hl.1
  have hz : ∀ j, mst M 7 j v 8 a = nI l.length := fun j => by rw [mst_other _ _ _ (by decide)]; exact hl.2.1
  show Ev _ _ 0 [.ref 6, .int (nI a), .int v] [] M _
  refine ev_iload_n 1 dX1_add_0 rfl rfl ?_
  refine ev_if_eq 4 53 dX1_add_1 (by decide) rfl (fun c1 => ?_) (fun c1 => ?_)
  · exact ev_vret dX1_add_53 rfl (⟨rfl, nmOK.rf _ _ _ _, by rw [addW, if_pos c1]; exact hl⟩)
  · refine ev_aload_n 5 dX1_add_4 rfl rfl ?_
    refine ev_getR 8 dX1_add_5 rfl flX1_18 rfl rfl ?_
    refine ev_iload_n 9 dX1_add_8 rfl rfl ?_
    refine ev_cV1I (bI true) M 12 dX1_add_9 mlX1_22 moX2_has rfl imX2_has ⟨_, _, rfl, rfl, rfl⟩ (Nat.le_of_ble_eq_true rfl) (Nat.le_of_ble_eq_true rfl) rfl (s_X2_hasN hn hsz ha) ?_
    refine ev_if_eqB 15 53 dX1_add_12 (by decide) rfl (fun c12 => ?_) (fun c12 => ?_)
    · exact absurd c12 (by decide)
    · refine ev_aload_n 16 dX1_add_15 rfl rfl ?_
      refine ev_getR 19 dX1_add_16 rfl flX1_15 rfl rfl ?_
      refine ev_iload_n 20 dX1_add_19 rfl rfl ?_
      refine ev_iaN 21 _ dX1_add_20 rfl (by omega) (by decide) rfl hl.2.1 ?_
      refine ev_bipush 23 (nI 8) dX1_add_21 (by decide) rfl ?_
      refine ev_icmp_geN 26 53 dX1_add_23 (by decide) rfl (by omega) (by omega) (fun c23 => ?_) (fun c23 => ?_)
      · exact ev_vret dX1_add_53 rfl (⟨rfl, nmOK.rf _ _ _ _, by rw [addW, if_neg c1, if_neg (by omega)]; exact hl⟩)
      · refine ev_aload_n 27 dX1_add_26 rfl rfl ?_
        refine ev_getR 30 dX1_add_27 rfl flX1_9 rfl rfl ?_
        refine ev_iload_n 31 dX1_add_30 rfl rfl ?_
        refine ev_bipush 33 (nI 8) dX1_add_31 (by decide) rfl ?_
        refine ev_imulN 34 dX1_add_33 rfl ?_
        refine ev_aload_n 35 dX1_add_34 rfl rfl ?_
        refine ev_getR 38 dX1_add_35 rfl flX1_15 rfl rfl ?_
        refine ev_iload_n 39 dX1_add_38 rfl rfl ?_
        refine ev_iaN 40 _ dX1_add_39 rfl (by omega) (by decide) rfl hl.2.1 ?_
        refine ev_iaddN 41 dX1_add_40 rfl ?_
        refine ev_iload_n 42 dX1_add_41 rfl rfl ?_
        refine ev_iaS 43 dX1_add_42 rfl (by omega) (by decide) rfl ?_
        refine ev_aload_n 44 dX1_add_43 rfl rfl ?_
        refine ev_getR 47 dX1_add_44 rfl flX1_15 rfl rfl ?_
        refine ev_iload_n 48 dX1_add_47 rfl rfl ?_
        refine ev_dup2 49 dX1_add_48 rfl rfl rfl ?_
        refine ev_iaN 50 _ dX1_add_49 rfl (by omega) (by decide) rfl (hz _) ?_
        refine ev_iconst 51 (nI 1) dX1_add_50 (by decide) rfl ?_
        refine ev_iaddN 52 dX1_add_51 rfl ?_
        refine ev_iaS 53 dX1_add_52 rfl (by omega) (by decide) rfl ?_
        exact ev_vret dX1_add_53 rfl (⟨rfl, by rw [addW, if_neg c1, if_pos (by omega)]; exact nm_put (by decide) hl (by omega)⟩)
theorem s_X1_lengthOf {M : Mm} {a n : Nat} (hn : n ≤ 24) (hsz : M 0 5 = nI n) (ha : a < n) : Ct XSh mX1_lengthOf [.ref 6, .int (nI a)] M (RetI (M 8 a) M) := by
  show Ev _ _ 0 [.ref 6, .int (nI a)] [] M _
  refine ev_aload_n 1 dX1_lengthOf_0 rfl rfl ?_
  refine ev_getR 4 dX1_lengthOf_1 rfl flX1_18 rfl rfl ?_
  refine ev_iload_n 5 dX1_lengthOf_4 rfl rfl ?_
  refine ev_cV1I (bI true) M 8 dX1_lengthOf_5 mlX1_22 moX2_has rfl imX2_has ⟨_, _, rfl, rfl, rfl⟩ (Nat.le_of_ble_eq_true rfl) (Nat.le_of_ble_eq_true rfl) rfl (s_X2_hasN hn hsz ha) ?_
  refine ev_if_eqB 11 20 dX1_lengthOf_8 (by decide) rfl (fun c8 => ?_) (fun c8 => ?_)
  · exact absurd c8 (by decide)
  · refine ev_aload_n 12 dX1_lengthOf_11 rfl rfl ?_
    refine ev_getR 15 dX1_lengthOf_12 rfl flX1_15 rfl rfl ?_
    refine ev_iload_n 16 dX1_lengthOf_15 rfl rfl ?_
    refine ev_iaN 17 _ dX1_lengthOf_16 rfl (by omega) (by decide) rfl rfl ?_
    refine ev_goto 21 dX1_lengthOf_17 (by decide) ?_
    exact ev_iret dX1_lengthOf_21 rfl (⟨rfl, rfl⟩)
def wdF (l : List Int32) (k : Int32) : Int32 := if inB k l.length then l.getD k.toNatClampNeg 0 else 0
theorem getD_out {l : List Int32} {i : Nat} (h : l.length ≤ i) : l.getD i 0 = 0 := by
  simp [List.getD_eq_getElem?_getD, List.getElem?_eq_none h]
theorem wdF_nI {l : List Int32} {i : Nat} (hi : i < 2 ^ 31) : wdF l (nI i) = l.getD i 0 := by
  rw [wdF, inB_nI hi, nI_clamp hi]
  by_cases q : i < l.length
  · rw [if_pos (decide_eq_true q)]
  · rw [if_neg (by rw [decide_eq_false q]; decide), getD_out (by omega)]
theorem s_X1_wordOf {M : Mm} {a n : Nat} {l : List Int32} (k : Int32) (hn : n ≤ 24) (hsz : M 0 5 = nI n) (ha : a < n) (hl : nmAt M 7 8 a l) : Ct XSh mX1_wordOf [.ref 6, .int (nI a), .int k] M (RetI (wdF l k) M) := by
  have hle := hl.1
  have hin : ¬ k < 0 → ¬ nI l.length ≤ k → inB k l.length = true := fun c1 c11 => decide_eq_true (by rw [int_lt0] at c1; rw [Int32.le_iff_toInt_le, nI_toInt (by omega)] at c11; omega)
  have hout : nI l.length ≤ k → inB k l.length = false := fun c11 => decide_eq_false (by rw [Int32.le_iff_toInt_le, nI_toInt (by omega)] at c11; omega)
  show Ev _ _ 0 [.ref 6, .int (nI a), .int k] [] M _
  refine ev_iload_n 1 dX1_wordOf_0 rfl rfl ?_
  refine ev_if_lt 4 27 dX1_wordOf_1 (by decide) rfl (fun c1 => ?_) (fun c1 => ?_)
  · refine ev_iconst 28 (nI 0) dX1_wordOf_27 (by decide) rfl ?_
    exact ev_iret dX1_wordOf_28 rfl (⟨by rw [wdF, if_neg (by rw [inB_lt c1]; decide)]; rfl, rfl⟩)
  · refine ev_iload_n 5 dX1_wordOf_4 rfl rfl ?_
    refine ev_aload_n 6 dX1_wordOf_5 rfl rfl ?_
    refine ev_iload_n 7 dX1_wordOf_6 rfl rfl ?_
    refine ev_cV1I (nI l.length) M 10 dX1_wordOf_7 mlX1_60 moX1_lengthOf rfl imX1_lengthOf ⟨_, _, rfl, rfl, rfl⟩ (Nat.le_of_ble_eq_true rfl) (Nat.le_of_ble_eq_true rfl) rfl (by rw [← hl.2.1]; exact s_X1_lengthOf hn hsz ha) ?_
    refine ev_icmp_ge 13 27 dX1_wordOf_10 (by decide) rfl (fun c10 => ?_) (fun c10 => ?_)
    · refine ev_iconst 28 (nI 0) dX1_wordOf_27 (by decide) rfl ?_
      exact ev_iret dX1_wordOf_28 rfl (⟨by rw [wdF, if_neg (by rw [hout c10]; decide)]; rfl, rfl⟩)
    · obtain ⟨j, hj, rfl⟩ := inB_of (x := k) (n := l.length) (hin c1 c10) (by omega)
      refine ev_aload_n 14 dX1_wordOf_13 rfl rfl ?_
      refine ev_getR 17 dX1_wordOf_14 rfl flX1_9 rfl rfl ?_
      refine ev_iload_n 18 dX1_wordOf_17 rfl rfl ?_
      refine ev_bipush 20 (nI 8) dX1_wordOf_18 (by decide) rfl ?_
      refine ev_imulN 21 dX1_wordOf_20 rfl ?_
      refine ev_iload_n 22 dX1_wordOf_21 rfl rfl ?_
      refine ev_iaddN 23 dX1_wordOf_22 rfl ?_
      refine ev_iaN 24 _ dX1_wordOf_23 rfl (by omega) (by decide) rfl (hl.2.2 j hj) ?_
      refine ev_goto 28 dX1_wordOf_24 (by decide) ?_
      exact ev_iret dX1_wordOf_28 rfl (⟨by rw [wdF, inB_nI (by omega), if_pos (decide_eq_true hj), nI_clamp (by omega)], rfl⟩)
def alk (l1 l2 : List Int32) (k : Nat) : Bool := match k with
  | 0 => true
  | k + 1 => alk l1 l2 k && (l1.getD k 0 == l2.getD k 0)
theorem alk_no {l1 l2 : List Int32} {i : Nat} : ∀ {n : Nat}, i < n → ¬ l1.getD i 0 = l2.getD i 0 → alk l1 l2 n = false
  | 0, h, _ => by omega
  | n + 1, h, c => by
    by_cases e : i = n
    · subst e
      have : (l1.getD i 0 == l2.getD i 0) = false := by simpa using c
      rw [alk, this, Bool.and_false]
    · rw [alk, alk_no (by omega) c, Bool.false_and]
theorem alk_iff {l1 l2 : List Int32} : ∀ {k : Nat}, alk l1 l2 k = true ↔ ∀ i, i < k → l1.getD i 0 = l2.getD i 0
  | 0 => ⟨fun _ i h => absurd h (Nat.not_lt_zero i), fun _ => rfl⟩
  | k + 1 => by
    rw [alk, Bool.and_eq_true, alk_iff, beq_iff_eq]
    constructor
    · rintro ⟨h1, h2⟩ i hi
      by_cases e : i = k
      · rw [e]; exact h2
      · exact h1 i (by omega)
    · intro h
      exact ⟨fun i hi => h i (by omega), h k (by omega)⟩
/-- no word is 0 -/
def nz (l : List Int32) : Prop := ∀ x ∈ l, x ≠ 0
theorem nz_get {l : List Int32} (h : nz l) {i : Nat} (hi : i < l.length) : l.getD i 0 ≠ 0 := by
  have e : l.getD i 0 = l[i] := by simp [List.getD_eq_getElem?_getD, List.getElem?_eq_getElem hi]
  rw [e]
  exact h _ (List.getElem_mem hi)
theorem nz_nil : nz [] := fun x hx => absurd hx List.not_mem_nil
theorem nz_addW {l : List Int32} (v : Int32) (h : nz l) : nz (addW l v) := by
  unfold addW
  by_cases e : v = 0
  · rw [if_pos e]; exact h
  · rw [if_neg e]
    by_cases q : l.length < 8
    · rw [if_pos q]
      intro x hx
      rcases List.mem_append.mp hx with z | z
      · exact h x z
      · rw [List.mem_singleton.mp z]; exact e
    · rw [if_neg q]; exact h
theorem alk_8 {l1 l2 : List Int32} (h1 : nz l1) (h2 : nz l2) (k1 : l1.length ≤ 8) (k2 : l2.length ≤ 8) : alk l1 l2 8 = (decide (l1.length = l2.length) && alk l1 l2 l1.length) := by
  apply Bool.eq_iff_iff.mpr
  rw [Bool.and_eq_true, decide_eq_true_iff, alk_iff, alk_iff]
  constructor
  · intro h
    refine ⟨?_, fun i hi => h i (by omega)⟩
    rcases Nat.lt_trichotomy l1.length l2.length with q | q | q
    · exact absurd ((h l1.length (by omega)).symm.trans (getD_out (Nat.le_refl _))) (nz_get h2 q)
    · exact q
    · exact absurd ((h l2.length (by omega)).trans (getD_out (Nat.le_refl _))) (nz_get h1 q)
  · rintro ⟨e, h⟩ i hi
    by_cases q : i < l1.length
    · exact h i q
    · rw [getD_out (by omega), getD_out (by omega)]
theorem s_X1_areAlike_k {M : Mm} {a b n : Nat} {l1 l2 : List Int32} (hn : n ≤ 24) (hsz : M 0 5 = nI n) (ha : a < n) (hb : b < n) (h1 : nmAt M 7 8 a l1) (h2 : nmAt M 7 8 b l2) : ∀ d i, i + d = 8 → alk l1 l2 i = true → Ev XSh mX1_areAlike 2 [.ref 6, .int (nI a), .int (nI b), .int (nI i)] [] M (RetI (bI (alk l1 l2 8)) M)
  | 0, i, h, hk => by
    have hi : i = 8 := by omega
    subst hi
    refine ev_iload_n 3 dX1_areAlike_2 rfl rfl ?_
    refine ev_bipush 5 (nI 8) dX1_areAlike_3 (by decide) rfl ?_
    refine ev_icmp_geN 8 31 dX1_areAlike_5 (by decide) rfl (by omega) (by omega) (fun c5 => ?_) (fun c5 => ?_)
    · refine ev_iconst 32 (nI 1) dX1_areAlike_31 (by decide) rfl ?_
      exact ev_zret dX1_areAlike_32 rfl (Or.inr rfl) (⟨by rw [hk]; rfl, rfl⟩)
    · omega
  | d + 1, i, h, hk => by
    refine ev_iload_n 3 dX1_areAlike_2 rfl rfl ?_
    refine ev_bipush 5 (nI 8) dX1_areAlike_3 (by decide) rfl ?_
    refine ev_icmp_geN 8 31 dX1_areAlike_5 (by decide) rfl (by omega) (by omega) (fun c5 => ?_) (fun c5 => ?_)
    · omega
    · refine ev_aload_n 9 dX1_areAlike_8 rfl rfl ?_
      refine ev_iload_n 10 dX1_areAlike_9 rfl rfl ?_
      refine ev_iload_n 11 dX1_areAlike_10 rfl rfl ?_
      refine ev_cV2I (l1.getD i 0) M 14 dX1_areAlike_11 mlX1_63 moX1_wordOf rfl imX1_wordOf ⟨_, _, rfl, rfl, rfl⟩ (Nat.le_of_ble_eq_true rfl) (Nat.le_of_ble_eq_true rfl) rfl (by have := s_X1_wordOf (k := nI i) hn hsz ha h1; rwa [wdF_nI (by omega)] at this) ?_
      refine ev_aload_n 15 dX1_areAlike_14 rfl rfl ?_
      refine ev_iload_n 16 dX1_areAlike_15 rfl rfl ?_
      refine ev_iload_n 17 dX1_areAlike_16 rfl rfl ?_
      refine ev_cV2I (l2.getD i 0) M 20 dX1_areAlike_17 mlX1_63 moX1_wordOf rfl imX1_wordOf ⟨_, _, rfl, rfl, rfl⟩ (Nat.le_of_ble_eq_true rfl) (Nat.le_of_ble_eq_true rfl) rfl (by have := s_X1_wordOf (k := nI i) hn hsz hb h2; rwa [wdF_nI (by omega)] at this) ?_
      refine ev_icmp_eq 23 25 dX1_areAlike_20 (by decide) rfl (fun c20 => ?_) (fun c20 => ?_)
      · refine ev_iincN 28 _ dX1_areAlike_25 rfl (by decide) rfl rfl rfl ?_
        refine ev_goto 2 dX1_areAlike_28 (by decide) ?_
        exact s_X1_areAlike_k hn hsz ha hb h1 h2 d (i + 1) (by omega) (by rw [alk, hk, c20]; simp)
      · refine ev_iconst 24 (nI 0) dX1_areAlike_23 (by decide) rfl ?_
        exact ev_zret dX1_areAlike_24 rfl (Or.inl rfl) (⟨by rw [alk_no (by omega) c20]; rfl, rfl⟩)
theorem s_X1_areAlike {M : Mm} {a b n : Nat} {l1 l2 : List Int32} (hn : n ≤ 24) (hsz : M 0 5 = nI n) (ha : a < n) (hb : b < n) (h1 : nmAt M 7 8 a l1) (h2 : nmAt M 7 8 b l2) (hz1 : nz l1) (hz2 : nz l2) : Ct XSh mX1_areAlike [.ref 6, .int (nI a), .int (nI b)] M (RetI (bI (decide (l1.length = l2.length) && alk l1 l2 l1.length)) M) := by
  rw [← alk_8 hz1 hz2 h1.1 h2.1]
  show Ev _ _ 0 [.ref 6, .int (nI a), .int (nI b), .null] [] M _
  refine ev_iconst 1 (nI 0) dX1_areAlike_0 (by decide) rfl ?_
  refine ev_istore_n 2 _ dX1_areAlike_1 (by decide) rfl rfl rfl ?_
  exact s_X1_areAlike_k hn hsz ha hb h1 h2 8 0 (by omega) rfl
def ownW (M : Mm) (n : Nat) (l : List Int32) (s : Int32) : List Int32 := if inB s n then addW l (M 1 (s.toNatClampNeg * 18 + 0)) else l
theorem s_X1_addOwnOf {M : Mm} {a n : Nat} {l : List Int32} (s : Int32) (hn : n ≤ 24) (hsz : M 0 5 = nI n) (ha : a < n) (hl : nmAt M 7 8 a l) : Ct XSh mX1_addOwnOf [.ref 6, .int (nI a), .int s] M (fun r M2 => r = none ∧ XNm M M2 a (ownW M n l s)) := by
  show Ev _ _ 0 [.ref 6, .int (nI a), .int s] [] M _
  refine ev_aload_n 1 dX1_addOwnOf_0 rfl rfl ?_
  refine ev_getR 4 dX1_addOwnOf_1 rfl flX1_18 rfl rfl ?_
  refine ev_iload_n 5 dX1_addOwnOf_4 rfl rfl ?_
  refine ev_cV1I _ M 8 dX1_addOwnOf_5 mlX1_22 moX2_has rfl imX2_has ⟨_, _, rfl, rfl, rfl⟩ (Nat.le_of_ble_eq_true rfl) (Nat.le_of_ble_eq_true rfl) rfl (s_X2_has hn hsz s) ?_
  refine ev_if_eqB 11 25 dX1_addOwnOf_8 (by decide) rfl (fun c8 => ?_) (fun c8 => ?_)
  · exact ev_vret dX1_addOwnOf_25 rfl (⟨rfl, nmOK.rf _ _ _ _, by rw [ownW, if_neg (by rw [c8]; decide)]; exact hl⟩)
  · obtain ⟨j, hj, rfl⟩ := inB_of c8 (by omega)
    refine ev_aload_n 12 dX1_addOwnOf_11 rfl rfl ?_
    refine ev_iload_n 13 dX1_addOwnOf_12 rfl rfl ?_
    refine ev_aload_n 14 dX1_addOwnOf_13 rfl rfl ?_
    refine ev_getR 17 dX1_addOwnOf_14 rfl flX1_18 rfl rfl ?_
    refine ev_iload_n 18 dX1_addOwnOf_17 rfl rfl ?_
    refine ev_iconst 19 (nI 0) dX1_addOwnOf_18 (by decide) rfl ?_
    refine ev_cV2I _ M 22 dX1_addOwnOf_19 mlX1_28 moX2_get rfl imX2_get ⟨_, _, rfl, rfl, rfl⟩ (Nat.le_of_ble_eq_true rfl) (Nat.le_of_ble_eq_true rfl) rfl (s_X2_get (a := j) (b := 0) (by omega) (by omega)) ?_
    refine ev_cV2 25 dX1_addOwnOf_22 mlX1_36 moX1_add rfl imX1_add ⟨_, _, rfl, rfl, rfl⟩ (Nat.le_of_ble_eq_true rfl) (Nat.le_of_ble_eq_true rfl) rfl (s_X1_add _ hn hsz ha hl) ?_
    rintro r M2 ⟨rfl, h2⟩
    exact ev_vret dX1_addOwnOf_25 rfl (⟨rfl, by rw [ownW, if_pos c8, nI_clamp (by omega)]; exact h2⟩)
def txtF (M : Mm) (n : Nat) (tx : Int32) (l : List Int32) : Nat → List Int32
  | 0 => l
  | k + 1 => if hB tx (M 5 k) then ownW M n (txtF M n tx l k) (M 5 k) else txtF M n tx l k
theorem s_X1_addTextsIn_k {M : Mm} {a n : Nat} {l : List Int32} (hn : n ≤ 24) (hsz : M 0 5 = nI n) (ha : a < n) (tx sh : Int32) : ∀ d i (M1 : Mm), i + d = n → XNm M M1 a (txtF M n tx l i) → Ev XSh mX1_addTextsIn 24 [.ref 6, .int (nI a), .int sh, .int tx, .int (nI i)] [] M1 (fun r M2 => r = none ∧ XNm M M2 a (txtF M n tx l n))
  | 0, i, M1, h, hx => by
    have hs1 : M1 0 5 = nI n := by rw [hx.1.1 0 (by decide) (by decide)]; exact hsz
    have hi : n = i := by omega
    subst hi
    refine ev_iload 26 dX1_addTextsIn_24 rfl rfl ?_
    refine ev_aload_n 27 dX1_addTextsIn_26 rfl rfl ?_
    refine ev_getR 30 dX1_addTextsIn_27 rfl flX1_18 rfl rfl ?_
    refine ev_getIv 33 (nI n) dX1_addTextsIn_30 rfl flX1_49 rfl rfl hs1 ?_
    refine ev_icmp_geN 36 74 dX1_addTextsIn_33 (by decide) rfl (by omega) (by omega) (fun c33 => ?_) (fun c33 => ?_)
    · exact ev_vret dX1_addTextsIn_74 rfl (⟨rfl, hx⟩)
    · omega
  | d + 1, i, M1, h, hx => by
    have hs1 : M1 0 5 = nI n := by rw [hx.1.1 0 (by decide) (by decide)]; exact hsz
    refine ev_iload 26 dX1_addTextsIn_24 rfl rfl ?_
    refine ev_aload_n 27 dX1_addTextsIn_26 rfl rfl ?_
    refine ev_getR 30 dX1_addTextsIn_27 rfl flX1_18 rfl rfl ?_
    refine ev_getIv 33 (nI n) dX1_addTextsIn_30 rfl flX1_49 rfl rfl hs1 ?_
    refine ev_icmp_geN 36 74 dX1_addTextsIn_33 (by decide) rfl (by omega) (by omega) (fun c33 => ?_) (fun c33 => ?_)
    · omega
    · refine ev_iload_n 37 dX1_addTextsIn_36 rfl rfl ?_
      refine ev_aload_n 38 dX1_addTextsIn_37 rfl rfl ?_
      refine ev_getR 41 dX1_addTextsIn_38 rfl flX1_18 rfl rfl ?_
      refine ev_getR 44 dX1_addTextsIn_41 rfl flX1_53 rfl rfl ?_
      refine ev_iload 46 dX1_addTextsIn_44 rfl rfl ?_
      refine ev_iaN 47 (M 5 i) dX1_addTextsIn_46 rfl (by omega) (by decide) rfl (by rw [hx.1.1 5 (by decide) (by decide)]) ?_
      refine ev_cS2I _ M1 50 dX1_addTextsIn_47 mlX1_56 moX7_holds rfl smX7_holds (Nat.le_of_ble_eq_true rfl) (Nat.le_of_ble_eq_true rfl) rfl (s_holds _ _) ?_
      refine ev_if_eqB 53 68 dX1_addTextsIn_50 (by decide) rfl (fun c50 => ?_) (fun c50 => ?_)
      · refine ev_iincN 71 _ dX1_addTextsIn_68 rfl (by decide) rfl rfl rfl ?_
        refine ev_goto 24 dX1_addTextsIn_71 (by decide) ?_
        exact s_X1_addTextsIn_k hn hsz ha tx sh d (i + 1) M1 (by omega) (by rw [txtF, if_neg (by rw [c50]; decide)]; exact hx)
      · refine ev_aload_n 54 dX1_addTextsIn_53 rfl rfl ?_
        refine ev_iload_n 55 dX1_addTextsIn_54 rfl rfl ?_
        refine ev_aload_n 56 dX1_addTextsIn_55 rfl rfl ?_
        refine ev_getR 59 dX1_addTextsIn_56 rfl flX1_18 rfl rfl ?_
        refine ev_getR 62 dX1_addTextsIn_59 rfl flX1_53 rfl rfl ?_
        refine ev_iload 64 dX1_addTextsIn_62 rfl rfl ?_
        refine ev_iaN 65 (M 5 i) dX1_addTextsIn_64 rfl (by omega) (by decide) rfl (by rw [hx.1.1 5 (by decide) (by decide)]) ?_
        refine ev_cV2 68 dX1_addTextsIn_65 mlX1_32 moX1_addOwnOf rfl imX1_addOwnOf ⟨_, _, rfl, rfl, rfl⟩ (Nat.le_of_ble_eq_true rfl) (Nat.le_of_ble_eq_true rfl) rfl (s_X1_addOwnOf (M 5 i) hn hs1 ha hx.2) ?_
        rintro r M2 ⟨rfl, h2⟩
        refine ev_iincN 71 _ dX1_addTextsIn_68 rfl (by decide) rfl rfl rfl ?_
        refine ev_goto 24 dX1_addTextsIn_71 (by decide) ?_
        exact s_X1_addTextsIn_k hn hsz ha tx sh d (i + 1) M2 (by omega) ⟨hx.1.tr h2.1, by rw [txtF, if_pos c50]; simpa only [ownW, hx.1.1 1 (by decide) (by decide)] using h2.2⟩
theorem s_X1_addTextsIn {M : Mm} {a n : Nat} {l : List Int32} (hn : n ≤ 24) (hsz : M 0 5 = nI n) (ha : a < n) (sh : Int32) (hl : nmAt M 7 8 a l) : Ct XSh mX1_addTextsIn [.ref 6, .int (nI a), .int sh] M (fun r M2 => r = none ∧ XNm M M2 a (txtF M n ((M 3 a &&& M 4 1) &&& sh) l n)) := by
  show Ev _ _ 0 [.ref 6, .int (nI a), .int sh, .null, .null] [] M _
  refine ev_aload_n 1 dX1_addTextsIn_0 rfl rfl ?_
  refine ev_getR 4 dX1_addTextsIn_1 rfl flX1_18 rfl rfl ?_
  refine ev_iload_n 5 dX1_addTextsIn_4 rfl rfl ?_
  refine ev_cV1I (M 3 a) M 8 dX1_addTextsIn_5 mlX1_42 moX2_withinOf rfl imX2_withinOf ⟨_, _, rfl, rfl, rfl⟩ (Nat.le_of_ble_eq_true rfl) (Nat.le_of_ble_eq_true rfl) rfl (s_X2_withinOfN hn hsz ha) ?_
  refine ev_aload_n 9 dX1_addTextsIn_8 rfl rfl ?_
  refine ev_getR 12 dX1_addTextsIn_9 rfl flX1_18 rfl rfl ?_
  refine ev_getR 15 dX1_addTextsIn_12 rfl flX1_46 rfl rfl ?_
  refine ev_iconst 16 (nI 1) dX1_addTextsIn_15 (by decide) rfl ?_
  refine ev_iaN 17 _ dX1_addTextsIn_16 rfl (by decide) (by decide) rfl rfl ?_
  refine ev_iand 18 dX1_addTextsIn_17 rfl ?_
  refine ev_iload_n 19 dX1_addTextsIn_18 rfl rfl ?_
  refine ev_iand 20 dX1_addTextsIn_19 rfl ?_
  refine ev_istore_n 21 _ dX1_addTextsIn_20 (by decide) rfl rfl rfl ?_
  refine ev_iconst 22 (nI 0) dX1_addTextsIn_21 (by decide) rfl ?_
  refine ev_istore 24 _ dX1_addTextsIn_22 (by decide) rfl rfl rfl ?_
  exact s_X1_addTextsIn_k hn hsz ha _ sh n 0 M (by omega) ⟨nmOK.rf _ _ _ _, hl⟩
def nm1 (M : Mm) (n a : Nat) : List Int32 := ownW M n (ownW M n [] (M 1 (a * 18 + 3))) (M 1 (a * 18 + 4))
def nmE (l l2 : List Int32) : List Int32 := if l.length = 0 then l2 else l
def nm3 (M : Mm) (n a : Nat) : List Int32 := nmE (nmE (nm1 M n a) (addW (nm1 M n a) (M 1 (a * 18 + 1)))) (addW (nmE (nm1 M n a) (addW (nm1 M n a) (M 1 (a * 18 + 1)))) (M 1 (a * 18 + 0)))
def nm4 (M : Mm) (n a : Nat) (sh : Int32) : List Int32 := if (nm3 M n a).length = 0 ∧ M 1 (a * 18 + 10) = nI 2 then txtF M n ((M 3 a &&& M 4 1) &&& sh) (nm3 M n a) n else nm3 M n a
def nmF (M : Mm) (n a : Nat) (sh : Int32) : List Int32 := nmE (nm4 M n a sh) (addW (nm4 M n a sh) (M 1 (a * 18 + 2)))
theorem XNm.len {M M' : Mm} {p : Nat} {l : List Int32} (h : XNm M M' p l) : l.length ≤ 8 := h.2.1
theorem XNm.add {M M1 M2 : Mm} {p : Nat} {l l2 : List Int32} (h : XNm M M1 p l) (h2 : XNm M1 M2 p l2) : XNm M M2 p l2 := ⟨h.1.tr h2.1, h2.2⟩
theorem txtF_congr {M M1 : Mm} (h1 : M1 1 = M 1) (h5 : M1 5 = M 5) (n : Nat) (tx : Int32) (l : List Int32) : ∀ k, txtF M1 n tx l k = txtF M n tx l k
  | 0 => rfl
  | k + 1 => by rw [txtF, txtF, txtF_congr h1 h5 n tx l k, h5]; simp only [ownW, h1]
theorem s_X1_compose_122 {M M1 : Mm} {a n : Nat} {l : List Int32} (sh : Int32) (hn : n ≤ 24) (hsz : M 0 5 = nI n) (ha : a < n) (hx : XNm M M1 a l) : Ev XSh mX1_compose 122 [.ref 6, .int (nI a), .int sh] [] M1 (fun r M2 => r = none ∧ XNm M M2 a (nmE l (addW l (M 1 (a * 18 + 2))))) := by
  have hle := hx.len
  have hs1 : M1 0 5 = nI n := by rw [hx.1.1 0 (by decide) (by decide)]; exact hsz
  refine ev_aload_n 123 dX1_compose_122 rfl rfl ?_
  refine ev_getR 126 dX1_compose_123 rfl flX1_15 rfl rfl ?_
  refine ev_iload_n 127 dX1_compose_126 rfl rfl ?_
  refine ev_iaN 128 _ dX1_compose_127 rfl (by omega) (by decide) rfl hx.2.2.1 ?_
  refine ev_if_neN 131 145 dX1_compose_128 (by decide) rfl (by omega) (fun c128 => ?_) (fun c128 => ?_)
  · exact ev_vret dX1_compose_145 rfl (⟨rfl, by first | (rw [nmE, if_neg c128]; exact hx) | (rw [nmE, if_pos c128]; exact hx.add h2)⟩)
  · refine ev_aload_n 132 dX1_compose_131 rfl rfl ?_
    refine ev_iload_n 133 dX1_compose_132 rfl rfl ?_
    refine ev_aload_n 134 dX1_compose_133 rfl rfl ?_
    refine ev_getR 137 dX1_compose_134 rfl flX1_18 rfl rfl ?_
    refine ev_iload_n 138 dX1_compose_137 rfl rfl ?_
    refine ev_iconst 139 (nI 2) dX1_compose_138 (by decide) rfl ?_
    refine ev_cV2I (M 1 (a * 18 + 2)) M1 142 dX1_compose_139 mlX1_28 moX2_get rfl imX2_get ⟨_, _, rfl, rfl, rfl⟩ (Nat.le_of_ble_eq_true rfl) (Nat.le_of_ble_eq_true rfl) rfl (by rw [← hx.1.1 1 (by decide) (by decide)]; exact s_X2_get (a := a) (b := 2) (by omega) (by omega)) ?_
    refine ev_cV2 145 dX1_compose_142 mlX1_36 moX1_add rfl imX1_add ⟨_, _, rfl, rfl, rfl⟩ (Nat.le_of_ble_eq_true rfl) (Nat.le_of_ble_eq_true rfl) rfl (s_X1_add _ hn hs1 ha hx.2) ?_
    rintro r M2 ⟨rfl, h2⟩
    exact ev_vret dX1_compose_145 rfl (⟨rfl, by first | (rw [nmE, if_neg c128]; exact hx) | (rw [nmE, if_pos c128]; exact hx.add h2)⟩)
theorem s_X1_compose_93 {M M1 : Mm} {a n : Nat} {l : List Int32} (sh : Int32) (hn : n ≤ 24) (hsz : M 0 5 = nI n) (ha : a < n) (hx : XNm M M1 a l) : Ev XSh mX1_compose 93 [.ref 6, .int (nI a), .int sh] [] M1 (fun r M2 => r = none ∧ XNm M M2 a (nmE (if l.length = 0 ∧ M 1 (a * 18 + 10) = nI 2 then txtF M n ((M 3 a &&& M 4 1) &&& sh) l n else l) (addW (if l.length = 0 ∧ M 1 (a * 18 + 10) = nI 2 then txtF M n ((M 3 a &&& M 4 1) &&& sh) l n else l) (M 1 (a * 18 + 2))))) := by
  have hle := hx.len
  have hs1 : M1 0 5 = nI n := by rw [hx.1.1 0 (by decide) (by decide)]; exact hsz
  refine ev_aload_n 94 dX1_compose_93 rfl rfl ?_
  refine ev_getR 97 dX1_compose_94 rfl flX1_15 rfl rfl ?_
  refine ev_iload_n 98 dX1_compose_97 rfl rfl ?_
  refine ev_iaN 99 _ dX1_compose_98 rfl (by omega) (by decide) rfl hx.2.2.1 ?_
  refine ev_if_neN 102 122 dX1_compose_99 (by decide) rfl (by omega) (fun c99 => ?_) (fun c99 => ?_)
  · rw [if_neg (fun z => c99 z.1)]
    exact s_X1_compose_122 sh hn hsz ha hx
  · refine ev_aload_n 103 dX1_compose_102 rfl rfl ?_
    refine ev_getR 106 dX1_compose_103 rfl flX1_18 rfl rfl ?_
    refine ev_iload_n 107 dX1_compose_106 rfl rfl ?_
    refine ev_bipush 109 (nI 10) dX1_compose_107 (by decide) rfl ?_
    refine ev_cV2I (M 1 (a * 18 + 10)) M1 112 dX1_compose_109 mlX1_28 moX2_get rfl imX2_get ⟨_, _, rfl, rfl, rfl⟩ (Nat.le_of_ble_eq_true rfl) (Nat.le_of_ble_eq_true rfl) rfl (by rw [← hx.1.1 1 (by decide) (by decide)]; exact s_X2_get (a := a) (b := 10) (by omega) (by omega)) ?_
    refine ev_iconst 113 (nI 2) dX1_compose_112 (by decide) rfl ?_
    refine ev_icmp_ne 116 122 dX1_compose_113 (by decide) rfl (fun c113 => ?_) (fun c113 => ?_)
    · rw [if_neg (fun z => c113 z.2)]
      exact s_X1_compose_122 sh hn hsz ha hx
    · refine ev_aload_n 117 dX1_compose_116 rfl rfl ?_
      refine ev_iload_n 118 dX1_compose_117 rfl rfl ?_
      refine ev_iload_n 119 dX1_compose_118 rfl rfl ?_
      refine ev_cV2 122 dX1_compose_119 mlX1_39 moX1_addTextsIn rfl imX1_addTextsIn ⟨_, _, rfl, rfl, rfl⟩ (Nat.le_of_ble_eq_true rfl) (Nat.le_of_ble_eq_true rfl) rfl (s_X1_addTextsIn hn hs1 ha sh hx.2) ?_
      rintro r M2 ⟨rfl, h2⟩
      rw [if_pos ⟨c99, c113⟩]
      refine s_X1_compose_122 sh hn hsz ha (hx.add ?_)
      have e := txtF_congr (hx.1.1 1 (by decide) (by decide)) (hx.1.1 5 (by decide) (by decide)) n ((M 3 a &&& M 4 1) &&& sh) l n
      rw [hx.1.1 3 (by decide) (by decide), hx.1.1 4 (by decide) (by decide), e] at h2
      exact h2
theorem s_X1_compose_70 {M M1 : Mm} {a n : Nat} {l : List Int32} (sh : Int32) {Q : Pst} (hn : n ≤ 24) (hsz : M 0 5 = nI n) (ha : a < n) (hx : XNm M M1 a l) (k : ∀ M2, XNm M M2 a (nmE l (addW l (M 1 (a * 18 + 0)))) → Ev XSh mX1_compose 93 [.ref 6, .int (nI a), .int sh] [] M2 Q) : Ev XSh mX1_compose 70 [.ref 6, .int (nI a), .int sh] [] M1 Q := by
  have hle := hx.len
  have hs1 : M1 0 5 = nI n := by rw [hx.1.1 0 (by decide) (by decide)]; exact hsz
  refine ev_aload_n 71 dX1_compose_70 rfl rfl ?_
  refine ev_getR 74 dX1_compose_71 rfl flX1_15 rfl rfl ?_
  refine ev_iload_n 75 dX1_compose_74 rfl rfl ?_
  refine ev_iaN 76 _ dX1_compose_75 rfl (by omega) (by decide) rfl hx.2.2.1 ?_
  refine ev_if_neN 79 93 dX1_compose_76 (by decide) rfl (by omega) (fun c76 => ?_) (fun c76 => ?_)
  · exact k _ (by rw [nmE, if_neg c76]; exact hx)
  · refine ev_aload_n 80 dX1_compose_79 rfl rfl ?_
    refine ev_iload_n 81 dX1_compose_80 rfl rfl ?_
    refine ev_aload_n 82 dX1_compose_81 rfl rfl ?_
    refine ev_getR 85 dX1_compose_82 rfl flX1_18 rfl rfl ?_
    refine ev_iload_n 86 dX1_compose_85 rfl rfl ?_
    refine ev_iconst 87 (nI 0) dX1_compose_86 (by decide) rfl ?_
    refine ev_cV2I (M 1 (a * 18 + 0)) M1 90 dX1_compose_87 mlX1_28 moX2_get rfl imX2_get ⟨_, _, rfl, rfl, rfl⟩ (Nat.le_of_ble_eq_true rfl) (Nat.le_of_ble_eq_true rfl) rfl (by rw [← hx.1.1 1 (by decide) (by decide)]; exact s_X2_get (a := a) (b := 0) (by omega) (by omega)) ?_
    refine ev_cV2 93 dX1_compose_90 mlX1_36 moX1_add rfl imX1_add ⟨_, _, rfl, rfl, rfl⟩ (Nat.le_of_ble_eq_true rfl) (Nat.le_of_ble_eq_true rfl) rfl (s_X1_add _ hn hs1 ha hx.2) ?_
    rintro r M2 ⟨rfl, h2⟩
    exact k _ (by rw [nmE, if_pos c76]; exact hx.add h2)
theorem s_X1_compose_47 {M M1 : Mm} {a n : Nat} {l : List Int32} (sh : Int32) {Q : Pst} (hn : n ≤ 24) (hsz : M 0 5 = nI n) (ha : a < n) (hx : XNm M M1 a l) (k : ∀ M2, XNm M M2 a (nmE l (addW l (M 1 (a * 18 + 1)))) → Ev XSh mX1_compose 70 [.ref 6, .int (nI a), .int sh] [] M2 Q) : Ev XSh mX1_compose 47 [.ref 6, .int (nI a), .int sh] [] M1 Q := by
  have hle := hx.len
  have hs1 : M1 0 5 = nI n := by rw [hx.1.1 0 (by decide) (by decide)]; exact hsz
  refine ev_aload_n 48 dX1_compose_47 rfl rfl ?_
  refine ev_getR 51 dX1_compose_48 rfl flX1_15 rfl rfl ?_
  refine ev_iload_n 52 dX1_compose_51 rfl rfl ?_
  refine ev_iaN 53 _ dX1_compose_52 rfl (by omega) (by decide) rfl hx.2.2.1 ?_
  refine ev_if_neN 56 70 dX1_compose_53 (by decide) rfl (by omega) (fun c53 => ?_) (fun c53 => ?_)
  · exact k _ (by rw [nmE, if_neg c53]; exact hx)
  · refine ev_aload_n 57 dX1_compose_56 rfl rfl ?_
    refine ev_iload_n 58 dX1_compose_57 rfl rfl ?_
    refine ev_aload_n 59 dX1_compose_58 rfl rfl ?_
    refine ev_getR 62 dX1_compose_59 rfl flX1_18 rfl rfl ?_
    refine ev_iload_n 63 dX1_compose_62 rfl rfl ?_
    refine ev_iconst 64 (nI 1) dX1_compose_63 (by decide) rfl ?_
    refine ev_cV2I (M 1 (a * 18 + 1)) M1 67 dX1_compose_64 mlX1_28 moX2_get rfl imX2_get ⟨_, _, rfl, rfl, rfl⟩ (Nat.le_of_ble_eq_true rfl) (Nat.le_of_ble_eq_true rfl) rfl (by rw [← hx.1.1 1 (by decide) (by decide)]; exact s_X2_get (a := a) (b := 1) (by omega) (by omega)) ?_
    refine ev_cV2 70 dX1_compose_67 mlX1_36 moX1_add rfl imX1_add ⟨_, _, rfl, rfl, rfl⟩ (Nat.le_of_ble_eq_true rfl) (Nat.le_of_ble_eq_true rfl) rfl (s_X1_add _ hn hs1 ha hx.2) ?_
    rintro r M2 ⟨rfl, h2⟩
    exact k _ (by rw [nmE, if_pos c53]; exact hx.add h2)
theorem s_X1_compose {M : Mm} {a n : Nat} (sh : Int32) (hn : n ≤ 24) (hsz : M 0 5 = nI n) (ha : a < n) : Ct XSh mX1_compose [.ref 6, .int (nI a), .int sh] M (fun r M2 => r = none ∧ XNm M M2 a (nmF M n a sh)) := by
  show Ev _ _ 0 [.ref 6, .int (nI a), .int sh] [] M _
  refine ev_aload_n 1 dX1_compose_0 rfl rfl ?_
  refine ev_getR 4 dX1_compose_1 rfl flX1_18 rfl rfl ?_
  refine ev_iload_n 5 dX1_compose_4 rfl rfl ?_
  refine ev_cV1I (bI true) M 8 dX1_compose_5 mlX1_22 moX2_has rfl imX2_has ⟨_, _, rfl, rfl, rfl⟩ (Nat.le_of_ble_eq_true rfl) (Nat.le_of_ble_eq_true rfl) rfl (s_X2_hasN hn hsz ha) ?_
  refine ev_if_neB 11 12 dX1_compose_8 (by decide) rfl (fun c8 => ?_) (fun c8 => ?_)
  · refine ev_aload_n 13 dX1_compose_12 rfl rfl ?_
    refine ev_getR 16 dX1_compose_13 rfl flX1_15 rfl rfl ?_
    refine ev_iload_n 17 dX1_compose_16 rfl rfl ?_
    refine ev_iconst 18 (nI 0) dX1_compose_17 (by decide) rfl ?_
    refine ev_iaS 19 dX1_compose_18 rfl (by omega) (by decide) rfl ?_
    obtain ⟨M1, hM1⟩ : ∃ y, y = mst M 8 a (nI 0) := ⟨_, rfl⟩
    refine ev_eqM hM1.symm ?_
    have hx : XNm M M1 a [] := by rw [hM1]; exact nm_set0 (by decide)
    have hs1 : M1 0 5 = nI n := by rw [hx.1.1 0 (by decide) (by decide)]; exact hsz
    refine ev_aload_n 20 dX1_compose_19 rfl rfl ?_
    refine ev_iload_n 21 dX1_compose_20 rfl rfl ?_
    refine ev_aload_n 22 dX1_compose_21 rfl rfl ?_
    refine ev_getR 25 dX1_compose_22 rfl flX1_18 rfl rfl ?_
    refine ev_iload_n 26 dX1_compose_25 rfl rfl ?_
    refine ev_iconst 27 (nI 3) dX1_compose_26 (by decide) rfl ?_
    refine ev_cV2I (M 1 (a * 18 + 3)) M1 30 dX1_compose_27 mlX1_28 moX2_get rfl imX2_get ⟨_, _, rfl, rfl, rfl⟩ (Nat.le_of_ble_eq_true rfl) (Nat.le_of_ble_eq_true rfl) rfl (by rw [← hx.1.1 1 (by decide) (by decide)]; exact s_X2_get (a := a) (b := 3) (by omega) (by omega)) ?_
    refine ev_cV2 33 dX1_compose_30 mlX1_32 moX1_addOwnOf rfl imX1_addOwnOf ⟨_, _, rfl, rfl, rfl⟩ (Nat.le_of_ble_eq_true rfl) (Nat.le_of_ble_eq_true rfl) rfl (s_X1_addOwnOf _ hn hs1 ha hx.2) ?_
    rintro r M3 ⟨rfl, h3⟩
    replace hx : XNm M M3 a (ownW M n [] (M 1 (a * 18 + 3))) := by
      have := hx.add h3
      simpa only [ownW, hx.1.1 1 (by decide) (by decide)] using this
    have hs3 : M3 0 5 = nI n := by rw [hx.1.1 0 (by decide) (by decide)]; exact hsz
    refine ev_aload_n 34 dX1_compose_33 rfl rfl ?_
    refine ev_iload_n 35 dX1_compose_34 rfl rfl ?_
    refine ev_aload_n 36 dX1_compose_35 rfl rfl ?_
    refine ev_getR 39 dX1_compose_36 rfl flX1_18 rfl rfl ?_
    refine ev_iload_n 40 dX1_compose_39 rfl rfl ?_
    refine ev_iconst 41 (nI 4) dX1_compose_40 (by decide) rfl ?_
    refine ev_cV2I (M 1 (a * 18 + 4)) M3 44 dX1_compose_41 mlX1_28 moX2_get rfl imX2_get ⟨_, _, rfl, rfl, rfl⟩ (Nat.le_of_ble_eq_true rfl) (Nat.le_of_ble_eq_true rfl) rfl (by rw [← hx.1.1 1 (by decide) (by decide)]; exact s_X2_get (a := a) (b := 4) (by omega) (by omega)) ?_
    refine ev_cV2 47 dX1_compose_44 mlX1_32 moX1_addOwnOf rfl imX1_addOwnOf ⟨_, _, rfl, rfl, rfl⟩ (Nat.le_of_ble_eq_true rfl) (Nat.le_of_ble_eq_true rfl) rfl (s_X1_addOwnOf _ hn hs3 ha hx.2) ?_
    rintro r M5 ⟨rfl, h5⟩
    replace hx : XNm M M5 a (nm1 M n a) := by
      have := hx.add h5
      simpa only [nm1, ownW, hx.1.1 1 (by decide) (by decide)] using this
    exact s_X1_compose_47 sh hn hsz ha hx (fun M6 h6 => s_X1_compose_70 sh hn hsz ha h6 (fun M7 h7 => s_X1_compose_93 sh hn hsz ha h7))
  · exact absurd c8 (by decide)
theorem nz_ownW {M : Mm} {n : Nat} {l : List Int32} (s : Int32) (h : nz l) : nz (ownW M n l s) := by
  unfold ownW
  split
  · exact nz_addW _ h
  · exact h
theorem nz_txtF {M : Mm} {n : Nat} {tx : Int32} {l : List Int32} (h : nz l) : ∀ k, nz (txtF M n tx l k)
  | 0 => h
  | k + 1 => by
    unfold txtF
    split
    · exact nz_ownW _ (nz_txtF h k)
    · exact nz_txtF h k
theorem nz_nmE {l l2 : List Int32} (h : nz l) (h2 : nz l2) : nz (nmE l l2) := by
  unfold nmE
  split
  · exact h2
  · exact h
theorem nz_nmF {M : Mm} {n a : Nat} (sh : Int32) : nz (nmF M n a sh) := by
  have h1 : nz (nm1 M n a) := nz_ownW _ (nz_ownW _ nz_nil)
  have h2 := nz_nmE h1 (nz_addW (M 1 (a * 18 + 1)) h1)
  have h3 : nz (nm3 M n a) := nz_nmE h2 (nz_addW (M 1 (a * 18 + 0)) h2)
  have h4 : nz (nm4 M n a sh) := by
    unfold nm4
    split
    · exact nz_txtF h3 _
    · exact h3
  exact nz_nmE h4 (nz_addW _ h4)
