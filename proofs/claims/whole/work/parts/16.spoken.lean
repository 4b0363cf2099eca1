/-! Reading.compare, Spoken -/
def cmpI (h : Nat → Int32) (x : Nat) : List Nat → Int32 × Nat → Int32 × Nat
  | [], s => s
  | y :: t, s => cmpI h x t (if astr h x y then (s.1 ||| (nI 1 <<< (nI x &&& 31)), s.2 + 1) else s)
def cmpO (h : Nat → Int32) : List Nat → Int32 × Nat → Int32 × Nat
  | [], s => s
  | x :: t, s => cmpO h t (cmpI h x t s)
def CmpS (M M1 : Mm) (s : Int32 × Nat) : Prop := (∀ k, k ≠ 9 → M1 k = M k) ∧ M1 9 2 = M 9 2 ∧ M1 9 3 = s.1 ∧ M1 9 4 = nI s.2
theorem drop_nth {l : List Nat} {j : Nat} (h : j < l.length) : l.drop j = nth l j :: l.drop (j + 1) := by
  rw [List.drop_eq_getElem_cons h]
  simp [nth, List.getElem?_eq_getElem h]
theorem CmpS.row {M M1 : Mm} {s : Int32 × Nat} {l : List Nat} (h : CmpS M M1 s) (hl : rowAt M 10 9 2 l) : rowAt M1 10 9 2 l := hl.of (h.1 10 (by decide)) h.2.1
theorem CmpS.step {M M1 : Mm} {s : Int32 × Nat} (h : CmpS M M1 s) (v : Int32) : CmpS M (mst (mst M1 9 3 v) 9 4 (nI (s.2 + 1))) (v, s.2 + 1) := by
  refine ⟨fun k hk => by rw [mst_other _ _ _ hk, mst_other _ _ _ hk]; exact h.1 k hk, ?_, ?_, ?_⟩
  · rw [mst_same, upd, if_neg (by decide), mst_same, upd, if_neg (by decide)]; exact h.2.1
  · rw [mst_same, upd, if_neg (by decide), mst_same, upd, if_pos rfl]
  · rw [mst_same, upd, if_pos rfl]

theorem s_X3_compare_in {M : Mm} {l : List Nat} (hl : rowAt M 10 9 2 l) (hb : ∀ x ∈ l, x < 24) {i : Nat} (hi : i < l.length) {Q : Pst} : ∀ d j (M1 : Mm) (s : Int32 × Nat), j + d = l.length → CmpS M M1 s → (∀ M2 s2, CmpS M M2 s2 → s2 = cmpI (M 1) (nth l i) (l.drop j) s → Ev XSh mX3_compare 84 [.ref 9, .int (nI i), .int (nI l.length)] [] M2 Q) → Ev XSh mX3_compare 24 [.ref 9, .int (nI i), .int (nI j)] [] M1 Q
  | 0, j, M1, s, h, hs, k => by
    have hr := hs.row hl
    have hle := hl.2.1
    have hj : j = l.length := by omega
    subst hj
    refine ev_iload_n 25 dX3_compare_24 rfl rfl ?_
    refine ev_aload_n 26 dX3_compare_25 rfl rfl ?_
    refine ev_getIv 29 (nI l.length) dX3_compare_26 rfl flX3_19 rfl rfl hr.1 ?_
    refine ev_icmp_geN 32 84 dX3_compare_29 (by decide) rfl (by omega) (by omega) (fun c29 => ?_) (fun c29 => ?_)
    · rw [List.drop_of_length_le (by omega)] at k
      exact k M1 s hs rfl
    · omega
  | d + 1, j, M1, s, h, hs, k => by
    have hr := hs.row hl
    have hle := hl.2.1
    refine ev_iload_n 25 dX3_compare_24 rfl rfl ?_
    refine ev_aload_n 26 dX3_compare_25 rfl rfl ?_
    refine ev_getIv 29 (nI l.length) dX3_compare_26 rfl flX3_19 rfl rfl hr.1 ?_
    refine ev_icmp_geN 32 84 dX3_compare_29 (by decide) rfl (by omega) (by omega) (fun c29 => ?_) (fun c29 => ?_)
    · omega
    · refine ev_aload_n 33 dX3_compare_32 rfl rfl ?_
      refine ev_aload_n 34 dX3_compare_33 rfl rfl ?_
      refine ev_getR 37 dX3_compare_34 rfl flX3_9 rfl rfl ?_
      refine ev_iload_n 38 dX3_compare_37 rfl rfl ?_
      refine ev_iaN 39 (nI (nth l i)) dX3_compare_38 rfl (by omega) (by decide) rfl (hr.2.2 i hi) ?_
      refine ev_aload_n 40 dX3_compare_39 rfl rfl ?_
      refine ev_getR 43 dX3_compare_40 rfl flX3_9 rfl rfl ?_
      refine ev_iload_n 44 dX3_compare_43 rfl rfl ?_
      refine ev_iaN 45 (nI (nth l j)) dX3_compare_44 rfl (by omega) (by decide) rfl (hr.2.2 j (by omega)) ?_
      refine ev_cV2I (bI (astr (M 1) (nth l i) (nth l j))) M1 48 dX3_compare_45 mlX3_54 moX3_isAstray rfl imX3_isAstray ⟨_, _, rfl, rfl, rfl⟩ (Nat.le_of_ble_eq_true rfl) (Nat.le_of_ble_eq_true rfl) rfl (by rw [← hs.1 1 (by decide)]; exact s_X3_isAstray (hb _ (getD_mem hi)) (hb _ (getD_mem (by omega)))) ?_
      refine ev_if_eqB 51 78 dX3_compare_48 (by decide) rfl (fun c48 => ?_) (fun c48 => ?_)
      · refine ev_iincN 81 _ dX3_compare_78 rfl (by decide) rfl rfl rfl ?_
        refine ev_goto 24 dX3_compare_81 (by decide) ?_
        exact s_X3_compare_in hl hb hi d (j + 1) M1 s (by omega) hs (fun M2 s2 h2 e => k M2 s2 h2 (by rw [drop_nth (by omega), cmpI, if_neg (by rw [c48]; decide)]; exact e))
      · refine ev_aload_n 52 dX3_compare_51 rfl rfl ?_
        refine ev_dup 53 dX3_compare_52 rfl rfl ?_
        refine ev_getIv 56 s.1 dX3_compare_53 rfl flX3_23 rfl rfl hs.2.2.1 ?_
        refine ev_iconst 57 (nI 1) dX3_compare_56 (by decide) rfl ?_
        refine ev_aload_n 58 dX3_compare_57 rfl rfl ?_
        refine ev_getR 61 dX3_compare_58 rfl flX3_9 rfl rfl ?_
        refine ev_iload_n 62 dX3_compare_61 rfl rfl ?_
        refine ev_iaN 63 (nI (nth l i)) dX3_compare_62 rfl (by omega) (by decide) rfl (hr.2.2 i hi) ?_
        refine ev_ishl 64 dX3_compare_63 rfl ?_
        refine ev_ior 65 dX3_compare_64 rfl ?_
        refine ev_putI 68 dX3_compare_65 rfl flX3_23 fiX3_3 rfl rfl ?_
        refine ev_aload_n 69 dX3_compare_68 rfl rfl ?_
        refine ev_dup 70 dX3_compare_69 rfl rfl ?_
        refine ev_getIv 73 (nI s.2) dX3_compare_70 rfl flX3_26 rfl rfl (by rw [mst_same, upd, if_neg (by decide)]; exact hs.2.2.2) ?_
        refine ev_iconst 74 (nI 1) dX3_compare_73 (by decide) rfl ?_
        refine ev_iaddN 75 dX3_compare_74 rfl ?_
        refine ev_putI 78 dX3_compare_75 rfl flX3_26 fiX3_4 rfl rfl ?_
        refine ev_iincN 81 _ dX3_compare_78 rfl (by decide) rfl rfl rfl ?_
        refine ev_goto 24 dX3_compare_81 (by decide) ?_
        refine s_X3_compare_in hl hb hi d (j + 1) _ _ (by omega) (hs.step (s.1 ||| (nI 1 <<< (nI (nth l i) &&& 31)))) (fun M2 s2 h2 e => k M2 s2 h2 (by rw [drop_nth (by omega), cmpI, if_pos c48]; exact e))
theorem s_X3_compare_k {M : Mm} {l : List Nat} (hl : rowAt M 10 9 2 l) (hb : ∀ x ∈ l, x < 24) : ∀ d i (M1 : Mm) (s : Int32 × Nat) (v : Value), i + d = l.length → CmpS M M1 s → Ev XSh mX3_compare 12 [.ref 9, .int (nI i), v] [] M1 (fun r M2 => r = none ∧ CmpS M M2 (cmpO (M 1) (l.drop i) s))
  | 0, i, M1, s, v, h, hs => by
    have hr := hs.row hl
    have hle := hl.2.1
    refine ev_iload_n 13 dX3_compare_12 rfl rfl ?_
    refine ev_aload_n 14 dX3_compare_13 rfl rfl ?_
    refine ev_getIv 17 (nI l.length) dX3_compare_14 rfl flX3_19 rfl rfl hr.1 ?_
    refine ev_icmp_geN 20 90 dX3_compare_17 (by decide) rfl (by omega) (by omega) (fun c17 => ?_) (fun c17 => ?_)
    · exact ev_vret dX3_compare_90 rfl (⟨rfl, by rw [List.drop_of_length_le (by omega)]; exact hs⟩)
    · omega
  | d + 1, i, M1, s, v, h, hs => by
    have hr := hs.row hl
    have hle := hl.2.1
    refine ev_iload_n 13 dX3_compare_12 rfl rfl ?_
    refine ev_aload_n 14 dX3_compare_13 rfl rfl ?_
    refine ev_getIv 17 (nI l.length) dX3_compare_14 rfl flX3_19 rfl rfl hr.1 ?_
    refine ev_icmp_geN 20 90 dX3_compare_17 (by decide) rfl (by omega) (by omega) (fun c17 => ?_) (fun c17 => ?_)
    · omega
    · refine ev_iload_n 21 dX3_compare_20 rfl rfl ?_
      refine ev_iconst 22 (nI 1) dX3_compare_21 (by decide) rfl ?_
      refine ev_iaddN 23 dX3_compare_22 rfl ?_
      refine ev_istore_n 24 _ dX3_compare_23 (by decide) rfl rfl rfl ?_
      refine s_X3_compare_in hl hb (by omega) (l.length - (i + 1)) (i + 1) M1 s (by omega) hs (fun M2 s2 h2 e => ?_)
      refine ev_iincN 87 _ dX3_compare_84 rfl (by decide) rfl rfl rfl ?_
      refine ev_goto 12 dX3_compare_87 (by decide) ?_
      rw [drop_nth (show i < l.length by omega), cmpO, ← e]
      exact s_X3_compare_k hl hb d (i + 1) M2 s2 _ (by omega) h2
theorem s_X3_compare {M : Mm} {l : List Nat} (hl : rowAt M 10 9 2 l) (hb : ∀ x ∈ l, x < 24) : Ct XSh mX3_compare [.ref 9] M (fun r M2 => r = none ∧ CmpS M M2 (cmpO (M 1) l (0, 0))) := by
  show Ev _ _ 0 [.ref 9, .null, .null] [] M _
  refine ev_aload_n 1 dX3_compare_0 rfl rfl ?_
  refine ev_iconst 2 (nI 0) dX3_compare_1 (by decide) rfl ?_
  refine ev_putI 5 dX3_compare_2 rfl flX3_23 fiX3_3 rfl rfl ?_
  refine ev_aload_n 6 dX3_compare_5 rfl rfl ?_
  refine ev_iconst 7 (nI 0) dX3_compare_6 (by decide) rfl ?_
  refine ev_putI 10 dX3_compare_7 rfl flX3_26 fiX3_4 rfl rfl ?_
  refine ev_iconst 11 (nI 0) dX3_compare_10 (by decide) rfl ?_
  refine ev_istore_n 12 _ dX3_compare_11 (by decide) rfl rfl rfl ?_
  have hs : CmpS M (mst (mst M 9 3 (nI 0)) 9 4 (nI 0)) (0, 0) := by
    refine ⟨fun k hk => by rw [mst_other _ _ _ hk, mst_other _ _ _ hk], ?_, ?_, ?_⟩
    · rw [mst_same, upd, if_neg (by decide), mst_same, upd, if_neg (by decide)]
    · rw [mst_same, upd, if_neg (by decide), mst_same, upd, if_pos rfl]; rfl
    · rw [mst_same, upd, if_pos rfl]
  have := s_X3_compare_k hl hb l.length 0 _ _ .null (by omega) hs
  rw [List.drop_zero] at this
  exact this
def Sm22 (M M1 : Mm) : Prop := ∀ k, k ≠ 22 → k ≠ 23 → M1 k = M k
def spkF (l : List Nat) (x : Nat) : List Nat := if x ∈ l then l else if l.length < 24 then l ++ [x] else l
theorem mem_nth {l : List Nat} {x : Nat} : x ∈ l ↔ ∃ i, i < l.length ∧ nth l i = x := by
  constructor
  · intro h
    obtain ⟨i, hi, e⟩ := List.mem_iff_getElem.mp h
    exact ⟨i, hi, by simp [nth, List.getElem?_eq_getElem hi, e]⟩
  · rintro ⟨i, hi, rfl⟩
    exact getD_mem hi
theorem s_X4_add_k {M : Mm} {l : List Nat} {x : Nat} (hl : rowAt M 23 22 1 l) (hx : x < 24) (hbl : ∀ y ∈ l, y < 24) : ∀ d i, i + d = l.length → (∀ j, j < i → nth l j ≠ x) → Ev XSh mX4_add 2 [.ref 22, .int (nI x), .int (nI i)] [] M (fun r M2 => r = none ∧ Sm22 M M2 ∧ rowAt M2 23 22 1 (spkF l x))
  | 0, i, h, hk => by
    have hle := hl.2.1
    refine ev_iload_n 3 dX4_add_2 rfl rfl ?_
    refine ev_aload_n 4 dX4_add_3 rfl rfl ?_
    refine ev_getIv 7 (nI l.length) dX4_add_4 rfl flX4_15 rfl rfl hl.1 ?_
    refine ev_icmp_geN 10 27 dX4_add_7 (by decide) rfl (by omega) (by omega) (fun c7 => ?_) (fun c7 => ?_)
    · have hno : x ∉ l := fun z => by
        obtain ⟨j, hj, e⟩ := mem_nth.mp z
        exact hk j (by omega) e
      refine ev_aload_n 28 dX4_add_27 rfl rfl ?_
      refine ev_getIv 31 (nI l.length) dX4_add_28 rfl flX4_15 rfl rfl hl.1 ?_
      refine ev_bipush 33 (nI 24) dX4_add_31 (by decide) rfl ?_
      refine ev_icmp_geN 36 56 dX4_add_33 (by decide) rfl (by omega) (by omega) (fun c33 => ?_) (fun c33 => ?_)
      · exact ev_vret dX4_add_56 rfl (⟨rfl, fun _ _ _ => rfl, by rw [spkF, if_neg hno, if_neg (by omega)]; exact hl⟩)
      · refine ev_aload_n 37 dX4_add_36 rfl rfl ?_
        refine ev_getR 40 dX4_add_37 rfl flX4_9 rfl rfl ?_
        refine ev_aload_n 41 dX4_add_40 rfl rfl ?_
        refine ev_getIv 44 (nI l.length) dX4_add_41 rfl flX4_15 rfl rfl hl.1 ?_
        refine ev_iload_n 45 dX4_add_44 rfl rfl ?_
        refine ev_iaS 46 dX4_add_45 rfl (by omega) (by decide) rfl ?_
        refine ev_aload_n 47 dX4_add_46 rfl rfl ?_
        refine ev_dup 48 dX4_add_47 rfl rfl ?_
        refine ev_getIv 51 (nI l.length) dX4_add_48 rfl flX4_15 rfl rfl (by rw [mst_other _ _ _ (by decide)]; exact hl.1) ?_
        refine ev_iconst 52 (nI 1) dX4_add_51 (by decide) rfl ?_
        refine ev_iaddN 53 dX4_add_52 rfl ?_
        refine ev_putI 56 dX4_add_53 rfl flX4_15 fiX4_1 rfl rfl ?_
        exact ev_vret dX4_add_56 rfl (⟨rfl, fun k h1 h2 => by rw [mst_other _ _ _ h1, mst_other _ _ _ h2], by rw [spkF, if_neg hno, if_pos (by omega)]; exact hl.push (by decide) (by omega)⟩)
    · omega
  | d + 1, i, h, hk => by
    have hle := hl.2.1
    refine ev_iload_n 3 dX4_add_2 rfl rfl ?_
    refine ev_aload_n 4 dX4_add_3 rfl rfl ?_
    refine ev_getIv 7 (nI l.length) dX4_add_4 rfl flX4_15 rfl rfl hl.1 ?_
    refine ev_icmp_geN 10 27 dX4_add_7 (by decide) rfl (by omega) (by omega) (fun c7 => ?_) (fun c7 => ?_)
    · omega
    · refine ev_aload_n 11 dX4_add_10 rfl rfl ?_
      refine ev_getR 14 dX4_add_11 rfl flX4_9 rfl rfl ?_
      refine ev_iload_n 15 dX4_add_14 rfl rfl ?_
      refine ev_iaN 16 (nI (nth l i)) dX4_add_15 rfl (by omega) (by decide) rfl (hl.2.2 i (by omega)) ?_
      refine ev_iload_n 17 dX4_add_16 rfl rfl ?_
      refine ev_icmp_neN 20 21 dX4_add_17 (by decide) rfl (Nat.lt_trans (hbl _ (getD_mem (by omega))) (by omega)) (by omega) (fun c17 => ?_) (fun c17 => ?_)
      · refine ev_iincN 24 _ dX4_add_21 rfl (by decide) rfl rfl rfl ?_
        refine ev_goto 2 dX4_add_24 (by decide) ?_
        exact s_X4_add_k hl hx hbl d (i + 1) (by omega) (fun j hj => by
          by_cases e : j = i
          · rw [e]; exact c17
          · exact hk j (by omega))
      · exact ev_vret dX4_add_20 rfl (⟨rfl, fun _ _ _ => rfl, by rw [spkF, if_pos (by rw [← c17]; exact getD_mem (by omega))]; exact hl⟩)
theorem s_X4_add {M : Mm} {l : List Nat} {x : Nat} (hl : rowAt M 23 22 1 l) (hx : x < 24) (hbl : ∀ y ∈ l, y < 24) : Ct XSh mX4_add [.ref 22, .int (nI x)] M (fun r M2 => r = none ∧ Sm22 M M2 ∧ rowAt M2 23 22 1 (spkF l x)) := by
  show Ev _ _ 0 [.ref 22, .int (nI x), .null] [] M _
  refine ev_iconst 1 (nI 0) dX4_add_0 (by decide) rfl ?_
  refine ev_istore_n 2 _ dX4_add_1 (by decide) rfl rfl rfl ?_
  exact s_X4_add_k hl hx hbl l.length 0 (by omega) (fun j hj => by omega)
def hdF (l : List Nat) : Int32 := match l with
  | [] => -1
  | x :: _ => nI x
def ShF (M M1 : Mm) (l : List Nat) (i : Nat) : Prop := Sm22 M M1 ∧ M1 22 1 = nI (l.length - 1) ∧ (∀ j, j < i → M1 23 j = nI (nth l (j + 1))) ∧ ∀ j, i ≤ j → M1 23 j = M 23 j
theorem s_X4_takeFirst_k {M : Mm} {l : List Nat} (hl : rowAt M 23 22 1 l) (hne : l.length ≠ 0) (y : Int32) : ∀ d i (M1 : Mm), i + d = l.length - 1 → ShF M M1 l i → Ev XSh mX4_takeFirst 28 [.ref 22, .int y, .int (nI i)] [] M1 (fun r M2 => r = some (.int y) ∧ Sm22 M M2 ∧ rowAt M2 23 22 1 l.tail)
  | 0, i, M1, h, hs => by
    have hle := hl.2.1
    have hi : i = l.length - 1 := by omega
    subst hi
    refine ev_iload_n 29 dX4_takeFirst_28 rfl rfl ?_
    refine ev_aload_n 30 dX4_takeFirst_29 rfl rfl ?_
    refine ev_getIv 33 (nI (l.length - 1)) dX4_takeFirst_30 rfl flX4_15 rfl rfl hs.2.1 ?_
    refine ev_icmp_geN 36 56 dX4_takeFirst_33 (by decide) rfl (by omega) (by omega) (fun c33 => ?_) (fun c33 => ?_)
    · refine ev_iload_n 57 dX4_takeFirst_56 rfl rfl ?_
      exact ev_iret dX4_takeFirst_57 rfl (⟨rfl, hs.1, by rw [show l.tail.length = l.length - 1 from List.length_tail]; exact hs.2.1, by rw [List.length_tail]; omega, fun j hj => by rw [List.length_tail] at hj; rw [hs.2.2.1 j (by omega)]; simp [nth]⟩)
    · omega
  | d + 1, i, M1, h, hs => by
    have hle := hl.2.1
    refine ev_iload_n 29 dX4_takeFirst_28 rfl rfl ?_
    refine ev_aload_n 30 dX4_takeFirst_29 rfl rfl ?_
    refine ev_getIv 33 (nI (l.length - 1)) dX4_takeFirst_30 rfl flX4_15 rfl rfl hs.2.1 ?_
    refine ev_icmp_geN 36 56 dX4_takeFirst_33 (by decide) rfl (by omega) (by omega) (fun c33 => ?_) (fun c33 => ?_)
    · omega
    · refine ev_aload_n 37 dX4_takeFirst_36 rfl rfl ?_
      refine ev_getR 40 dX4_takeFirst_37 rfl flX4_9 rfl rfl ?_
      refine ev_iload_n 41 dX4_takeFirst_40 rfl rfl ?_
      refine ev_aload_n 42 dX4_takeFirst_41 rfl rfl ?_
      refine ev_getR 45 dX4_takeFirst_42 rfl flX4_9 rfl rfl ?_
      refine ev_iload_n 46 dX4_takeFirst_45 rfl rfl ?_
      refine ev_iconst 47 (nI 1) dX4_takeFirst_46 (by decide) rfl ?_
      refine ev_iaddN 48 dX4_takeFirst_47 rfl ?_
      refine ev_iaN 49 (nI (nth l (i + 1))) dX4_takeFirst_48 rfl (by omega) (by decide) rfl (by rw [hs.2.2.2 (i + 1) (by omega)]; exact hl.2.2 (i + 1) (by omega)) ?_
      refine ev_iaS 50 dX4_takeFirst_49 rfl (by omega) (by decide) rfl ?_
      refine ev_iincN 53 _ dX4_takeFirst_50 rfl (by decide) rfl rfl rfl ?_
      refine ev_goto 28 dX4_takeFirst_53 (by decide) ?_
      refine s_X4_takeFirst_k hl hne y d (i + 1) _ (by omega) ⟨fun k h1 h2 => by rw [mst_other _ _ _ h2]; exact hs.1 k h1 h2, by rw [mst_other _ _ _ (by decide)]; exact hs.2.1, fun j hj => ?_, fun j hj => ?_⟩
      · rw [mst_same, upd]
        by_cases e : j = i
        · rw [if_pos e, e]
        · rw [if_neg e]; exact hs.2.2.1 j (by omega)
      · rw [mst_same, upd, if_neg (by omega)]; exact hs.2.2.2 j (by omega)
theorem s_X4_takeFirst {M : Mm} {l : List Nat} (hl : rowAt M 23 22 1 l) : Ct XSh mX4_takeFirst [.ref 22] M (fun r M2 => r = some (.int (hdF l)) ∧ Sm22 M M2 ∧ rowAt M2 23 22 1 l.tail) := by
  have hle := hl.2.1
  show Ev _ _ 0 [.ref 22, .null, .null] [] M _
  refine ev_aload_n 1 dX4_takeFirst_0 rfl rfl ?_
  refine ev_getIv 4 (nI l.length) dX4_takeFirst_1 rfl flX4_15 rfl rfl hl.1 ?_
  refine ev_if_neN 7 9 dX4_takeFirst_4 (by decide) rfl (by omega) (fun c4 => ?_) (fun c4 => ?_)
  · refine ev_aload_n 10 dX4_takeFirst_9 rfl rfl ?_
    refine ev_getR 13 dX4_takeFirst_10 rfl flX4_9 rfl rfl ?_
    refine ev_iconst 14 (nI 0) dX4_takeFirst_13 (by decide) rfl ?_
    refine ev_iaN 15 (nI (nth l 0)) dX4_takeFirst_14 rfl (by decide) (by decide) rfl (hl.2.2 0 (by omega)) ?_
    refine ev_istore_n 16 _ dX4_takeFirst_15 (by decide) rfl rfl rfl ?_
    refine ev_aload_n 17 dX4_takeFirst_16 rfl rfl ?_
    refine ev_dup 18 dX4_takeFirst_17 rfl rfl ?_
    refine ev_getIv 21 (nI l.length) dX4_takeFirst_18 rfl flX4_15 rfl rfl hl.1 ?_
    refine ev_iconst 22 (nI 1) dX4_takeFirst_21 (by decide) rfl ?_
    refine ev_isubN 23 dX4_takeFirst_22 (by omega) rfl ?_
    refine ev_putI 26 dX4_takeFirst_23 rfl flX4_15 fiX4_1 rfl rfl ?_
    refine ev_iconst 27 (nI 0) dX4_takeFirst_26 (by decide) rfl ?_
    refine ev_istore_n 28 _ dX4_takeFirst_27 (by decide) rfl rfl rfl ?_
    have e : hdF l = nI (nth l 0) := by
      cases l with
      | nil => exact absurd rfl c4
      | cons a t => rfl
    rw [e]
    exact s_X4_takeFirst_k hl c4 _ (l.length - 1) 0 _ (by omega) ⟨fun k h1 h2 => mst_other _ _ _ h1, by rw [mst_same, upd, if_pos rfl], fun j hj => by omega, fun j hj => by rw [mst_other _ _ _ (by decide)]⟩
  · refine ev_iconst 8 (-1) dX4_takeFirst_7 (by decide) rfl ?_
    exact ev_iret dX4_takeFirst_8 rfl (⟨by rw [List.length_eq_zero_iff.mp c4]; rfl, fun _ _ _ => rfl, by rw [List.length_eq_zero_iff.mp c4] at hl ⊢; exact hl⟩)
