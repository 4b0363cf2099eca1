/-! Stops -/
def rkN (h : Nat → Int32) (a : Nat) : Nat := if (h (a * 18 + 6)).toNatClampNeg = 0 then 101 else (h (a * 18 + 6)).toNatClampNeg
def plOK (h : Nat → Int32) (a : Nat) : Prop := ∃ v, v ≤ 100 ∧ h (a * 18 + 6) = nI v
theorem rkN_le {h : Nat → Int32} {a : Nat} (hp : plOK h a) : rkN h a ≤ 101 := by
  obtain ⟨v, hv, e⟩ := hp
  rw [rkN, e, nI_clamp (by omega)]
  split <;> omega
def insAt (h : Nat → Int32) (x : Nat) (l : List Nat) : Nat → Nat
  | 0 => 0
  | k + 1 => if rkN h x < rkN h (nth l k) then insAt h x l k else k + 1
theorem insAt_le (h : Nat → Int32) (x : Nat) (l : List Nat) : ∀ k, insAt h x l k ≤ k
  | 0 => Nat.le_refl _
  | k + 1 => by
    have := insAt_le h x l k
    unfold insAt
    split <;> omega
def insL (h : Nat → Int32) (l : List Nat) (x : Nat) : List Nat := l.take (insAt h x l l.length) ++ x :: l.drop (insAt h x l l.length)
theorem insL_len (h : Nat → Int32) (l : List Nat) (x : Nat) : (insL h l x).length = l.length + 1 := by
  have := insAt_le h x l l.length
  simp [insL]
  omega
theorem nth_ins {l : List Nat} {x k i : Nat} (hk : k ≤ l.length) : nth (l.take k ++ x :: l.drop k) i = if i < k then nth l i else if i = k then x else nth l (i - 1) := by
  unfold nth
  rcases Nat.lt_trichotomy i k with q | q | q
  · rw [if_pos q, List.getD_eq_getElem?_getD, List.getD_eq_getElem?_getD, List.getElem?_append_left (by simp; omega), List.getElem?_take_of_lt q]
  · subst q
    simp [List.getElem?_append_right, Nat.min_eq_left hk]
  · rw [if_neg (by omega), if_neg (by omega), List.getD_eq_getElem?_getD, List.getD_eq_getElem?_getD, List.getElem?_append_right (by simp; omega)]
    have e1 : i - (l.take k).length = (i - k - 1) + 1 := by simp; omega
    rw [e1, List.getElem?_cons_succ, List.getElem?_drop]
    congr 2
    omega
theorem ins_len {l : List Nat} {x k : Nat} (hk : k ≤ l.length) : (l.take k ++ x :: l.drop k).length = l.length + 1 := by
  simp
  omega
def Sm11 (M M1 : Mm) : Prop := ∀ k, k ≠ 11 → k ≠ 12 → M1 k = M k

theorem s_X5_rank {M : Mm} {a : Nat} (ha : a < 24) (hp : plOK (M 1) a) : Ct XSh mX5_rank [.ref 11, .int (nI a)] M (RetI (nI (rkN (M 1) a)) M) := by
  obtain ⟨v, hv, e⟩ := hp
  show Ev _ _ 0 [.ref 11, .int (nI a), .null] [] M _
  refine ev_aload_n 1 dX5_rank_0 rfl rfl ?_
  refine ev_getR 4 dX5_rank_1 rfl flX5_15 rfl rfl ?_
  refine ev_iload_n 5 dX5_rank_4 rfl rfl ?_
  refine ev_bipush 7 (nI 6) dX5_rank_5 (by decide) rfl ?_
  refine ev_cV2I (nI v) M 10 dX5_rank_7 mlX5_29 moX2_get rfl imX2_get ⟨_, _, rfl, rfl, rfl⟩ (Nat.le_of_ble_eq_true rfl) (Nat.le_of_ble_eq_true rfl) rfl (by rw [← e]; exact s_X2_get (a := a) (b := 6) ha (by omega)) ?_
  refine ev_istore_n 11 _ dX5_rank_10 (by decide) rfl rfl rfl ?_
  refine ev_iload_n 12 dX5_rank_11 rfl rfl ?_
  refine ev_if_neN 15 20 dX5_rank_12 (by decide) rfl (by omega) (fun c12 => ?_) (fun c12 => ?_)
  · refine ev_iload_n 21 dX5_rank_20 rfl rfl ?_
    exact ev_iret dX5_rank_21 rfl (⟨by rw [rkN, e, nI_clamp (by omega), if_neg c12], rfl⟩)
  · refine ev_bipush 17 (nI 101) dX5_rank_15 (by decide) rfl ?_
    refine ev_goto 21 dX5_rank_17 (by decide) ?_
    exact ev_iret dX5_rank_21 rfl (⟨by rw [rkN, e, nI_clamp (by omega), if_pos c12], rfl⟩)
def InsS (M M1 : Mm) (l : List Nat) (k : Nat) : Prop := Sm11 M M1 ∧ M1 11 2 = M 11 2 ∧ (∀ j, j < k → M1 12 j = nI (nth l j)) ∧ ∀ j, k ≤ j → j < l.length → M1 12 (j + 1) = nI (nth l j)
theorem s_X5_insert_fin {M M1 : Mm} {l : List Nat} {x k : Nat} (hl : rowAt M 12 11 2 l) (hlen : l.length < 24) (hk : k ≤ l.length) (hs : InsS M M1 l k) : Ev XSh mX5_insert 59 [.ref 11, .int (nI x), .int (nI k)] [] M1 (fun r M2 => r = none ∧ Sm11 M M2 ∧ rowAt M2 12 11 2 (l.take k ++ x :: l.drop k)) := by
  refine ev_aload_n 60 dX5_insert_59 rfl rfl ?_
  refine ev_getR 63 dX5_insert_60 rfl flX5_9 rfl rfl ?_
  refine ev_iload_n 64 dX5_insert_63 rfl rfl ?_
  refine ev_iload_n 65 dX5_insert_64 rfl rfl ?_
  refine ev_iaS 66 dX5_insert_65 rfl (by omega) (by decide) rfl ?_
  refine ev_aload_n 67 dX5_insert_66 rfl rfl ?_
  refine ev_dup 68 dX5_insert_67 rfl rfl ?_
  refine ev_getIv 71 (nI l.length) dX5_insert_68 rfl flX5_19 rfl rfl (by rw [mst_other _ _ _ (by decide), hs.2.1]; exact hl.1) ?_
  refine ev_iconst 72 (nI 1) dX5_insert_71 (by decide) rfl ?_
  refine ev_iaddN 73 dX5_insert_72 rfl ?_
  refine ev_putI 76 dX5_insert_73 rfl flX5_19 fiX5_2 rfl rfl ?_
  exact ev_vret dX5_insert_76 rfl (⟨rfl, fun q h1 h2 => by rw [mst_other _ _ _ h1, mst_other _ _ _ h2]; exact hs.1 q h1 h2, by rw [mst_same, upd, if_pos rfl, ins_len hk], by rw [ins_len hk]; omega, fun i hi => by
    rw [mst_other _ _ _ (by decide), mst_same, upd, nth_ins hk]
    rw [ins_len hk] at hi
    rcases Nat.lt_trichotomy i k with q | q | q
    · rw [if_neg (by omega), if_pos q]; exact hs.2.2.1 i q
    · rw [if_pos q, if_neg (by omega), if_pos q]
    · rw [if_neg (by omega), if_neg (by omega), if_neg (by omega)]
      have := hs.2.2.2 (i - 1) (by omega) (by omega)
      rwa [show i - 1 + 1 = i by omega] at this⟩)
theorem s_X5_insert_k {M : Mm} {l : List Nat} {x : Nat} (hl : rowAt M 12 11 2 l) (hlen : l.length < 24) (hb : ∀ y ∈ l, y < 24) (hp : ∀ y ∈ l, plOK (M 1) y) (hx : x < 24) (hpx : plOK (M 1) x) : ∀ k (M1 : Mm), k ≤ l.length → InsS M M1 l k → Ev XSh mX5_insert 15 [.ref 11, .int (nI x), .int (nI k)] [] M1 (fun r M2 => r = none ∧ Sm11 M M2 ∧ rowAt M2 12 11 2 (l.take (insAt (M 1) x l k) ++ x :: l.drop (insAt (M 1) x l k)))
  | 0, M1, hk, hs => by
    refine ev_iload_n 16 dX5_insert_15 rfl rfl ?_
    refine ev_if_leN 19 59 dX5_insert_16 (by decide) rfl (by omega) (fun c16 => ?_) (fun c16 => ?_)
    · exact s_X5_insert_fin hl hlen (by omega) hs
    · exact absurd rfl c16
  | k + 1, M1, hk, hs => by
    have hr1 := rkN_le hpx
    have hr2 := rkN_le (hp _ (getD_mem (show k < l.length by omega)))
    refine ev_iload_n 16 dX5_insert_15 rfl rfl ?_
    refine ev_if_leN 19 59 dX5_insert_16 (by decide) rfl (by omega) (fun c16 => ?_) (fun c16 => ?_)
    · exact absurd c16 (by omega)
    · refine ev_aload_n 20 dX5_insert_19 rfl rfl ?_
      refine ev_iload_n 21 dX5_insert_20 rfl rfl ?_
      refine ev_cV1I (nI (rkN (M 1) x)) M1 24 dX5_insert_21 mlX5_37 moX5_rank rfl imX5_rank ⟨_, _, rfl, rfl, rfl⟩ (Nat.le_of_ble_eq_true rfl) (Nat.le_of_ble_eq_true rfl) rfl (by have e1 := hs.1 1 (by decide) (by decide); rw [← e1]; exact s_X5_rank hx (by rw [e1]; exact hpx)) ?_
      refine ev_aload_n 25 dX5_insert_24 rfl rfl ?_
      refine ev_aload_n 26 dX5_insert_25 rfl rfl ?_
      refine ev_getR 29 dX5_insert_26 rfl flX5_9 rfl rfl ?_
      refine ev_iload_n 30 dX5_insert_29 rfl rfl ?_
      refine ev_iconst 31 (nI 1) dX5_insert_30 (by decide) rfl ?_
      refine ev_isubN 32 dX5_insert_31 (by omega) rfl ?_
      refine ev_iaN 33 (nI (nth l k)) dX5_insert_32 rfl (by omega) (by decide) rfl (hs.2.2.1 k (by omega)) ?_
      refine ev_cV1I (nI (rkN (M 1) (nth l k))) M1 36 dX5_insert_33 mlX5_37 moX5_rank rfl imX5_rank ⟨_, _, rfl, rfl, rfl⟩ (Nat.le_of_ble_eq_true rfl) (Nat.le_of_ble_eq_true rfl) rfl (by have e1 := hs.1 1 (by decide) (by decide); rw [← e1]; exact s_X5_rank (hb _ (getD_mem (by omega))) (by rw [e1]; exact (hp _ (getD_mem (by omega))))) ?_
      refine ev_icmp_geN 39 59 dX5_insert_36 (by decide) rfl (by omega) (by omega) (fun c36 => ?_) (fun c36 => ?_)
      · rw [show insAt (M 1) x l (k + 1) = k + 1 from by rw [insAt, if_neg (by omega)]]
        exact s_X5_insert_fin hl hlen hk hs
      · refine ev_aload_n 40 dX5_insert_39 rfl rfl ?_
        refine ev_getR 43 dX5_insert_40 rfl flX5_9 rfl rfl ?_
        refine ev_iload_n 44 dX5_insert_43 rfl rfl ?_
        refine ev_aload_n 45 dX5_insert_44 rfl rfl ?_
        refine ev_getR 48 dX5_insert_45 rfl flX5_9 rfl rfl ?_
        refine ev_iload_n 49 dX5_insert_48 rfl rfl ?_
        refine ev_iconst 50 (nI 1) dX5_insert_49 (by decide) rfl ?_
        refine ev_isubN 51 dX5_insert_50 (by omega) rfl ?_
        refine ev_iaN 52 (nI (nth l k)) dX5_insert_51 rfl (by omega) (by decide) rfl (hs.2.2.1 k (by omega)) ?_
        refine ev_iaS 53 dX5_insert_52 rfl (by omega) (by decide) rfl ?_
        refine ev_iincD 56 _ dX5_insert_53 rfl (by decide) rfl rfl rfl ?_
        refine ev_goto 15 dX5_insert_56 (by decide) ?_
        rw [show insAt (M 1) x l (k + 1) = insAt (M 1) x l k from by rw [insAt, if_pos (by omega)]]
        refine s_X5_insert_k hl hlen hb hp hx hpx k _ (by omega) ⟨fun q h1 h2 => by rw [mst_other _ _ _ h2]; exact hs.1 q h1 h2, by rw [mst_other _ _ _ (by decide)]; exact hs.2.1, fun j hj => ?_, fun j h1 h2 => ?_⟩
        · rw [mst_same, upd, if_neg (by omega)]; exact hs.2.2.1 j (by omega)
        · rw [mst_same, upd]
          by_cases e : j = k
          · rw [if_pos (by omega), e]
          · rw [if_neg (by omega)]; exact hs.2.2.2 j (by omega) h2
theorem s_X5_insert {M : Mm} {l : List Nat} {x : Nat} (hl : rowAt M 12 11 2 l) (hlen : l.length < 24) (hb : ∀ y ∈ l, y < 24) (hp : ∀ y ∈ l, plOK (M 1) y) (hx : x < 24) (hpx : plOK (M 1) x) : Ct XSh mX5_insert [.ref 11, .int (nI x)] M (fun r M2 => r = none ∧ Sm11 M M2 ∧ rowAt M2 12 11 2 (insL (M 1) l x)) := by
  show Ev _ _ 0 [.ref 11, .int (nI x), .null] [] M _
  refine ev_aload_n 1 dX5_insert_0 rfl rfl ?_
  refine ev_getIv 4 (nI l.length) dX5_insert_1 rfl flX5_19 rfl rfl hl.1 ?_
  refine ev_bipush 6 (nI 24) dX5_insert_4 (by decide) rfl ?_
  refine ev_icmp_ltN 9 10 dX5_insert_6 (by decide) rfl (by omega) (by omega) (fun c6 => ?_) (fun c6 => ?_)
  · refine ev_aload_n 11 dX5_insert_10 rfl rfl ?_
    refine ev_getIv 14 (nI l.length) dX5_insert_11 rfl flX5_19 rfl rfl hl.1 ?_
    refine ev_istore_n 15 _ dX5_insert_14 (by decide) rfl rfl rfl ?_
    exact s_X5_insert_k hl hlen hb hp hx hpx l.length M (Nat.le_refl _) ⟨fun _ _ _ => rfl, rfl, fun j hj => hl.2.2 j hj, fun j h1 h2 => by omega⟩
  · omega
def stK (h : Nat → Int32) (a : Nat) : Bool := (h (a * 18 + 10) == nI 2) || (h (a * 18 + 10) == nI 3)
def arrF (h : Nat → Int32) (ol : List Nat) : List Nat := (ol.filter (stK h)).foldl (insL h) []
theorem arrF_snoc {h : Nat → Int32} {ol : List Nat} {i : Nat} (hi : i < ol.length) : arrF h (ol.take (i + 1)) = if stK h (nth ol i) then insL h (arrF h (ol.take i)) (nth ol i) else arrF h (ol.take i) := by
  rw [take_snoc hi, arrF, List.filter_append, List.foldl_append, ← arrF]
  cases hb : stK h (nth ol i) <;> simp [List.filter, hb]
theorem insL_mem {h : Nat → Int32} {l : List Nat} {x y : Nat} : y ∈ insL h l x ↔ y = x ∨ y ∈ l := by
  unfold insL
  rw [List.mem_append, List.mem_cons]
  constructor
  · rintro (z | z | z)
    · exact Or.inr (List.mem_of_mem_take z)
    · exact Or.inl z
    · exact Or.inr (List.mem_of_mem_drop z)
  · rintro (z | z)
    · exact Or.inr (Or.inl z)
    · rw [← List.take_append_drop (insAt h x l l.length) l, List.mem_append] at z
      exact z.elim Or.inl (fun q => Or.inr (Or.inr q))
theorem foldl_ins_mem {h : Nat → Int32} {y : Nat} : ∀ (s l : List Nat), y ∈ s.foldl (insL h) l ↔ y ∈ s ∨ y ∈ l
  | [], l => by simp
  | x :: s, l => by
    rw [List.foldl_cons, foldl_ins_mem s, insL_mem, List.mem_cons]
    constructor
    · rintro (z | z | z)
      · exact Or.inl (Or.inr z)
      · exact Or.inl (Or.inl z)
      · exact Or.inr z
    · rintro ((z | z) | z)
      · exact Or.inr (Or.inl z)
      · exact Or.inl z
      · exact Or.inr (Or.inr z)
theorem foldl_ins_len {h : Nat → Int32} : ∀ (s l : List Nat), (s.foldl (insL h) l).length = s.length + l.length
  | [], l => by simp
  | x :: s, l => by rw [List.foldl_cons, foldl_ins_len s, insL_len, List.length_cons]; omega
theorem arrF_mem {h : Nat → Int32} {ol : List Nat} {y : Nat} : y ∈ arrF h ol ↔ y ∈ ol ∧ stK h y = true := by
  rw [arrF, foldl_ins_mem, List.mem_filter]; simp
theorem arrF_len (h : Nat → Int32) (ol : List Nat) : (arrF h ol).length ≤ ol.length := by
  rw [arrF, foldl_ins_len]
  simpa using List.length_filter_le _ _

theorem s_X5_arrange_k {M : Mm} {ol : List Nat} (ho : rowAt M 5 0 5 ol) (hb : ∀ x ∈ ol, x < 24) (hp : ∀ x ∈ ol, plOK (M 1) x) : ∀ d i (M1 : Mm) (v w : Value), i + d = ol.length → Sm11 M M1 → rowAt M1 12 11 2 (arrF (M 1) (ol.take i)) → Ev XSh mX5_arrange 7 [.ref 11, .int (nI i), v, w] [] M1 (fun r M2 => r = none ∧ Sm11 M M2 ∧ rowAt M2 12 11 2 (arrF (M 1) ol))
  | 0, i, M1, v, w, h, hm, hr => by
    have hs1 : M1 0 5 = nI ol.length := by rw [hm 0 (by decide) (by decide)]; exact ho.1
    have hol := ho.2.1
    refine ev_iload_n 8 dX5_arrange_7 rfl rfl ?_
    refine ev_aload_n 9 dX5_arrange_8 rfl rfl ?_
    refine ev_getR 12 dX5_arrange_9 rfl flX5_15 rfl rfl ?_
    refine ev_getIv 15 (nI ol.length) dX5_arrange_12 rfl flX5_23 rfl rfl hs1 ?_
    refine ev_icmp_geN 18 60 dX5_arrange_15 (by decide) rfl (by omega) (by omega) (fun c15 => ?_) (fun c15 => ?_)
    · exact ev_vret dX5_arrange_60 rfl (⟨rfl, hm, by rw [List.take_of_length_le (by omega)] at hr; exact hr⟩)
    · omega
  | d + 1, i, M1, v, w, h, hm, hr => by
    have hs1 : M1 0 5 = nI ol.length := by rw [hm 0 (by decide) (by decide)]; exact ho.1
    have hol := ho.2.1
    have hx : nth ol i < 24 := hb _ (getD_mem (by omega))
    have e1 : M1 1 = M 1 := hm 1 (by decide) (by decide)
    have hlen : (arrF (M 1) (ol.take i)).length ≤ i := Nat.le_trans (arrF_len _ _) (by simp; omega)
    refine ev_iload_n 8 dX5_arrange_7 rfl rfl ?_
    refine ev_aload_n 9 dX5_arrange_8 rfl rfl ?_
    refine ev_getR 12 dX5_arrange_9 rfl flX5_15 rfl rfl ?_
    refine ev_getIv 15 (nI ol.length) dX5_arrange_12 rfl flX5_23 rfl rfl hs1 ?_
    refine ev_icmp_geN 18 60 dX5_arrange_15 (by decide) rfl (by omega) (by omega) (fun c15 => ?_) (fun c15 => ?_)
    · omega
    · refine ev_aload_n 19 dX5_arrange_18 rfl rfl ?_
      refine ev_getR 22 dX5_arrange_19 rfl flX5_15 rfl rfl ?_
      refine ev_getR 25 dX5_arrange_22 rfl flX5_26 rfl rfl ?_
      refine ev_iload_n 26 dX5_arrange_25 rfl rfl ?_
      refine ev_iaN 27 (nI (nth ol i)) dX5_arrange_26 rfl (by omega) (by decide) rfl (by rw [hm 5 (by decide) (by decide)]; exact ho.2.2 i (by omega)) ?_
      refine ev_istore_n 28 _ dX5_arrange_27 (by decide) rfl rfl rfl ?_
      refine ev_aload_n 29 dX5_arrange_28 rfl rfl ?_
      refine ev_getR 32 dX5_arrange_29 rfl flX5_15 rfl rfl ?_
      refine ev_iload_n 33 dX5_arrange_32 rfl rfl ?_
      refine ev_bipush 35 (nI 10) dX5_arrange_33 (by decide) rfl ?_
      refine ev_cV2I (M 1 (nth ol i * 18 + 10)) M1 38 dX5_arrange_35 mlX5_29 moX2_get rfl imX2_get ⟨_, _, rfl, rfl, rfl⟩ (Nat.le_of_ble_eq_true rfl) (Nat.le_of_ble_eq_true rfl) rfl (by rw [← e1]; exact s_X2_get hx (by omega)) ?_
      refine ev_istore_n 39 _ dX5_arrange_38 (by decide) rfl rfl rfl ?_
      refine ev_iload_n 40 dX5_arrange_39 rfl rfl ?_
      refine ev_iconst 41 (nI 2) dX5_arrange_40 (by decide) rfl ?_
      refine ev_icmp_eq 44 49 dX5_arrange_41 (by decide) rfl (fun c41 => ?_) (fun c41 => ?_)
      · refine ev_aload_n 50 dX5_arrange_49 rfl rfl ?_
        refine ev_iload_n 51 dX5_arrange_50 rfl rfl ?_
        refine ev_cV1 54 dX5_arrange_51 mlX5_33 moX5_insert rfl imX5_insert ⟨_, _, rfl, rfl, rfl⟩ (Nat.le_of_ble_eq_true rfl) (Nat.le_of_ble_eq_true rfl) rfl (s_X5_insert hr (by omega) (fun y hy => hb _ (List.mem_of_mem_take (arrF_mem.mp hy).1)) (fun y hy => by rw [e1]; exact hp _ (List.mem_of_mem_take (arrF_mem.mp hy).1)) hx (by rw [e1]; exact hp _ (getD_mem (by omega)))) ?_
        rintro r M2 ⟨rfl, hm2, hr2⟩
        refine ev_iincN 57 _ dX5_arrange_54 rfl (by decide) rfl rfl rfl ?_
        refine ev_goto 7 dX5_arrange_57 (by decide) ?_
        refine s_X5_arrange_k ho hb hp d (i + 1) M2 _ _ (by omega) (fun q h1 h2 => by rw [hm2 q h1 h2]; exact hm q h1 h2) ?_
        rw [arrF_snoc (by omega), if_pos (by first | (rw [stK, beq_iff_eq.mpr c41]; rfl) | (rw [stK, beq_iff_eq.mpr c46, Bool.or_true]))]
        rw [e1] at hr2
        exact hr2
      · refine ev_iload_n 45 dX5_arrange_44 rfl rfl ?_
        refine ev_iconst 46 (nI 3) dX5_arrange_45 (by decide) rfl ?_
        refine ev_icmp_ne 49 54 dX5_arrange_46 (by decide) rfl (fun c46 => ?_) (fun c46 => ?_)
        · refine ev_iincN 57 _ dX5_arrange_54 rfl (by decide) rfl rfl rfl ?_
          refine ev_goto 7 dX5_arrange_57 (by decide) ?_
          exact s_X5_arrange_k ho hb hp d (i + 1) M1 _ _ (by omega) hm (by rw [arrF_snoc (by omega), if_neg (by rw [stK, beq_eq_false_iff_ne.mpr c41, beq_eq_false_iff_ne.mpr c46]; decide)]; exact hr)
        · refine ev_aload_n 50 dX5_arrange_49 rfl rfl ?_
          refine ev_iload_n 51 dX5_arrange_50 rfl rfl ?_
          refine ev_cV1 54 dX5_arrange_51 mlX5_33 moX5_insert rfl imX5_insert ⟨_, _, rfl, rfl, rfl⟩ (Nat.le_of_ble_eq_true rfl) (Nat.le_of_ble_eq_true rfl) rfl (s_X5_insert hr (by omega) (fun y hy => hb _ (List.mem_of_mem_take (arrF_mem.mp hy).1)) (fun y hy => by rw [e1]; exact hp _ (List.mem_of_mem_take (arrF_mem.mp hy).1)) hx (by rw [e1]; exact hp _ (getD_mem (by omega)))) ?_
          rintro r M2 ⟨rfl, hm2, hr2⟩
          refine ev_iincN 57 _ dX5_arrange_54 rfl (by decide) rfl rfl rfl ?_
          refine ev_goto 7 dX5_arrange_57 (by decide) ?_
          refine s_X5_arrange_k ho hb hp d (i + 1) M2 _ _ (by omega) (fun q h1 h2 => by rw [hm2 q h1 h2]; exact hm q h1 h2) ?_
          rw [arrF_snoc (by omega), if_pos (by first | (rw [stK, beq_iff_eq.mpr c41]; rfl) | (rw [stK, beq_iff_eq.mpr c46, Bool.or_true]))]
          rw [e1] at hr2
          exact hr2
theorem s_X5_arrange {M : Mm} {ol : List Nat} (ho : rowAt M 5 0 5 ol) (hb : ∀ x ∈ ol, x < 24) (hp : ∀ x ∈ ol, plOK (M 1) x) : Ct XSh mX5_arrange [.ref 11] M (fun r M2 => r = none ∧ Sm11 M M2 ∧ rowAt M2 12 11 2 (arrF (M 1) ol)) := by
  show Ev _ _ 0 [.ref 11, .null, .null, .null] [] M _
  refine ev_aload_n 1 dX5_arrange_0 rfl rfl ?_
  refine ev_iconst 2 (nI 0) dX5_arrange_1 (by decide) rfl ?_
  refine ev_putI 5 dX5_arrange_2 rfl flX5_19 fiX5_2 rfl rfl ?_
  refine ev_iconst 6 (nI 0) dX5_arrange_5 (by decide) rfl ?_
  refine ev_istore_n 7 _ dX5_arrange_6 (by decide) rfl rfl rfl ?_
  exact s_X5_arrange_k ho hb hp ol.length 0 _ _ _ (by omega) (fun k h1 h2 => mst_other _ _ _ h1) ⟨by rw [mst_same, upd]; rfl, by simp [arrF], fun i hi => by simp [arrF] at hi⟩
def optI (x : Option Nat) : Int32 := match x with
  | some a => nI a
  | none => -1
def fAt (l : List Nat) (sh : Int32) (k : Int32) : Int32 := if k < 0 then -1 else optI ((l.filter (bt sh))[k.toNatClampNeg]?)
theorem s_X5_at_k {M : Mm} {l : List Nat} (hl : rowAt M 12 11 2 l) (hb : ∀ x ∈ l, x < 24) (sh k : Int32) : ∀ d i q, i + d = l.length → q < 2 ^ 31 → Ev XSh mX5_at 11 [.ref 11, .int k, .int sh, .int (nI q), .int (nI i)] [] M (RetI (optI (((l.drop i).filter (bt sh))[q]?)) M)
  | 0, i, q, h, hq => by
    have hle := hl.2.1
    refine ev_iload 13 dX5_at_11 rfl rfl ?_
    refine ev_aload_n 14 dX5_at_13 rfl rfl ?_
    refine ev_getIv 17 (nI l.length) dX5_at_14 rfl flX5_19 rfl rfl hl.1 ?_
    refine ev_icmp_geN 20 55 dX5_at_17 (by decide) rfl (by omega) (by omega) (fun c17 => ?_) (fun c17 => ?_)
    · refine ev_iconst 56 (-1) dX5_at_55 (by decide) rfl ?_
      exact ev_iret dX5_at_56 rfl (⟨by rw [List.drop_of_length_le (by omega)]; rfl, rfl⟩)
    · omega
  | d + 1, i, q, h, hq => by
    have hle := hl.2.1
    have hx : nth l i < 24 := hb _ (getD_mem (by omega))
    refine ev_iload 13 dX5_at_11 rfl rfl ?_
    refine ev_aload_n 14 dX5_at_13 rfl rfl ?_
    refine ev_getIv 17 (nI l.length) dX5_at_14 rfl flX5_19 rfl rfl hl.1 ?_
    refine ev_icmp_geN 20 55 dX5_at_17 (by decide) rfl (by omega) (by omega) (fun c17 => ?_) (fun c17 => ?_)
    · omega
    · refine ev_iload_n 21 dX5_at_20 rfl rfl ?_
      refine ev_aload_n 22 dX5_at_21 rfl rfl ?_
      refine ev_getR 25 dX5_at_22 rfl flX5_9 rfl rfl ?_
      refine ev_iload 27 dX5_at_25 rfl rfl ?_
      refine ev_iaN 28 (nI (nth l i)) dX5_at_27 rfl (by omega) (by decide) rfl (hl.2.2 i (by omega)) ?_
      refine ev_cS2I (bI (bt sh (nth l i))) M 31 dX5_at_28 mlX5_41 moX7_holds rfl smX7_holds (Nat.le_of_ble_eq_true rfl) (Nat.le_of_ble_eq_true rfl) rfl (by have := s_holds (Sh := XSh) (M := M) sh (nI (nth l i)); rwa [hB_nI hx] at this) ?_
      refine ev_if_eqB 34 49 dX5_at_31 (by decide) rfl (fun c31 => ?_) (fun c31 => ?_)
      · refine ev_iincN 52 _ dX5_at_49 rfl (by decide) rfl rfl rfl ?_
        refine ev_goto 11 dX5_at_52 (by decide) ?_
        rw [drop_nth (show i < l.length by omega), List.filter_cons, if_neg (by rw [c31]; decide)]
        exact s_X5_at_k hl hb sh k d (i + 1) q (by omega) hq
      · refine ev_iload_n 35 dX5_at_34 rfl rfl ?_
        refine ev_if_neN 38 46 dX5_at_35 (by decide) rfl hq (fun c35 => ?_) (fun c35 => ?_)
        · obtain ⟨q', rfl⟩ : ∃ q', q = q' + 1 := ⟨q - 1, by omega⟩
          refine ev_iincD 49 _ dX5_at_46 rfl (by decide) rfl rfl rfl ?_
          refine ev_iincN 52 _ dX5_at_49 rfl (by decide) rfl rfl rfl ?_
          refine ev_goto 11 dX5_at_52 (by decide) ?_
          rw [drop_nth (show i < l.length by omega), List.filter_cons, if_pos c31, List.getElem?_cons_succ]
          exact s_X5_at_k hl hb sh k d (i + 1) q' (by omega) (by omega)
        · refine ev_aload_n 39 dX5_at_38 rfl rfl ?_
          refine ev_getR 42 dX5_at_39 rfl flX5_9 rfl rfl ?_
          refine ev_iload 44 dX5_at_42 rfl rfl ?_
          refine ev_iaN 45 (nI (nth l i)) dX5_at_44 rfl (by omega) (by decide) rfl (hl.2.2 i (by omega)) ?_
          exact ev_iret dX5_at_45 rfl (⟨by rw [drop_nth (show i < l.length by omega), List.filter_cons, if_pos c31, c35]; rfl, rfl⟩)
theorem s_X5_at {M : Mm} {l : List Nat} (hl : rowAt M 12 11 2 l) (hb : ∀ x ∈ l, x < 24) (sh k : Int32) : Ct XSh mX5_at [.ref 11, .int k, .int sh] M (RetI (fAt l sh k) M) := by
  show Ev _ _ 0 [.ref 11, .int k, .int sh, .null, .null] [] M _
  refine ev_iload_n 1 dX5_at_0 rfl rfl ?_
  refine ev_if_ge 4 6 dX5_at_1 (by decide) rfl (fun c1 => ?_) (fun c1 => ?_)
  · have hk0 : ¬ k < 0 := fun z => (i_lt_nle z) c1
    rw [fAt, if_neg hk0]
    obtain ⟨q, hq, rfl⟩ := nI_of hk0
    rw [nI_clamp hq]
    refine ev_iload_n 7 dX5_at_6 rfl rfl ?_
    refine ev_istore_n 8 _ dX5_at_7 (by decide) rfl rfl rfl ?_
    refine ev_iconst 9 (nI 0) dX5_at_8 (by decide) rfl ?_
    refine ev_istore 11 _ dX5_at_9 (by decide) rfl rfl rfl ?_
    have := s_X5_at_k hl hb sh (nI q) l.length 0 q (by omega) hq
    rw [List.drop_zero] at this
    exact this
  · refine ev_iconst 5 (-1) dX5_at_4 (by decide) rfl ?_
    exact ev_iret dX5_at_5 rfl (⟨by rw [fAt, if_pos (Classical.byContradiction fun z => c1 (i_nlt_le z))], rfl⟩)
def spF (l : List Nat) (x : Int32) : Nat → Int32
  | 0 => -1
  | d + 1 => if nI (nth l (l.length - (d + 1))) = x then nI (l.length - (d + 1)) else spF l x d
theorem s_X5_spotOf_k {M : Mm} {l : List Nat} (hl : rowAt M 12 11 2 l) (x : Int32) : ∀ d i, i + d = l.length → Ev XSh mX5_spotOf 2 [.ref 11, .int x, .int (nI i)] [] M (RetI (spF l x d) M)
  | 0, i, h => by
    have hle := hl.2.1
    refine ev_iload_n 3 dX5_spotOf_2 rfl rfl ?_
    refine ev_aload_n 4 dX5_spotOf_3 rfl rfl ?_
    refine ev_getIv 7 (nI l.length) dX5_spotOf_4 rfl flX5_19 rfl rfl hl.1 ?_
    refine ev_icmp_geN 10 28 dX5_spotOf_7 (by decide) rfl (by omega) (by omega) (fun c7 => ?_) (fun c7 => ?_)
    · refine ev_iconst 29 (-1) dX5_spotOf_28 (by decide) rfl ?_
      exact ev_iret dX5_spotOf_29 rfl (⟨rfl, rfl⟩)
    · omega
  | d + 1, i, h => by
    have hle := hl.2.1
    refine ev_iload_n 3 dX5_spotOf_2 rfl rfl ?_
    refine ev_aload_n 4 dX5_spotOf_3 rfl rfl ?_
    refine ev_getIv 7 (nI l.length) dX5_spotOf_4 rfl flX5_19 rfl rfl hl.1 ?_
    refine ev_icmp_geN 10 28 dX5_spotOf_7 (by decide) rfl (by omega) (by omega) (fun c7 => ?_) (fun c7 => ?_)
    · omega
    · refine ev_aload_n 11 dX5_spotOf_10 rfl rfl ?_
      refine ev_getR 14 dX5_spotOf_11 rfl flX5_9 rfl rfl ?_
      refine ev_iload_n 15 dX5_spotOf_14 rfl rfl ?_
      refine ev_iaN 16 (nI (nth l i)) dX5_spotOf_15 rfl (by omega) (by decide) rfl (hl.2.2 i (by omega)) ?_
      refine ev_iload_n 17 dX5_spotOf_16 rfl rfl ?_
      refine ev_icmp_ne 20 22 dX5_spotOf_17 (by decide) rfl (fun c17 => ?_) (fun c17 => ?_)
      · refine ev_iincN 25 _ dX5_spotOf_22 rfl (by decide) rfl rfl rfl ?_
        refine ev_goto 2 dX5_spotOf_25 (by decide) ?_
        rw [spF, if_neg (by rw [show l.length - (d + 1) = i by omega]; exact c17)]
        exact s_X5_spotOf_k hl x d (i + 1) (by omega)
      · refine ev_iload_n 21 dX5_spotOf_20 rfl rfl ?_
        exact ev_iret dX5_spotOf_21 rfl (⟨by rw [spF, show l.length - (d + 1) = i by omega, if_pos c17], rfl⟩)
theorem s_X5_spotOf {M : Mm} {l : List Nat} (hl : rowAt M 12 11 2 l) (x : Int32) : Ct XSh mX5_spotOf [.ref 11, .int x] M (RetI (spF l x l.length) M) := by
  show Ev _ _ 0 [.ref 11, .int x, .null] [] M _
  refine ev_iconst 1 (nI 0) dX5_spotOf_0 (by decide) rfl ?_
  refine ev_istore_n 2 _ dX5_spotOf_1 (by decide) rfl rfl rfl ?_
  exact s_X5_spotOf_k hl x l.length 0 (by omega)
def nxB (len k : Nat) : Nat := if k < len then k else 0
def nxA (len k : Nat) : Nat := if 2 ≤ k then k - 2 else len - 1
theorem pm_1 (k : Nat) : pm k + nI 1 = nI k := by
  cases k with
  | zero => decide +kernel
  | succ k => rw [pm_s, nI_add]
theorem pm_pos {k : Nat} (hk : k ≤ 24) : pm k ≤ 0 ↔ k < 2 := by
  cases k with
  | zero => rw [pm_0]; exact ⟨fun _ => by omega, fun _ => by decide⟩
  | succ k =>
    rw [pm_s, show (0 : Int32) = nI 0 from rfl, nI_leI (by omega) (by omega)]
    omega
theorem s_X5_spotBehind {M : Mm} {l : List Nat} (hl : rowAt M 12 11 2 l) {k : Nat} (hk : k ≤ 24) : Ct XSh mX5_spotBehind [.ref 11, .int (pm k)] M (RetI (nI (nxB l.length k)) M) := by
  have hle := hl.2.1
  show Ev _ _ 0 [.ref 11, .int (pm k)] [] M _
  refine ev_iload_n 1 dX5_spotBehind_0 rfl rfl ?_
  refine ev_iconst 2 (nI 1) dX5_spotBehind_1 (by decide) rfl ?_
  refine ev_iadd 3 dX5_spotBehind_2 rfl ?_
  refine ev_eqI (pm_1 k) ?_
  refine ev_aload_n 4 dX5_spotBehind_3 rfl rfl ?_
  refine ev_getIv 7 (nI l.length) dX5_spotBehind_4 rfl flX5_19 rfl rfl hl.1 ?_
  refine ev_icmp_geN 10 16 dX5_spotBehind_7 (by decide) rfl (by omega) (by omega) (fun c7 => ?_) (fun c7 => ?_)
  · refine ev_iconst 17 (nI 0) dX5_spotBehind_16 (by decide) rfl ?_
    exact ev_iret dX5_spotBehind_17 rfl (⟨by rw [nxB, if_neg (by omega)], rfl⟩)
  · refine ev_iload_n 11 dX5_spotBehind_10 rfl rfl ?_
    refine ev_iconst 12 (nI 1) dX5_spotBehind_11 (by decide) rfl ?_
    refine ev_iadd 13 dX5_spotBehind_12 rfl ?_
    refine ev_eqI (pm_1 k) ?_
    refine ev_goto 17 dX5_spotBehind_13 (by decide) ?_
    exact ev_iret dX5_spotBehind_17 rfl (⟨by rw [nxB, if_pos (by omega)], rfl⟩)
theorem s_X5_spotAhead {M : Mm} {l : List Nat} (hl : rowAt M 12 11 2 l) (hlen : 0 < l.length) {k : Nat} (hk : k ≤ 24) : Ct XSh mX5_spotAhead [.ref 11, .int (pm k)] M (RetI (nI (nxA l.length k)) M) := by
  have hle := hl.2.1
  show Ev _ _ 0 [.ref 11, .int (pm k)] [] M _
  refine ev_iload_n 1 dX5_spotAhead_0 rfl rfl ?_
  refine ev_if_le 4 10 dX5_spotAhead_1 (by decide) rfl (fun c1 => ?_) (fun c1 => ?_)
  · refine ev_aload_n 11 dX5_spotAhead_10 rfl rfl ?_
    refine ev_getIv 14 (nI l.length) dX5_spotAhead_11 rfl flX5_19 rfl rfl hl.1 ?_
    refine ev_iconst 15 (nI 1) dX5_spotAhead_14 (by decide) rfl ?_
    refine ev_isubN 16 dX5_spotAhead_15 (by omega) rfl ?_
    exact ev_iret dX5_spotAhead_16 rfl (⟨by rw [nxA, if_neg (by have := (pm_pos hk).mp c1; omega)], rfl⟩)
  · refine ev_iload_n 5 dX5_spotAhead_4 rfl rfl ?_
    refine ev_iconst 6 (nI 1) dX5_spotAhead_5 (by decide) rfl ?_
    refine ev_isub 7 dX5_spotAhead_6 rfl ?_
    refine ev_eqI (show pm k - nI 1 = nI (k - 2) from by
      obtain ⟨q, rfl⟩ : ∃ q, k = q + 2 := ⟨k - 2, by have := mt (pm_pos hk).mpr c1; omega⟩
      rw [show q + 2 = (q + 1) + 1 from rfl, pm_s]; exact nI_pred q) ?_
    refine ev_goto 16 dX5_spotAhead_7 (by decide) ?_
    exact ev_iret dX5_spotAhead_16 rfl (⟨by rw [nxA, if_pos (by have := mt (pm_pos hk).mpr c1; omega)], rfl⟩)
