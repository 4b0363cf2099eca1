section
/-! lists: stable insertion and filters, the next one of a ring -/
theorem nth_get {l : List Nat} {i : Nat} (h : i < l.length) : nth l i = l[i] := by simp [nth, h]
def srt (h : Nat → Int32) (l : List Nat) : Prop := l.Pairwise (fun a b => rkN h a ≤ rkN h b)
theorem insAt_hi {h : Nat → Int32} {x : Nat} {l : List Nat} : ∀ k, ∀ i, insAt h x l k ≤ i → i < k → rkN h x < rkN h (nth l i)
  | 0, i, _, h2 => absurd h2 (Nat.not_lt_zero _)
  | k + 1, i, h1, h2 => by
    rw [insAt] at h1
    split at h1
    · rename_i c
      by_cases e : i = k
      · rw [e]; exact c
      · exact insAt_hi k i h1 (by omega)
    · omega
theorem insAt_lo {h : Nat → Int32} {x : Nat} {l : List Nat} : ∀ k, insAt h x l k = 0 ∨ rkN h (nth l (insAt h x l k - 1)) ≤ rkN h x
  | 0 => Or.inl rfl
  | k + 1 => by
    rw [insAt]
    split
    · exact insAt_lo k
    · right
      rename_i c
      show rkN h (nth l k) ≤ _
      omega
theorem ins_eq {h : Nat → Int32} {x : Nat} {l : List Nat} (hs : srt h l) : l.take (insAt h x l l.length) = l.filter (fun y => decide (rkN h y ≤ rkN h x)) ∧ l.drop (insAt h x l l.length) = l.filter (fun y => decide (rkN h x < rkN h y)) := by
  have hm := insAt_le h x l l.length
  have hlo : ∀ y ∈ l.take (insAt h x l l.length), rkN h y ≤ rkN h x := by
    intro y hy
    obtain ⟨i, hi, rfl⟩ := List.mem_iff_getElem.mp hy
    rw [List.length_take] at hi
    rw [List.getElem_take]
    rcases insAt_lo (h := h) (x := x) (l := l) l.length with z | z
    · omega
    · rw [nth_get (by omega)] at z
      by_cases e : i = insAt h x l l.length - 1
      · subst e; exact z
      · exact Nat.le_trans (List.pairwise_iff_getElem.mp hs i (insAt h x l l.length - 1) (by omega) (by omega) (by omega)) z
  have hhi : ∀ y ∈ l.drop (insAt h x l l.length), rkN h x < rkN h y := by
    intro y hy
    obtain ⟨i, hi, rfl⟩ := List.mem_iff_getElem.mp hy
    rw [List.length_drop] at hi
    rw [List.getElem_drop]
    have z := insAt_hi (h := h) (x := x) (l := l) l.length (insAt h x l l.length + i) (by omega) (by omega)
    rwa [nth_get (by omega)] at z
  have hf : ∀ P : Nat → Bool, l.filter P = (l.take (insAt h x l l.length)).filter P ++ (l.drop (insAt h x l l.length)).filter P := fun P => by
    rw [← List.filter_append, List.take_append_drop]
  constructor
  · rw [hf, List.filter_eq_self.mpr (fun y hy => decide_eq_true (hlo y hy)), List.filter_eq_nil_iff.mpr (fun y hy => by have := hhi y hy; simp; omega), List.append_nil]
  · rw [hf, List.filter_eq_nil_iff.mpr (fun y hy => by have := hlo y hy; simp; omega), List.filter_eq_self.mpr (fun y hy => decide_eq_true (hhi y hy)), List.nil_append]
theorem ins_eq2 {h : Nat → Int32} {x : Nat} {l : List Nat} (hs : srt h l) : insL h l x = l.filter (fun y => decide (rkN h y ≤ rkN h x)) ++ x :: l.filter (fun y => decide (rkN h x < rkN h y)) := by
  rw [insL, (ins_eq hs).1, (ins_eq hs).2]
theorem srt_flt {h : Nat → Int32} {l : List Nat} (P : Nat → Bool) (hs : srt h l) : srt h (l.filter P) := List.Pairwise.sublist List.filter_sublist hs
theorem srt_ins {h : Nat → Int32} {x : Nat} {l : List Nat} (hs : srt h l) : srt h (insL h l x) := by
  rw [ins_eq2 hs]
  refine List.pairwise_append.mpr ⟨srt_flt _ hs, List.pairwise_cons.mpr ⟨fun y hy => ?_, srt_flt _ hs⟩, fun a ha b hb => ?_⟩
  · have := of_decide_eq_true (List.mem_filter.mp hy).2
    omega
  · have h1 := of_decide_eq_true (List.mem_filter.mp ha).2
    rcases List.mem_cons.mp hb with rfl | hb
    · exact h1
    · have h2 := of_decide_eq_true (List.mem_filter.mp hb).2
      omega
theorem ins_flt {h : Nat → Int32} {x : Nat} {l : List Nat} (P : Nat → Bool) (hs : srt h l) : (insL h l x).filter P = if P x then insL h (l.filter P) x else l.filter P := by
  by_cases e : P x = true
  · rw [if_pos e, ins_eq2 hs, ins_eq2 (srt_flt P hs), List.filter_append, List.filter_cons, if_pos e, List.filter_filter, List.filter_filter, List.filter_filter, List.filter_filter]
    congr 2
    · funext y; exact Bool.and_comm _ _
    · congr 1
      funext y; exact Bool.and_comm _ _
  · rw [if_neg e, insL, List.filter_append, List.filter_cons, if_neg e, ← List.filter_append, List.take_append_drop]
theorem fold_flt {h : Nat → Int32} (P : Nat → Bool) : ∀ (s l : List Nat), srt h l → (s.foldl (insL h) l).filter P = (s.filter P).foldl (insL h) (l.filter P)
  | [], l, _ => rfl
  | x :: s, l, hs => by
    rw [List.foldl_cons, fold_flt P s _ (srt_ins hs), ins_flt P hs, List.filter_cons]
    by_cases e : P x = true
    · rw [if_pos e, if_pos e, List.foldl_cons]
    · rw [if_neg e, if_neg e]
theorem insAt_cg {h h1 : Nat → Int32} (e : ∀ a, rkN h1 a = rkN h a) (x : Nat) (l : List Nat) : ∀ k, insAt h1 x l k = insAt h x l k
  | 0 => rfl
  | k + 1 => by rw [insAt, insAt, e, e, insAt_cg e x l k]
theorem insL_cg {h h1 : Nat → Int32} (e : ∀ a, rkN h1 a = rkN h a) : insL h1 = insL h := by
  funext l x
  rw [insL, insL, insAt_cg e]
theorem arr_stp {h h1 : Nat → Int32} (e : ∀ a, rkN h1 a = rkN h a) (ek : ∀ a, stK h1 a = stK h a) (w : Option Nat) (ol : List Nat) : (arrF h ol).filter (fun p => shwn h1 p && wiP h1 w p) = stpL h1 w ol := by
  rw [arrF, fold_flt _ _ _ List.Pairwise.nil, List.filter_filter, stpL, insL_cg e]
  have z : ol.filter (fun a => (shwn h1 a && wiP h1 w a) && stK h a) = ol.filter (stpP h1 w) := by
    congr 1
    funext a
    rw [stpP, ek, Bool.and_comm, Bool.and_assoc]
  rw [z]
  rfl
theorem ins_nd {h : Nat → Int32} {l : List Nat} {x : Nat} (hl : l.Nodup) (hx : x ∉ l) : (insL h l x).Nodup := by
  have e : l.take (insAt h x l l.length) ++ l.drop (insAt h x l l.length) = l := List.take_append_drop _ _
  rw [insL, List.nodup_append, List.nodup_cons]
  rw [← e, List.nodup_append] at hl
  rw [← e, List.mem_append, not_or] at hx
  refine ⟨hl.1, ⟨hx.2, hl.2.1⟩, fun a ha b hb => ?_⟩
  rcases List.mem_cons.mp hb with rfl | hb
  · exact fun z => hx.1 (z ▸ ha)
  · exact hl.2.2 a ha b hb
theorem fold_nd {h : Nat → Int32} : ∀ (s l : List Nat), l.Nodup → s.Nodup → (∀ x ∈ s, x ∉ l) → (s.foldl (insL h) l).Nodup
  | [], l, hl, _, _ => hl
  | x :: s, l, hl, hs, hd => by
    rw [List.foldl_cons]
    rw [List.nodup_cons] at hs
    refine fold_nd s _ (ins_nd hl (hd x List.mem_cons_self)) hs.2 (fun y hy z => ?_)
    rcases insL_mem.mp z with rfl | z
    · exact hs.1 hy
    · exact hd y (List.mem_cons_of_mem _ hy) z
theorem arr_nd {h : Nat → Int32} {ol : List Nat} (ho : ol.Nodup) : (arrF h ol).Nodup := fold_nd _ _ List.nodup_nil (ho.filter _) (fun _ _ z => absurd z List.not_mem_nil)
-- where x stands first
theorem ixF_fi (l : List Nat) (x : Int32) : ∀ d, d ≤ l.length → ixF l x d = (l.length - d) + (l.drop (l.length - d)).findIdx (fun y => nI y == x)
  | 0, _ => by simp [ixF]
  | d + 1, hd => by
    have e : l.drop (l.length - (d + 1)) = nth l (l.length - (d + 1)) :: l.drop (l.length - d) := by
      rw [drop_nth (by omega), show l.length - (d + 1) + 1 = l.length - d by omega]
    rw [ixF, e, List.findIdx_cons, ixF_fi l x d (by omega)]
    by_cases c : nI (nth l (l.length - (d + 1))) = x
    · rw [if_pos c, beq_iff_eq.mpr c]; rfl
    · rw [if_neg c, beq_eq_false_iff_ne.mpr c]
      show _ = _ + (_ + 1)
      omega
theorem ixF_all (l : List Nat) (x : Int32) : ixF l x l.length = l.findIdx (fun y => nI y == x) := by
  rw [ixF_fi l x l.length (Nat.le_refl _)]
  simp
theorem spK_ix (l : List Nat) (x : Int32) : ∀ d, d ≤ l.length → spK l x d = if ixF l x d = l.length then 0 else ixF l x d + 1
  | 0, _ => by simp [ixF, spK]
  | d + 1, hd => by
    rw [spK, ixF]
    by_cases c : nI (nth l (l.length - (d + 1))) = x
    · rw [if_pos c, if_pos c, if_neg (by omega)]
    · rw [if_neg c, if_neg c]; exact spK_ix l x d (by omega)
theorem ix_none {l : List Nat} {x : Int32} (h : ∀ y ∈ l, ¬ nI y = x) : ixF l x l.length = l.length := by
  rw [ixF_all, List.findIdx_eq_length]
  exact fun y hy => beq_eq_false_iff_ne.mpr (h y hy)
theorem ix_app {A B : List Nat} {a : Nat} (ha : a < 24) (hA : a ∉ A) (hb : ∀ y ∈ A, y < 24) : ixF (A ++ a :: B) (nI a) (A ++ a :: B).length = A.length := by
  rw [ixF_all, List.findIdx_append, List.findIdx_eq_length.mpr (fun y hy => beq_eq_false_iff_ne.mpr (fun e => hA (by have := (nI_eq (by have := hb y hy; omega) (by omega)).mp e; rwa [← this]))), if_neg (Nat.lt_irrefl _), List.findIdx_cons, beq_self_eq_true]
  simp
-- the ring
def rgN (t : Nat) (o : Option Nat) : Nat := match o with
  | some y => y + 1
  | none => t
theorem tn_1 {l : List Nat} {am : Int32} {t : Nat} (hb : ∀ x ∈ l, x < 24) (e : Nat) : ∀ d k, k + d ≤ l.length → trnN l am (nI 0) t (d + e) k = rgN (trnN l am (nI 0) t e (k + d)) (((l.drop k).take d).find? (bt am))
  | 0, k, _ => by simp [rgN]
  | d + 1, k, h => by
    have e2 : nxK l.length (nI 0) k = k := by rw [nxK, if_pos (show nI 0 = 0 from rfl), nxB, if_pos (by omega)]
    rw [show d + 1 + e = (d + e) + 1 by omega, trnN, e2, drop_nth (by omega), List.take_succ_cons, List.find?_cons, hB_nI (hb _ (getD_mem (by omega)))]
    cases c : bt am (nth l k) with
    | true => rfl
    | false =>
      show (if false = true then _ else _) = _
      rw [if_neg (by decide), tn_1 hb e d (k + 1) (by omega), show k + 1 + d = k + (d + 1) by omega]
theorem tn_2 {l : List Nat} {am : Int32} {t : Nat} (h0 : 0 < l.length) : ∀ e, trnN l am (nI 0) t e l.length = trnN l am (nI 0) t e 0
  | 0 => rfl
  | e + 1 => by
    have e1 : nxK l.length (nI 0) l.length = 0 := by rw [nxK, if_pos (show nI 0 = 0 from rfl), nxB, if_neg (by omega)]
    have e2 : nxK l.length (nI 0) 0 = 0 := by rw [nxK, if_pos (show nI 0 = 0 from rfl), nxB, if_pos h0]
    rw [trnN, trnN, e1, e2]
theorem rg_or (t : Nat) (a b : Option Nat) : rgN (rgN t b) a = rgN t (a.or b) := by cases a <;> rfl
theorem tn_next {l : List Nat} {am : Int32} {t k : Nat} (hb : ∀ x ∈ l, x < 24) (hk : k ≤ l.length) : trnN l am (nI 0) t l.length k = rgN t ((l.drop k ++ l.take k).find? (bt am)) := by
  by_cases h0 : l.length = 0
  · rw [List.length_eq_zero_iff] at h0
    subst h0
    simp [trnN, rgN]
  · have h1 := tn_1 (am := am) (t := t) hb k (l.length - k) k (by omega)
    rw [show l.length - k + k = l.length by omega, show k + (l.length - k) = l.length by omega, tn_2 (by omega), List.take_of_length_le (by simp)] at h1
    have h2 := tn_1 (am := am) (t := t) hb 0 k 0 (by omega)
    rw [Nat.add_zero, List.drop_zero, trnN] at h2
    rw [h1, h2, rg_or, List.find?_append]
theorem tb_1 {l : List Nat} {am : Int32} {t : Nat} (hb : ∀ x ∈ l, x < 24) (e j : Nat) : ∀ k, j + k ≤ l.length → trnN l am (nI 1) t (k + e) (j + k + 1) = rgN (trnN l am (nI 1) t e (j + 1)) (((l.drop j).take k).reverse.find? (bt am))
  | 0, _ => by simp [rgN]
  | k + 1, h => by
    have e2 : nxK l.length (nI 1) (j + (k + 1) + 1) = j + k := by rw [nxK, if_neg (by decide), nxA, if_pos (by omega)]; omega
    have e3 : (l.drop j).take (k + 1) = (l.drop j).take k ++ [nth l (j + k)] := by
      rw [List.take_succ, List.getElem?_drop, List.getElem?_eq_getElem (by omega), nth_get (by omega)]; rfl
    rw [show k + 1 + e = (k + e) + 1 by omega, trnN, e2, e3, List.reverse_append, List.reverse_singleton, List.singleton_append, List.find?_cons, hB_nI (hb _ (getD_mem (by omega)))]
    cases c : bt am (nth l (j + k)) with
    | true => rfl
    | false =>
      show (if false = true then _ else _) = _
      rw [if_neg (by decide), tb_1 hb e j k (by omega)]
theorem tb_2 {l : List Nat} {am : Int32} {t : Nat} (h0 : 0 < l.length) : ∀ e k, k < 2 → trnN l am (nI 1) t e k = trnN l am (nI 1) t e (l.length + 1)
  | 0, _, _ => rfl
  | e + 1, k, hk => by
    have e1 : nxK l.length (nI 1) k = l.length - 1 := by rw [nxK, if_neg (by decide), nxA, if_neg (by omega)]
    have e2 : nxK l.length (nI 1) (l.length + 1) = l.length - 1 := by rw [nxK, if_neg (by decide), nxA, if_pos (by omega)]; omega
    rw [trnN, trnN, e1, e2]
theorem tn_back {l : List Nat} {am : Int32} {t k : Nat} (hb : ∀ x ∈ l, x < 24) (hk : k < l.length) : trnN l am (nI 1) t l.length (k + 1) = rgN t (((l.take k).reverse ++ (l.drop k).reverse).find? (bt am)) := by
  have h1 := tb_1 (am := am) (t := t) hb (l.length - k) 0 k (by omega)
  rw [show k + (l.length - k) = l.length by omega, show 0 + k + 1 = k + 1 by omega, List.drop_zero, tb_2 (l := l) (am := am) (t := t) (by omega) (l.length - k) (0 + 1) (by omega)] at h1
  have h2 := tb_1 (am := am) (t := t) hb 0 k (l.length - k) (by omega)
  rw [Nat.add_zero, show k + (l.length - k) + 1 = l.length + 1 by omega, List.take_of_length_le (by simp), trnN] at h2
  rw [h1, h2, rg_or, List.find?_append]
theorem tn_back0 {l : List Nat} {am : Int32} {t : Nat} (hb : ∀ x ∈ l, x < 24) : trnN l am (nI 1) t l.length 0 = rgN t (l.reverse.find? (bt am)) := by
  by_cases h0 : l.length = 0
  · rw [List.length_eq_zero_iff] at h0
    subst h0
    simp [trnN, rgN]
  · have h2 := tb_1 (am := am) (t := t) hb 0 0 l.length (by omega)
    rw [Nat.add_zero, show 0 + l.length + 1 = l.length + 1 by omega, List.drop_zero, List.take_of_length_le (Nat.le_refl _), trnN] at h2
    rw [tb_2 (by omega) _ _ (by omega), h2]
theorem fd_hd (l : List Nat) (P : Nat → Bool) : l.find? P = (l.filter P).head? := (List.head?_filter).symm
theorem rg_hd {l : List Nat} {t : Nat} (h : l.length ≠ 0) : rgN t l.head? = nth l 0 + 1 := by
  cases l with
  | nil => exact absurd rfl h
  | cons a l => rfl
theorem rg_lst {l : List Nat} {t : Nat} (h : l.length ≠ 0) : rgN t l.reverse.head? = nth l (l.length - 1) + 1 := by
  rw [List.head?_reverse, List.getLast?_eq_getElem?, List.getElem?_eq_getElem (by omega), nth_get (by omega)]
  rfl
theorem nth_l {A B : List Nat} {i : Nat} (h : i < A.length) : nth (A ++ B) i = nth A i := by
  rw [nth_get (by rw [List.length_append]; omega), nth_get h, List.getElem_append_left h]
theorem nth_r {A B : List Nat} {i : Nat} (h : i < B.length) : nth (A ++ B) (A.length + i) = nth B i := by
  rw [nth_get (by rw [List.length_append]; omega), nth_get h, List.getElem_append_right (by omega)]
  simp
/-- the ring walked over all is the ring of those that are among -/
theorem ring_eq {l : List Nat} {am : Int32} {t key : Nat} (hb : ∀ x ∈ l, x < 24) (hnd : l.Nodup) (ht : t ≤ 24) (hk : key < 2) :
    trnN l am (nI key) t l.length (if hB am (pm t) then spK l (pm t) l.length else 0) = nxtT (l.filter (bt am)) key t := by
  by_cases hin : ∃ a, t = a + 1 ∧ a ∈ l.filter (bt am)
  · obtain ⟨a, rfl, ha⟩ := hin
    obtain ⟨ha, hba⟩ := List.mem_filter.mp ha
    have ha24 := hb a ha
    rw [pm_s, hB_nI ha24, hba, if_pos rfl]
    obtain ⟨A, B, rfl⟩ := List.append_of_mem ha
    have hA : a ∉ A := fun z => by
      rw [List.nodup_append] at hnd
      exact hnd.2.2 a z a List.mem_cons_self rfl
    have hbA : ∀ y ∈ A, y < 24 := fun y hy => hb y (List.mem_append_left _ hy)
    have hF : (A ++ a :: B).filter (bt am) = A.filter (bt am) ++ a :: B.filter (bt am) := by rw [List.filter_append, List.filter_cons, if_pos hba]
    rw [spK_ix _ _ _ (Nat.le_refl _), ix_app ha24 hA hbA, if_neg (by rw [List.length_append, List.length_cons]; omega), nxtT, hF, if_neg (by rw [List.length_append, List.length_cons]; omega), pm_s, ix_app ha24 (fun z => hA (List.mem_filter.mp z).1) (fun y hy => hbA y (List.mem_filter.mp hy).1), nxtI, if_neg (by rw [List.length_append, List.length_cons]; omega)]
    rcases (show key = 0 ∨ key = 1 by omega) with rfl | rfl
    · rw [if_pos rfl, tn_next hb (by rw [List.length_append, List.length_cons]; omega), fd_hd]
      have e1 : (A ++ a :: B).drop (A.length + 1) = B := by
        rw [List.drop_append]; simp
      have e2 : (A ++ a :: B).take (A.length + 1) = A ++ [a] := by
        rw [show A ++ a :: B = (A ++ [a]) ++ B by simp]
        exact List.take_left' (by simp)
      rw [e1, e2, List.filter_append, List.filter_append, List.filter_cons, if_pos hba, List.filter_nil]
      generalize A.filter (bt am) = FA
      generalize B.filter (bt am) = FB
      cases FB with
      | nil =>
        rw [List.nil_append, rg_hd (by simp), show (FA ++ [a]).length = FA.length + 1 by simp, Nat.mod_self]
      | cons b FB =>
        rw [rg_hd (by simp), List.length_append, List.length_cons, List.length_cons, Nat.mod_eq_of_lt (by omega), nth_r (i := 1) (by simp)]
        rfl
    · rw [if_neg (by decide), tn_back hb (by rw [List.length_append, List.length_cons]; omega), fd_hd]
      have e1 : (A ++ a :: B).drop A.length = a :: B := by simp
      have e2 : (A ++ a :: B).take A.length = A := by simp
      rw [e1, e2, List.filter_append, List.filter_reverse, List.filter_reverse, List.filter_cons, if_pos hba]
      generalize A.filter (bt am) = FA
      generalize B.filter (bt am) = FB
      by_cases c : FA.length = 0
      · rw [List.length_eq_zero_iff] at c
        subst c
        rw [List.reverse_nil, List.nil_append, List.nil_append, rg_lst (by simp)]
        congr 2
        rw [List.length_nil, Nat.zero_add, Nat.mod_eq_of_lt (by simp)]
      · rw [← List.reverse_append, List.head?_reverse, List.getLast?_append]
        have z : FA.getLast? = some (nth FA (FA.length - 1)) := by
          rw [List.getLast?_eq_getElem?, List.getElem?_eq_getElem (by omega), nth_get (by omega)]
        rw [z]
        show nth FA (FA.length - 1) + 1 = _
        rw [show (FA.length + (FA ++ a :: FB).length - 1) = (FA.length - 1) + (FA ++ a :: FB).length by omega, Nat.add_mod_right, Nat.mod_eq_of_lt (by rw [List.length_append, List.length_cons]; omega), nth_l (by omega)]
  · have hk0 : (if hB am (pm t) then spK l (pm t) l.length else 0) = 0 := by
      split
      · rename_i c
        rw [spK_ix _ _ _ (Nat.le_refl _), if_pos]
        refine ix_none (fun y hy e => hin ?_)
        cases t with
        | zero => rw [pm_0] at e; exact absurd e (nI_m1 (by have := hb y hy; omega))
        | succ a =>
          rw [pm_s] at e c
          have := (nI_eq (by have := hb y hy; omega) (by omega)).mp e
          subst this
          rw [hB_nI (by omega)] at c
          exact ⟨y, rfl, List.mem_filter.mpr ⟨hy, c⟩⟩
      · rfl
    rw [hk0]
    have hx : ixF (l.filter (bt am)) (pm t) (l.filter (bt am)).length = (l.filter (bt am)).length := by
      refine ix_none (fun y hy e => hin ?_)
      have hy24 := hb y (List.mem_filter.mp hy).1
      cases t with
      | zero => rw [pm_0] at e; exact absurd e (nI_m1 (by omega))
      | succ a =>
        rw [pm_s] at e
        have := (nI_eq (by omega) (by omega)).mp e
        subst this
        exact ⟨y, rfl, hy⟩
    rw [nxtT, hx, nxtI, if_pos rfl]
    rcases (show key = 0 ∨ key = 1 by omega) with rfl | rfl
    · rw [tn_next hb (Nat.zero_le _), List.drop_zero, List.take_zero, List.append_nil, fd_hd, if_pos rfl]
      split
      · rename_i c
        rw [List.length_eq_zero_iff] at c
        rw [c]; rfl
      · rename_i c
        exact rg_hd c
    · rw [tn_back0 hb, fd_hd, List.filter_reverse, if_neg (show ¬ 1 = 0 by decide)]
      split
      · rename_i c
        rw [List.length_eq_zero_iff] at c
        rw [c]; rfl
      · rename_i c
        exact rg_lst c
end
