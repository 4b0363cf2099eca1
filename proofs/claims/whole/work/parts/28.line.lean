/-! the reference: line, speak, contrast, words, boxes -/
def lnI (M M1 : Mm) (R st : List Nat) : Prop := (∀ k, k ≠ 3 → k ≠ 4 → M1 k = M k) ∧ (∀ i, i < R.length → M1 3 i = nI (nth R i)) ∧ ∀ i, i < st.length → M1 4 i = nI (nth st i)
theorem lnI.pushS {M M1 : Mm} {R st : List Nat} (h : lnI M M1 R st) (x : Nat) : lnI M (mst M1 4 st.length (nI x)) R (st ++ [x]) := by
  refine ⟨fun k a b => by rw [mst_other _ _ _ b]; exact h.1 k a b, fun i hi => by rw [mst_other _ _ _ (by decide)]; exact h.2.1 i hi, fun i hi => ?_⟩
  rw [mst_same, upd]
  by_cases e : i = st.length
  · rw [if_pos e, e, nth_last]
  · have hi2 : i < st.length := by simp at hi; omega
    rw [if_neg e, nth_app hi2]; exact h.2.2 i hi2
theorem lnI.pushR {M M1 : Mm} {R st : List Nat} (h : lnI M M1 R st) (x : Nat) : lnI M (mst M1 3 R.length (nI x)) (R ++ [x]) st := by
  refine ⟨fun k a b => by rw [mst_other _ _ _ a]; exact h.1 k a b, fun i hi => ?_, fun i hi => by rw [mst_other _ _ _ (by decide)]; exact h.2.2 i hi⟩
  rw [mst_same, upd]
  by_cases e : i = R.length
  · rw [if_pos e, e, nth_last]
  · have hi2 : i < R.length := by simp at hi; omega
    rw [if_neg e, nth_app hi2]; exact h.2.1 i hi2
theorem flat_len {h : Nat → Int32} {n : Nat} : ∀ (l : List Nat), (∀ x ∈ l, x < n) → l.length ≤ (l.flatMap (pre h n)).length
  | [], _ => Nat.le_refl _
  | a :: l, hl => by
    have ih := flat_len (h := h) l (fun x hx => hl x (List.mem_cons_of_mem _ hx))
    rw [List.flatMap_cons, List.length_append, pre_eq (hl a List.mem_cons_self), List.length_cons, List.length_cons]
    omega

theorem s_X8_line_in {M : Mm} {n p : Nat} {R : List Nat} (hn : n ≤ 24) (hp : p < n) (cnt : Value) {Q : Pst} : ∀ d (st1 : List Nat) (M1 : Mm), p + d < n → lnI M M1 R st1 → st1.length + (pd (M 1) p d).length ≤ 24 → (∀ M2, lnI M M2 R (st1 ++ pd (M 1) p d) → Ev MSh mX8_line 11 [.ref 0, .int (nI (st1 ++ pd (M 1) p d).length), cnt, .int (nI p), .int (nI p)] [] M2 Q) → Ev MSh mX8_line 43 [.ref 0, .int (nI st1.length), cnt, .int (nI p), .int (nI (p + d))] [] M1 Q
  | 0, st1, M1, hd, hs, hbd, k => by
    rw [Nat.add_zero] at hd ⊢
    refine ev_iload 45 dX8_line_43 rfl rfl ?_
    refine ev_iload_n 46 dX8_line_45 rfl rfl ?_
    refine ev_icmp_leN 49 78 dX8_line_46 (by decide) rfl (by omega) (by omega) (fun c46 => ?_) (fun c46 => ?_)
    · have z := k M1 (by rw [pd, List.append_nil]; exact hs)
      rw [pd, List.append_nil] at z
      exact ev_goto 11 dX8_line_78 (by decide) z
    · omega
  | d + 1, st1, M1, hd, hs, hbd, k => by
    rw [← Nat.add_assoc] at hd ⊢
    have hbd0 : st1.length + (pd (M 1) p d).length ≤ 24 := Nat.le_trans (Nat.add_le_add_left (by rw [pd, List.length_append]; omega) _) hbd
    refine ev_iload 45 dX8_line_43 rfl rfl ?_
    refine ev_iload_n 46 dX8_line_45 rfl rfl ?_
    refine ev_icmp_leN 49 78 dX8_line_46 (by decide) rfl (by omega) (by omega) (fun c46 => ?_) (fun c46 => ?_)
    · omega
    · refine ev_aload_n 50 dX8_line_49 rfl rfl ?_
      refine ev_iload 52 dX8_line_50 rfl rfl ?_
      refine ev_bipush 54 (nI 11) dX8_line_52 (by decide) rfl ?_
      refine ev_cV2I (M 1 ((p + d + 1) * 18 + 11)) M1 57 dX8_line_54 mlX8_74 moX8_get rfl imX8_get ⟨_, _, rfl, rfl, rfl⟩ (Nat.le_of_ble_eq_true rfl) (Nat.le_of_ble_eq_true rfl) rfl (by rw [← hs.1 1 (by decide) (by decide)]; exact s_X8_get (a := p + d + 1) (b := 11) (by omega) (by omega)) ?_
      refine ev_iload_n 58 dX8_line_57 rfl rfl ?_
      refine ev_icmp_ne 61 72 dX8_line_58 (by decide) rfl (fun c58 => ?_) (fun c58 => ?_)
      · refine ev_iincD 75 _ dX8_line_72 rfl (by decide) rfl rfl rfl ?_
        refine ev_goto 43 dX8_line_75 (by decide) ?_
        refine s_X8_line_in hn hp cnt d st1 M1 (by omega) hs hbd0 (fun M2 h2 => ?_)
        have z := k M2 (by rw [pd, if_neg c58, List.nil_append]; exact h2)
        rw [pd, if_neg c58, List.nil_append] at z
        exact z
      · rw [pd, if_pos c58, List.singleton_append, List.length_cons] at hbd
        refine ev_aload_n 62 dX8_line_61 rfl rfl ?_
        refine ev_getR 65 dX8_line_62 rfl flX8_19 rfl rfl ?_
        refine ev_iload_n 66 dX8_line_65 rfl rfl ?_
        refine ev_iload 68 dX8_line_66 rfl rfl ?_
        refine ev_iaS 69 dX8_line_68 rfl (by omega) (by decide) rfl ?_
        refine ev_iincN 72 _ dX8_line_69 rfl (by decide) rfl rfl rfl ?_
        refine ev_iincD 75 _ dX8_line_72 rfl (by decide) rfl rfl rfl ?_
        refine ev_goto 43 dX8_line_75 (by decide) ?_
        have z := s_X8_line_in hn hp cnt d (st1 ++ [p + d + 1]) (mst M1 4 st1.length (nI (p + d + 1))) (by omega) (hs.pushS _) (by rw [List.length_append]; simp only [List.length_cons, List.length_nil]; omega) (Q := Q) (fun M2 h2 => by
          have z := k M2 (by rw [pd, if_pos c58, List.singleton_append, List.append_cons]; exact h2)
          rw [pd, if_pos c58, List.singleton_append, List.append_cons] at z
          exact z)
        rw [List.length_append] at z
        exact z
theorem s_X8_line_k {M : Mm} {n : Nat} (ht : TR (M 1) n) (hn0 : 0 < n) (hn : n ≤ 24) (hm : M 0 0 = nI n) : ∀ d (R st : List Nat) (M1 : Mm) (u v : Value), R.length + d = n → R ++ st.reverse.flatMap (pre (M 1) n) = ordF (M 1) n → (∀ x ∈ st, x < n) → lnI M M1 R st → Ev MSh mX8_line 11 [.ref 0, .int (nI st.length), .int (nI R.length), u, v] [] M1 (fun r M2 => r = none ∧ (∀ k, k ≠ 3 → k ≠ 4 → M2 k = M k) ∧ ∀ i, i < (ordF (M 1) n).length → M2 3 i = nI (nth (ordF (M 1) n) i))
  | 0, R, st, M1, u, v, hd, hinv, hb, hs => by
    have hl := (ord_facts n hn0 (by omega) ht).1
    have hf := flat_len (h := M 1) st.reverse (fun x hx => hb x (List.mem_reverse.mp hx))
    rw [← hinv, List.length_append] at hl
    rw [List.length_reverse] at hf
    have hst0 : st.length = 0 := by omega
    have hR : R = ordF (M 1) n := by rw [← hinv, List.length_eq_zero_iff.mp hst0]; simp
    refine ev_iload_n 12 dX8_line_11 rfl rfl ?_
    refine ev_if_leN 15 81 dX8_line_12 (by decide) rfl (by omega) (fun c12 => ?_) (fun c12 => ?_)
    · exact ev_vret dX8_line_81 rfl (⟨rfl, hs.1, fun i hi => by rw [← hR] at hi ⊢; exact hs.2.1 i hi⟩)
    · exact absurd hst0 c12
  | d + 1, R, st, M1, u, v, hd, hinv, hb, hs => by
    have hl := (ord_facts n hn0 (by omega) ht).1
    have hne : st ≠ [] := fun e => by
      rw [← hinv, e] at hl
      simp at hl
      omega
    obtain ⟨st', p, est⟩ : ∃ st' p, st = st' ++ [p] := ⟨st.dropLast, st.getLast hne, (List.dropLast_concat_getLast hne).symm⟩
    have hp : p < n := hb p (by rw [est]; simp)
    have hpile : M1 4 st'.length = nI p := by
      rw [hs.2.2 st'.length (by rw [est]; simp), est, nth_last]
    have hinv' : (R ++ [p]) ++ (st' ++ pd (M 1) p (n - 1 - p)).reverse.flatMap (pre (M 1) n) = ordF (M 1) n := by
      rw [← hinv, est, List.reverse_append, List.reverse_append, List.flatMap_append, List.reverse_singleton, List.singleton_append, List.flatMap_cons, pre_eq hp]
      simp [kids]
    have hb' : ∀ x ∈ st' ++ pd (M 1) p (n - 1 - p), x < n := fun x hx => by
      rcases List.mem_append.mp hx with z | z
      · exact hb x (by rw [est]; exact List.mem_append_left _ z)
      · have := (pd_mem.mp z).2.1; omega
    have hf := flat_len (h := M 1) (st' ++ pd (M 1) p (n - 1 - p)).reverse (fun x hx => hb' x (List.mem_reverse.mp hx))
    have hl2 := hl
    rw [← hinv', List.length_append, List.length_append] at hl2
    rw [List.length_reverse, List.length_append] at hf
    simp only [List.length_cons, List.length_nil] at hl2
    have hk : st.length = st'.length + 1 := by rw [est, List.length_append]; rfl
    rw [hk]
    refine ev_iload_n 12 dX8_line_11 rfl rfl ?_
    refine ev_if_leN 15 81 dX8_line_12 (by decide) rfl (by omega) (fun c12 => ?_) (fun c12 => ?_)
    · exact absurd c12 (by omega)
    · refine ev_iincD 18 _ dX8_line_15 rfl (by decide) rfl rfl rfl ?_
      refine ev_aload_n 19 dX8_line_18 rfl rfl ?_
      refine ev_getR 22 dX8_line_19 rfl flX8_19 rfl rfl ?_
      refine ev_iload_n 23 dX8_line_22 rfl rfl ?_
      refine ev_iaN 24 (nI p) dX8_line_23 rfl (by omega) (by decide) rfl hpile ?_
      refine ev_istore_n 25 _ dX8_line_24 (by decide) rfl rfl rfl ?_
      refine ev_aload_n 26 dX8_line_25 rfl rfl ?_
      refine ev_getR 29 dX8_line_26 rfl flX8_16 rfl rfl ?_
      refine ev_iload_n 30 dX8_line_29 rfl rfl ?_
      refine ev_iload_n 31 dX8_line_30 rfl rfl ?_
      refine ev_iaS 32 dX8_line_31 rfl (by omega) (by decide) rfl ?_
      refine ev_iincN 35 _ dX8_line_32 rfl (by decide) rfl rfl rfl ?_
      refine ev_aload_n 36 dX8_line_35 rfl rfl ?_
      refine ev_getIv 39 (nI n) dX8_line_36 rfl flX8_57 rfl rfl (by rw [mst_other _ _ _ (by decide), hs.1 0 (by decide) (by decide)]; exact hm) ?_
      refine ev_iconst 40 (nI 1) dX8_line_39 (by decide) rfl ?_
      refine ev_isubN 41 dX8_line_40 (by omega) rfl ?_
      refine ev_istore 43 _ dX8_line_41 (by decide) rfl rfl rfl ?_
      rw [show n - 1 = p + (n - 1 - p) by omega]
      refine s_X8_line_in (M := M) (R := R ++ [p]) hn hp _ (n - 1 - p) st' _ (by omega) ?_ (by omega) (fun M2 h2 => ?_)
      · have z := hs.pushR p
        exact ⟨z.1, z.2.1, fun i hi => by rw [z.2.2 i (by rw [est, List.length_append]; simp; omega), est, nth_app hi]⟩
      · have z := s_X8_line_k ht hn0 hn hm d (R ++ [p]) (st' ++ pd (M 1) p (n - 1 - p)) M2 (.int (nI p)) (.int (nI p)) (by rw [List.length_append]; simp; omega) hinv' hb' h2
        rw [show (R ++ [p]).length = R.length + 1 from by rw [List.length_append]; rfl] at z
        exact z
theorem s_X8_line {M : Mm} {n : Nat} (ht : TR (M 1) n) (hn0 : 0 < n) (hn : n ≤ 24) (hm : M 0 0 = nI n) : Ct MSh mX8_line [.ref 0] M (fun r M2 => r = none ∧ (∀ k, k ≠ 3 → k ≠ 4 → M2 k = M k) ∧ ∀ i, i < (ordF (M 1) n).length → M2 3 i = nI (nth (ordF (M 1) n) i)) := by
  show Ev _ _ 0 [.ref 0, .null, .null, .null, .null] [] M _
  refine ev_iconst 1 (nI 1) dX8_line_0 (by decide) rfl ?_
  refine ev_istore_n 2 _ dX8_line_1 (by decide) rfl rfl rfl ?_
  refine ev_aload_n 3 dX8_line_2 rfl rfl ?_
  refine ev_getR 6 dX8_line_3 rfl flX8_19 rfl rfl ?_
  refine ev_iconst 7 (nI 0) dX8_line_6 (by decide) rfl ?_
  refine ev_iconst 8 (nI 0) dX8_line_7 (by decide) rfl ?_
  refine ev_iaS 9 dX8_line_8 rfl (by decide) (by decide) rfl ?_
  refine ev_iconst 10 (nI 0) dX8_line_9 (by decide) rfl ?_
  refine ev_istore_n 11 _ dX8_line_10 (by decide) rfl rfl rfl ?_
  exact s_X8_line_k ht hn0 hn hm n [] [0] _ _ _ (by simp) (by simp [ordF]) (fun x hx => by simp at hx; omega) ⟨fun k a b => mst_other _ _ _ b, fun i hi => by simp at hi, fun i hi => by simp at hi; subst hi; rw [mst_same, upd, if_pos rfl]; rfl⟩
