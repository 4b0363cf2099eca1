/-! the reference: findWrongs -/
def wrPS (h : Nat → Int32) (n : Nat) (ns : Nat → List Int32) (sl : List Nat) (p : Nat) : Nat → List (Nat × Nat)
  | 0 => []
  | s + 1 => wrPS h n ns sl p s ++ (if shwn h p && wrgS h n ns sl p s then [(p, s)] else [])
def wrOS (h : Nat → Int32) (n : Nat) (ns : Nat → List Int32) (sl : List Nat) : Nat → List (Nat × Nat)
  | 0 => []
  | k + 1 => wrOS h n ns sl k ++ wrPS h n ns sl k 6
def wrS (h : Nat → Int32) (n : Nat) : List (Nat × Nat) := wrOS h n (nmS h n) (saidF h n) n
theorem wrPS_len (h : Nat → Int32) (n : Nat) (ns : Nat → List Int32) (sl : List Nat) (p : Nat) : ∀ s, (wrPS h n ns sl p s).length ≤ s
  | 0 => Nat.le_refl _
  | s + 1 => by
    have := wrPS_len h n ns sl p s
    rw [wrPS, List.length_append]
    split <;> simp <;> omega
theorem wrOS_len (h : Nat → Int32) (n : Nat) (ns : Nat → List Int32) (sl : List Nat) : ∀ k, (wrOS h n ns sl k).length ≤ 6 * k
  | 0 => Nat.le_refl _
  | k + 1 => by
    have := wrOS_len h n ns sl k
    have := wrPS_len h n ns sl k 6
    rw [wrOS, List.length_append]
    omega
theorem wrPS_hid {h : Nat → Int32} {n : Nat} {ns : Nat → List Int32} {sl : List Nat} {p : Nat} (hs : shwn h p = false) : ∀ s, wrPS h n ns sl p s = []
  | 0 => rfl
  | s + 1 => by rw [wrPS, wrPS_hid hs s, hs]; rfl
def rwAt (M : Mm) (l : List (Nat × Nat)) : Prop := M 0 20 = nI l.length ∧ l.length ≤ 144 ∧ ∀ i, i < l.length → M 12 i = nI (pr1 l i) ∧ M 13 i = nI (pr2 l i)
theorem rwAt.push {M : Mm} {l : List (Nat × Nat)} {p s : Nat} (h : rwAt M l) (hl : l.length < 144) : rwAt (mst (mst (mst M 12 l.length (nI p)) 13 l.length (nI s)) 0 20 (nI (l.length + 1))) (l ++ [(p, s)]) := by
  refine ⟨by rw [mst_same, upd]; simp, by simp; omega, fun i hi => ?_⟩
  rw [mst_other _ _ _ (show (12 : Nat) ≠ 0 by decide), mst_other _ _ _ (show (13 : Nat) ≠ 0 by decide), mst_other _ _ _ (show (12 : Nat) ≠ 13 by decide), mst_same, mst_same, mst_other _ _ _ (show (13 : Nat) ≠ 12 by decide), upd, upd]
  simp at hi
  by_cases e : i = l.length
  · subst e
    rw [if_pos rfl, if_pos rfl, (pr_last l (p, s)).1, (pr_last l (p, s)).2]
    exact ⟨rfl, rfl⟩
  · rw [if_neg e, if_neg e, (pr_app1 (show i < l.length by omega)).1, (pr_app1 (show i < l.length by omega)).2]
    exact h.2.2 i (by omega)
def fwF (M M1 : Mm) : Prop := (∀ k, k ∉ [0, 3, 4, 5, 6, 7, 12, 13] → M1 k = M k) ∧ ∀ j, j ≠ 10 → j ≠ 20 → M1 0 j = M 0 j
def fwN (M M1 : Mm) (n k : Nat) : Prop := (∀ q, q ∉ [3, 4, 5, 6] → M1 q = M q) ∧ ∀ q, q < k → nmAt M1 5 6 q (nmS (M 1) n q)
theorem fwN.step {M M1 M2 : Mm} {n k : Nat} (h : fwN M M1 n k) (h2 : RNm M1 M2 k (nmS (M 1) n k)) : fwN M M2 n (k + 1) := by
  refine ⟨fun q hq => ?_, fun q hq => ?_⟩
  · rw [← h.1 q hq]
    simp at hq
    exact h2.1.1 q hq.1 hq.2.1 hq.2.2.1 hq.2.2.2
  · by_cases e : q = k
    · subst e; exact h2.2
    · have z := h.2 q (by omega)
      exact ⟨z.1, by rw [h2.1.2.1 q e]; exact z.2.1, fun i hi => by rw [h2.1.2.2 q i e (Nat.lt_of_lt_of_le hi z.1)]; exact z.2.2 i hi⟩
def fwI (M M1 : Mm) (n : Nat) (sl : List Nat) (l : List (Nat × Nat)) : Prop := fwF M M1 ∧ (∀ q, q < n → nmAt M1 5 6 q (nmS (M 1) n q)) ∧ rowAt M1 7 0 10 sl ∧ rwAt M1 l
theorem fwI.push {M M1 : Mm} {n p s : Nat} {sl : List Nat} {l : List (Nat × Nat)} (h : fwI M M1 n sl l) (hl : l.length < 144) : fwI M (mst (mst (mst M1 12 l.length (nI p)) 13 l.length (nI s)) 0 20 (nI (l.length + 1))) n sl (l ++ [(p, s)]) := by
  refine ⟨⟨fun k hk => ?_, fun j h1 h2 => ?_⟩, fun q hq => (h.2.1 q hq).of ?_ ?_, h.2.2.1.of ?_ ?_, h.2.2.2.push hl⟩
  · rw [← h.1.1 k hk]
    simp at hk
    rw [mst_other _ _ _ hk.1, mst_other _ _ _ hk.2.2.2.2.2.2.2, mst_other _ _ _ hk.2.2.2.2.2.2.1]
  · rw [mst_same, upd, if_neg h2, mst_other _ _ _ (by decide), mst_other _ _ _ (by decide)]
    exact h.1.2 j h1 h2
  · rw [mst_other _ _ _ (by decide), mst_other _ _ _ (by decide), mst_other _ _ _ (by decide)]
  · rw [mst_other _ _ _ (by decide), mst_other _ _ _ (by decide), mst_other _ _ _ (by decide)]
  · rw [mst_other _ _ _ (by decide), mst_other _ _ _ (by decide), mst_other _ _ _ (by decide)]
  · rw [mst_same, upd, if_neg (by decide), mst_other _ _ _ (by decide), mst_other _ _ _ (by decide)]
theorem fwI.e1 {M M1 : Mm} {n : Nat} {sl : List Nat} {l : List (Nat × Nat)} (h : fwI M M1 n sl l) : M1 1 = M 1 := h.1.1 1 (by decide)
theorem fwI.m {M M1 : Mm} {n : Nat} {sl : List Nat} {l : List (Nat × Nat)} (h : fwI M M1 n sl l) (hm : M 0 0 = nI n) : M1 0 0 = nI n := by rw [h.1.2 0 (by decide) (by decide)]; exact hm
theorem s_X8_findWrongs_2 {M : Mm} {n : Nat} (ht : TR (M 1) n) (hn0 : 0 < n) (hn : n ≤ 24) (hm : M 0 0 = nI n) (hlab : ∀ a, a < n → labOK (M 1) n a) (u : Value) {Q : Pst} (k : ∀ M2, fwN M M2 n n → Ev MSh mX8_findWrongs 21 [.ref 0, .int (nI n), u] [] M2 Q) : ∀ d i (M1 : Mm), i + d = n → fwN M M1 n i → Ev MSh mX8_findWrongs 2 [.ref 0, .int (nI i), u] [] M1 Q
  | 0, i, M1, h, hI => by
    have e1 : M1 1 = M 1 := hI.1 1 (by decide)
    have hm1 : M1 0 0 = nI n := by rw [hI.1 0 (by decide)]; exact hm
    have hin : i = n := by omega
    rw [hin] at hI ⊢
    refine ev_iload_n 3 dX8_findWrongs_2 rfl rfl ?_
    refine ev_aload_n 4 dX8_findWrongs_3 rfl rfl ?_
    refine ev_getIv 7 (nI n) dX8_findWrongs_4 rfl flX8_57 rfl rfl hm1 ?_
    refine ev_icmp_geN 10 21 dX8_findWrongs_7 (by decide) rfl (by omega) (by omega) (fun c7 => ?_) (fun c7 => ?_)
    · exact k M1 hI
    · omega
  | d + 1, i, M1, h, hI => by
    have e1 : M1 1 = M 1 := hI.1 1 (by decide)
    have hm1 : M1 0 0 = nI n := by rw [hI.1 0 (by decide)]; exact hm
    refine ev_iload_n 3 dX8_findWrongs_2 rfl rfl ?_
    refine ev_aload_n 4 dX8_findWrongs_3 rfl rfl ?_
    refine ev_getIv 7 (nI n) dX8_findWrongs_4 rfl flX8_57 rfl rfl hm1 ?_
    refine ev_icmp_geN 10 21 dX8_findWrongs_7 (by decide) rfl (by omega) (by omega) (fun c7 => ?_) (fun c7 => ?_)
    · omega
    · refine ev_aload_n 11 dX8_findWrongs_10 rfl rfl ?_
      refine ev_iload_n 12 dX8_findWrongs_11 rfl rfl ?_
      refine ev_cV1 15 dX8_findWrongs_12 mlX8_138 moX8_findName rfl imX8_findName ⟨_, _, rfl, rfl, rfl⟩ (Nat.le_of_ble_eq_true rfl) (Nat.le_of_ble_eq_true rfl) rfl (s_X8_findName (M := M1) (n := n) (by rw [e1]; exact ht) hn0 hn hm1 (show i < 24 by omega) (by rw [e1]; exact hlab i (by omega))) ?_
      rintro r M2 ⟨rfl, h2⟩
      rw [e1] at h2
      refine ev_iincN 18 _ dX8_findWrongs_15 rfl (by decide) rfl rfl rfl ?_
      refine ev_goto 2 dX8_findWrongs_18 (by decide) ?_
      exact s_X8_findWrongs_2 ht hn0 hn hm hlab u k d (i + 1) M2 (by omega) (hI.step h2)
theorem s_X8_findWrongs_42 {M : Mm} {n : Nat} (ht : TR (M 1) n) (hn0 : 0 < n) (hn : n ≤ 24) (hm : M 0 0 = nI n) (ho : opsOK (M 1) n) (hco : ∀ a, a < n → colOK (M 1) a) {sl : List Nat} (hslb : ∀ x ∈ sl, x < 24) {i : Nat} (hi : i < n) {Q : Pst} (k : ∀ M2 (v : Int32), fwI M M2 n sl (wrOS (M 1) n (nmS (M 1) n) sl i ++ wrPS (M 1) n (nmS (M 1) n) sl i 6) → Ev MSh mX8_findWrongs 101 [.ref 0, .int (nI i), .int v] [] M2 Q) : ∀ d s (M1 : Mm), s + d = 6 → fwI M M1 n sl (wrOS (M 1) n (nmS (M 1) n) sl i ++ wrPS (M 1) n (nmS (M 1) n) sl i s) → Ev MSh mX8_findWrongs 42 [.ref 0, .int (nI i), .int (nI s)] [] M1 Q
  | 0, s, M1, h, hI => by
    obtain rfl : s = 6 := by omega
    refine ev_iload_n 43 dX8_findWrongs_42 rfl rfl ?_
    refine ev_bipush 45 (nI 6) dX8_findWrongs_43 (by decide) rfl ?_
    refine ev_icmp_geN 48 101 dX8_findWrongs_45 (by decide) rfl (by omega) (by omega) (fun c45 => ?_) (fun c45 => ?_)
    · exact k M1 _ hI
    · omega
  | d + 1, s, M1, h, hI => by
    have e1 := hI.e1
    have hm1 := hI.m hm
    have ht1 : TR (M1 1) n := by rw [e1]; exact ht
    have ho1 : opsOK (M1 1) n := by rw [e1]; exact ho
    have hco1 : ∀ a, a < n → colOK (M1 1) a := by rw [e1]; exact hco
    have hl1 := wrOS_len (M 1) n (nmS (M 1) n) sl i
    have hl2 := wrPS_len (M 1) n (nmS (M 1) n) sl i s
    refine ev_iload_n 43 dX8_findWrongs_42 rfl rfl ?_
    refine ev_bipush 45 (nI 6) dX8_findWrongs_43 (by decide) rfl ?_
    refine ev_icmp_geN 48 101 dX8_findWrongs_45 (by decide) rfl (by omega) (by omega) (fun c45 => ?_) (fun c45 => ?_)
    · omega
    · refine ev_aload_n 49 dX8_findWrongs_48 rfl rfl ?_
      refine ev_iload_n 50 dX8_findWrongs_49 rfl rfl ?_
      refine ev_cV1I (bI (shwn (M 1) i)) M1 53 dX8_findWrongs_50 mlX8_89 moX8_isShown rfl imX8_isShown ⟨_, _, rfl, rfl, rfl⟩ (Nat.le_of_ble_eq_true rfl) (Nat.le_of_ble_eq_true rfl) rfl (by have z := s_X8_isShown (M := M1) ht1 hn hi; rwa [e1] at z) ?_
      refine ev_if_eqB 56 101 dX8_findWrongs_53 (by decide) rfl (fun c53 => ?_) (fun c53 => ?_)
      · refine k M1 _ ?_
        rw [wrPS_hid c53 s] at hI
        rw [wrPS_hid c53 6]
        exact hI
      · refine ev_aload_n 57 dX8_findWrongs_56 rfl rfl ?_
        refine ev_iload_n 58 dX8_findWrongs_57 rfl rfl ?_
        refine ev_iload_n 59 dX8_findWrongs_58 rfl rfl ?_
        refine ev_cV2I (bI (wrgS (M 1) n (nmS (M 1) n) sl i s)) M1 62 dX8_findWrongs_59 mlX8_214 moX8_isWrong rfl imX8_isWrong ⟨_, _, rfl, rfl, rfl⟩ (Nat.le_of_ble_eq_true rfl) (Nat.le_of_ble_eq_true rfl) rfl (by have z := s_X8_isWrong (M := M1) (s := s) ht1 hn hm1 ho1 hco1 hi (by omega) hI.2.1 hI.2.2.1 hslb; rwa [e1] at z) ?_
        refine ev_if_eqB 65 95 dX8_findWrongs_62 (by decide) rfl (fun c62 => ?_) (fun c62 => ?_)
        · refine ev_iincN 98 _ dX8_findWrongs_95 rfl (by decide) rfl rfl rfl ?_
          refine ev_goto 42 dX8_findWrongs_98 (by decide) ?_
          exact s_X8_findWrongs_42 ht hn0 hn hm ho hco hslb hi k d (s + 1) _ (by omega) (by rw [wrPS, c53, c62, Bool.and_false, if_neg (by decide), List.append_nil]; exact hI)
        · have hw := hI.2.2.2
          refine ev_aload_n 66 dX8_findWrongs_65 rfl rfl ?_
          refine ev_getR 69 dX8_findWrongs_66 rfl flX8_43 rfl rfl ?_
          refine ev_aload_n 70 dX8_findWrongs_69 rfl rfl ?_
          refine ev_getIv 73 (nI (wrOS (M 1) n (nmS (M 1) n) sl i ++ wrPS (M 1) n (nmS (M 1) n) sl i s).length) dX8_findWrongs_70 rfl flX8_211 rfl rfl hw.1 ?_
          refine ev_iload_n 74 dX8_findWrongs_73 rfl rfl ?_
          refine ev_iaS 75 dX8_findWrongs_74 rfl (by simp; omega) (by decide) rfl ?_
          refine ev_aload_n 76 dX8_findWrongs_75 rfl rfl ?_
          refine ev_getR 79 dX8_findWrongs_76 rfl flX8_46 rfl rfl ?_
          refine ev_aload_n 80 dX8_findWrongs_79 rfl rfl ?_
          refine ev_getIv 83 (nI (wrOS (M 1) n (nmS (M 1) n) sl i ++ wrPS (M 1) n (nmS (M 1) n) sl i s).length) dX8_findWrongs_80 rfl flX8_211 rfl rfl (by rw [mst_other _ _ _ (by decide)]; exact hw.1) ?_
          refine ev_iload_n 84 dX8_findWrongs_83 rfl rfl ?_
          refine ev_iaS 85 dX8_findWrongs_84 rfl (by simp; omega) (by decide) rfl ?_
          refine ev_aload_n 86 dX8_findWrongs_85 rfl rfl ?_
          refine ev_dup 87 dX8_findWrongs_86 rfl rfl ?_
          refine ev_getIv 90 (nI (wrOS (M 1) n (nmS (M 1) n) sl i ++ wrPS (M 1) n (nmS (M 1) n) sl i s).length) dX8_findWrongs_87 rfl flX8_211 rfl rfl (by rw [mst_other _ _ _ (by decide), mst_other _ _ _ (by decide)]; exact hw.1) ?_
          refine ev_iconst 91 (nI 1) dX8_findWrongs_90 (by decide) rfl ?_
          refine ev_iaddN 92 dX8_findWrongs_91 rfl ?_
          refine ev_putI 95 dX8_findWrongs_92 rfl flX8_211 fiX8_20 rfl rfl ?_
          refine ev_iincN 98 _ dX8_findWrongs_95 rfl (by decide) rfl rfl rfl ?_
          refine ev_goto 42 dX8_findWrongs_98 (by decide) ?_
          exact s_X8_findWrongs_42 ht hn0 hn hm ho hco hslb hi k d (s + 1) _ (by omega) (by rw [wrPS, c53, c62, Bool.and_true, if_pos rfl, ← List.append_assoc]; exact hI.push (by simp; omega))
theorem s_X8_findWrongs_32 {M : Mm} {n : Nat} (ht : TR (M 1) n) (hn0 : 0 < n) (hn : n ≤ 24) (hm : M 0 0 = nI n) (ho : opsOK (M 1) n) (hco : ∀ a, a < n → colOK (M 1) a) {sl : List Nat} (hslb : ∀ x ∈ sl, x < 24) : ∀ d i (M1 : Mm) (u : Value), i + d = n → fwI M M1 n sl (wrOS (M 1) n (nmS (M 1) n) sl i) → Ev MSh mX8_findWrongs 32 [.ref 0, .int (nI i), u] [] M1 (fun r M2 => r = none ∧ fwI M M2 n sl (wrOS (M 1) n (nmS (M 1) n) sl n))
  | 0, i, M1, u, h, hI => by
    have hm1 := hI.m hm
    have hin : i = n := by omega
    rw [hin] at hI ⊢
    refine ev_iload_n 33 dX8_findWrongs_32 rfl rfl ?_
    refine ev_aload_n 34 dX8_findWrongs_33 rfl rfl ?_
    refine ev_getIv 37 (nI n) dX8_findWrongs_34 rfl flX8_57 rfl rfl hm1 ?_
    refine ev_icmp_geN 40 107 dX8_findWrongs_37 (by decide) rfl (by omega) (by omega) (fun c37 => ?_) (fun c37 => ?_)
    · exact ev_vret dX8_findWrongs_107 rfl (⟨rfl, hI⟩)
    · omega
  | d + 1, i, M1, u, h, hI => by
    have hm1 := hI.m hm
    refine ev_iload_n 33 dX8_findWrongs_32 rfl rfl ?_
    refine ev_aload_n 34 dX8_findWrongs_33 rfl rfl ?_
    refine ev_getIv 37 (nI n) dX8_findWrongs_34 rfl flX8_57 rfl rfl hm1 ?_
    refine ev_icmp_geN 40 107 dX8_findWrongs_37 (by decide) rfl (by omega) (by omega) (fun c37 => ?_) (fun c37 => ?_)
    · omega
    · refine ev_iconst 41 (nI 0) dX8_findWrongs_40 (by decide) rfl ?_
      refine ev_istore_n 42 _ dX8_findWrongs_41 (by decide) rfl rfl rfl ?_
      refine s_X8_findWrongs_42 ht hn0 hn hm ho hco hslb (show i < n by omega) (fun M2 v h2 => ?_) 6 0 M1 (by omega) (by rw [wrPS, List.append_nil]; exact hI)
      refine ev_iincN 104 _ dX8_findWrongs_101 rfl (by decide) rfl rfl rfl ?_
      refine ev_goto 32 dX8_findWrongs_104 (by decide) ?_
      exact s_X8_findWrongs_32 ht hn0 hn hm ho hco hslb d (i + 1) M2 _ (by omega) h2
theorem s_X8_findWrongs {M : Mm} {n : Nat} (ht : TR (M 1) n) (hn0 : 0 < n) (hn : n ≤ 24) (hm : M 0 0 = nI n) (ho : opsOK (M 1) n) (hco : ∀ a, a < n → colOK (M 1) a) (hlab : ∀ a, a < n → labOK (M 1) n a) : Ct MSh mX8_findWrongs [.ref 0] M (fun r M2 => r = none ∧ fwF M M2 ∧ rwAt M2 (wrS (M 1) n)) := by
  refine Ev.mono (Q := fun r M2 => r = none ∧ fwI M M2 n (saidF (M 1) n) (wrS (M 1) n)) ?_ (fun r M2 z => ⟨z.1, z.2.1, z.2.2.2.2⟩)
  show Ev _ _ 0 [.ref 0, .null, .null] [] M _
  refine ev_iconst 1 (nI 0) dX8_findWrongs_0 (by decide) rfl ?_
  refine ev_istore_n 2 _ dX8_findWrongs_1 (by decide) rfl rfl rfl ?_
  refine s_X8_findWrongs_2 ht hn0 hn hm hlab _ (fun M1 hN => ?_) n 0 M (by omega) ⟨fun _ _ => rfl, fun q hq => absurd hq (by omega)⟩
  have e1 : M1 1 = M 1 := hN.1 1 (by decide)
  have hm1 : M1 0 0 = nI n := by rw [hN.1 0 (by decide)]; exact hm
  refine ev_aload_n 22 dX8_findWrongs_21 rfl rfl ?_
  refine ev_cV0 25 dX8_findWrongs_22 mlX8_144 moX8_findSaid rfl imX8_findSaid ⟨_, _, rfl, rfl, rfl⟩ (Nat.le_of_ble_eq_true rfl) (Nat.le_of_ble_eq_true rfl) rfl (s_X8_findSaid (M := M1) (n := n) (by rw [e1]; exact ht) hn0 hn hm1) ?_
  rintro r M2 ⟨rfl, hS, hR⟩
  rw [e1] at hR
  refine ev_aload_n 26 dX8_findWrongs_25 rfl rfl ?_
  refine ev_iconst 27 (nI 0) dX8_findWrongs_26 (by decide) rfl ?_
  refine ev_putI 30 dX8_findWrongs_27 rfl flX8_211 fiX8_20 rfl rfl ?_
  refine ev_iconst 31 (nI 0) dX8_findWrongs_30 (by decide) rfl ?_
  refine ev_istore_n 32 _ dX8_findWrongs_31 (by decide) rfl rfl rfl ?_
  refine s_X8_findWrongs_32 ht hn0 hn hm ho hco (sl := saidF (M 1) n) (fun x hx => by have := (ord_facts n hn0 (by omega) ht).2.2 x (List.mem_filter.mp hx).1; omega) n 0 _ _ (by omega) ⟨⟨fun q hq => ?_, fun j h1 h2 => ?_⟩, fun q hq => (hN.2 q hq).of ?_ ?_, hR.of ?_ ?_, ⟨by rw [mst_same, upd, if_pos rfl]; rfl, Nat.zero_le _, fun i hi => absurd hi (Nat.not_lt_zero _)⟩⟩
  · simp at hq
    rw [mst_other _ _ _ hq.1, hS.1 q hq.1 hq.2.1 hq.2.2.1 hq.2.2.2.2.2.1]
    exact hN.1 q (by simp; omega)
  · rw [mst_same, upd, if_neg h2, hS.2 j h1, hN.1 0 (by decide)]
  · rw [mst_other _ _ _ (by decide), hS.1 5 (by decide) (by decide) (by decide) (by decide)]
  · rw [mst_other _ _ _ (by decide), hS.1 6 (by decide) (by decide) (by decide) (by decide)]
  · rw [mst_other _ _ _ (by decide)]
  · rw [mst_same, upd, if_neg (by decide)]
