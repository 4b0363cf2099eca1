/-! Faults: gather, mendAt -/
def FrS : List Nat := [7, 8, 9, 10, 19, 20, 21]
def FrG (M M1 : Mm) : Prop := ∀ k, k ∉ FrS → M1 k = M k
theorem nmAt.keep {M M' : Mm} {w c p q : Nat} {l : List Int32} (h : nmOK M M' w c p) (hq : q ≠ p) (hl : nmAt M w c q l) : nmAt M' w c q l :=
  ⟨hl.1, by rw [h.2.1 q hq]; exact hl.2.1, fun i hi => by rw [h.2.2 q i hq (Nat.lt_of_lt_of_le hi hl.1)]; exact hl.2.2 i hi⟩
theorem nmAt.of {M M' : Mm} {w c q : Nat} {l : List Int32} (hl : nmAt M w c q l) (h1 : M' w = M w) (h2 : M' c = M c) : nmAt M' w c q l :=
  ⟨hl.1, by rw [h2]; exact hl.2.1, fun i hi => by rw [h1]; exact hl.2.2 i hi⟩
theorem nmF_congr {M M1 : Mm} (h1 : M1 1 = M 1) (h3 : M1 3 = M 3) (h4 : M1 4 = M 4) (h5 : M1 5 = M 5) (n a : Nat) (sh : Int32) : nmF M1 n a sh = nmF M n a sh := by
  have o1 : ∀ l s, ownW M1 n l s = ownW M n l s := fun l s => by simp only [ownW, h1]
  have a1 : nm1 M1 n a = nm1 M n a := by rw [nm1, nm1, h1, o1, o1]
  have a3 : nm3 M1 n a = nm3 M n a := by rw [nm3, nm3, a1, h1]
  have a4 : nm4 M1 n a sh = nm4 M n a sh := by rw [nm4, nm4, a3, h1, h3, h4, txtF_congr h1 h5]
  rw [nmF, nmF, a4, h1]
theorem clA_congr {M M1 : Mm} (h1 : M1 1 = M 1) (h4 : M1 4 = M 4) (sin wo : Int32) : ∀ k, clA M1 sin wo k = clA M sin wo k
  | 0 => rfl
  | k + 1 => by simp only [clA, clA_congr h1 h4 sin wo k, obb, h1, h4]
theorem fltF_congr {M M1 : Mm} (h1 : M1 1 = M 1) (h2 : M1 2 = M 2) (h3 : M1 3 = M 3) (h4 : M1 4 = M 4) (n : Nat) (ns : Nat → List Int32) (as sh : Int32) (a s : Nat) : fltF M1 n ns as sh a s = fltF M n ns as sh a s := by
  unfold fltF
  split <;> simp only [nmlF, twnF, clsF, clA_congr h1 h4, h1, h2, h3, h4]
def wrP (M : Mm) (n : Nat) (ns : Nat → List Int32) (as sh : Int32) (p : Nat) : Nat → List (Nat × Nat)
  | 0 => []
  | s + 1 => wrP M n ns as sh p s ++ (if bt sh p && fltF M n ns as sh p s then [(p, s)] else [])
def wrO (M : Mm) (n : Nat) (ns : Nat → List Int32) (as sh : Int32) : Nat → List (Nat × Nat)
  | 0 => []
  | k + 1 => wrO M n ns as sh k ++ wrP M n ns as sh k 6
theorem wrP_len (M : Mm) (n : Nat) (ns : Nat → List Int32) (as sh : Int32) (p : Nat) : ∀ s, (wrP M n ns as sh p s).length ≤ s
  | 0 => Nat.le_refl _
  | s + 1 => by
    have := wrP_len M n ns as sh p s
    rw [wrP, List.length_append]
    split <;> simp <;> omega
theorem wrO_len (M : Mm) (n : Nat) (ns : Nat → List Int32) (as sh : Int32) : ∀ k, (wrO M n ns as sh k).length ≤ 6 * k
  | 0 => Nat.le_refl _
  | k + 1 => by
    have := wrO_len M n ns as sh k
    have := wrP_len M n ns as sh k 6
    rw [wrO, List.length_append]
    omega
theorem pr_app1 {l : List (Nat × Nat)} {q : Nat × Nat} {i : Nat} (h : i < l.length) : pr1 (l ++ [q]) i = pr1 l i ∧ pr2 (l ++ [q]) i = pr2 l i := by
  simp [pr1, pr2, List.getElem?_append_left h]
theorem pr_last (l : List (Nat × Nat)) (q : Nat × Nat) : pr1 (l ++ [q]) l.length = q.1 ∧ pr2 (l ++ [q]) l.length = q.2 := by simp [pr1, pr2]
theorem wAt.push {M : Mm} {l : List (Nat × Nat)} {p s : Nat} (h : wAt M l) (hl : l.length < 144) : wAt (mst (mst (mst M 20 l.length (nI p)) 21 l.length (nI s)) 19 5 (nI (l.length + 1))) (l ++ [(p, s)]) := by
  refine ⟨by rw [mst_same, upd, if_pos rfl, List.length_append]; rfl, by rw [List.length_append]; exact hl, fun i hi => ?_⟩
  rw [List.length_append] at hi
  simp at hi
  rw [mst_other _ _ _ (by decide), mst_other _ _ _ (by decide), mst_same, mst_other _ _ _ (by decide), mst_same]
  by_cases e : i = l.length
  · subst e
    rw [(pr_last l (p, s)).1, (pr_last l (p, s)).2]
    simp [upd]
  · rw [(pr_app1 (by omega)).1, (pr_app1 (by omega)).2]
    have h1 := h.2.2 i (by omega)
    rw [mst_other _ _ _ (by decide)]
    simp only [upd, e, if_false]
    exact h1
def gI (M M1 : Mm) (as : Int32) (ns : Nat → List Int32) (k : Nat) (l : List (Nat × Nat)) : Prop := FrG M M1 ∧ M1 9 3 = as ∧ (∀ q, q < k → nmAt M1 7 8 q (ns q)) ∧ wAt M1 l
theorem gI.push {M M1 : Mm} {as : Int32} {ns : Nat → List Int32} {k p s : Nat} {l : List (Nat × Nat)} (h : gI M M1 as ns k l) (hl : l.length < 144) : gI M (mst (mst (mst M1 20 l.length (nI p)) 21 l.length (nI s)) 19 5 (nI (l.length + 1))) as ns k (l ++ [(p, s)]) := by
  refine ⟨fun q hq => ?_, ?_, fun q hq => (h.2.2.1 q hq).of ?_ ?_, h.2.2.2.push hl⟩
  · have h1 : q ≠ 19 := fun e => hq (by rw [e]; decide)
    have h2 : q ≠ 20 := fun e => hq (by rw [e]; decide)
    have h3 : q ≠ 21 := fun e => hq (by rw [e]; decide)
    rw [mst_other _ _ _ h1, mst_other _ _ _ h3, mst_other _ _ _ h2]
    exact h.1 q hq
  · rw [mst_other _ _ _ (by decide), mst_other _ _ _ (by decide), mst_other _ _ _ (by decide)]; exact h.2.1
  · rw [mst_other _ _ _ (by decide), mst_other _ _ _ (by decide), mst_other _ _ _ (by decide)]
  · rw [mst_other _ _ _ (by decide), mst_other _ _ _ (by decide), mst_other _ _ _ (by decide)]

theorem s_X0_gather_in {M : Mm} {n i : Nat} {ns : Nat → List Int32} {as sh : Int32} (hn : n ≤ 24) (hsz : M 0 5 = nI n) (hi : i < n) (hco : ∀ a, a < n → colOK (M 1) a) (hz : ∀ a, nz (ns a)) {Q : Pst} : ∀ d s (M1 : Mm), s + d = 6 → gI M M1 as ns (i + 1) (wrO M n ns as sh i ++ wrP M n ns as sh i s) → (∀ M2, gI M M2 as ns (i + 1) (wrO M n ns as sh i ++ wrP M n ns as sh i 6) → Ev XSh mX0_gather 112 [.ref 19, .int sh, .int (nI i), .int (nI 6)] [] M2 Q) → Ev XSh mX0_gather 52 [.ref 19, .int sh, .int (nI i), .int (nI s)] [] M1 Q
  | 0, s, M1, h, hg, k => by
    refine ev_iload_n 53 dX0_gather_52 rfl rfl ?_
    refine ev_bipush 55 (nI 6) dX0_gather_53 (by decide) rfl ?_
    refine ev_icmp_geN 58 112 dX0_gather_55 (by decide) rfl (by omega) (by omega) (fun c55 => ?_) (fun c55 => ?_)
    · have hs : s = 6 := by omega
      subst hs
      exact k M1 hg
    · omega
  | d + 1, s, M1, h, hg, k => by
    have hi24 : i < 24 := by omega
    have hs1 : M1 0 5 = nI n := by rw [hg.1 0 (by decide)]; exact hsz
    have e1 : M1 1 = M 1 := hg.1 1 (by decide)
    have e2 : M1 2 = M 2 := hg.1 2 (by decide)
    have e3 : M1 3 = M 3 := hg.1 3 (by decide)
    have e4 : M1 4 = M 4 := hg.1 4 (by decide)
    have hl1 := wrO_len M n ns as sh i
    have hl2 := wrP_len M n ns as sh i s
    have hl3 : (wrO M n ns as sh i ++ wrP M n ns as sh i s).length = (wrO M n ns as sh i).length + (wrP M n ns as sh i s).length := List.length_append
    refine ev_iload_n 53 dX0_gather_52 rfl rfl ?_
    refine ev_bipush 55 (nI 6) dX0_gather_53 (by decide) rfl ?_
    refine ev_icmp_geN 58 112 dX0_gather_55 (by decide) rfl (by omega) (by omega) (fun c55 => ?_) (fun c55 => ?_)
    · omega
    · refine ev_iload_n 59 dX0_gather_58 rfl rfl ?_
      refine ev_iload_n 60 dX0_gather_59 rfl rfl ?_
      refine ev_cS2I (bI (bt sh i)) M1 63 dX0_gather_60 mlX0_56 moX7_holds rfl smX7_holds (Nat.le_of_ble_eq_true rfl) (Nat.le_of_ble_eq_true rfl) rfl (by have := s_holds (Sh := XSh) (M := M1) sh (nI i); rwa [hB_nI (by omega)] at this) ?_
      refine ev_if_eqB 66 106 dX0_gather_63 (by decide) rfl (fun c63 => ?_) (fun c63 => ?_)
      · refine ev_iincN 109 _ dX0_gather_106 rfl (by decide) rfl rfl rfl ?_
        refine ev_goto 52 dX0_gather_109 (by decide) ?_
        refine s_X0_gather_in hn hsz hi hco hz d (s + 1) M1 (by omega) ?_ k
        rw [wrP, if_neg (by rw [c63]; simp), List.append_nil]
        exact hg
      · refine ev_aload_n 67 dX0_gather_66 rfl rfl ?_
        refine ev_iload_n 68 dX0_gather_67 rfl rfl ?_
        refine ev_iload_n 69 dX0_gather_68 rfl rfl ?_
        refine ev_iload_n 70 dX0_gather_69 rfl rfl ?_
        refine ev_cV3I (bI (fltF M n ns as sh i s)) M1 73 dX0_gather_70 mlX0_60 moX0_hasFault rfl imX0_hasFault ⟨_, _, rfl, rfl, rfl⟩ (Nat.le_of_ble_eq_true rfl) (Nat.le_of_ble_eq_true rfl) rfl (by have := s_X0_hasFault (s := s) hn hs1 hi (by omega) (fun q hq => hg.2.2.1 q (by omega)) (fun q _ => hz q) (by rw [e1]; exact hco i hi) as sh hg.2.1; rwa [fltF_congr e1 e2 e3 e4] at this) ?_
        refine ev_if_eqB 76 106 dX0_gather_73 (by decide) rfl (fun c73 => ?_) (fun c73 => ?_)
        · refine ev_iincN 109 _ dX0_gather_106 rfl (by decide) rfl rfl rfl ?_
          refine ev_goto 52 dX0_gather_109 (by decide) ?_
          refine s_X0_gather_in hn hsz hi hco hz d (s + 1) M1 (by omega) ?_ k
          rw [wrP, if_neg (by rw [c73]; simp), List.append_nil]
          exact hg
        · refine ev_aload_n 77 dX0_gather_76 rfl rfl ?_
          refine ev_getR 80 dX0_gather_77 rfl flX0_9 rfl rfl ?_
          refine ev_aload_n 81 dX0_gather_80 rfl rfl ?_
          refine ev_getIv 84 (nI (wrO M n ns as sh i ++ wrP M n ns as sh i s).length) dX0_gather_81 rfl flX0_30 rfl rfl hg.2.2.2.1 ?_
          refine ev_iload_n 85 dX0_gather_84 rfl rfl ?_
          refine ev_iaS 86 dX0_gather_85 rfl (by omega) (by decide) rfl ?_
          refine ev_aload_n 87 dX0_gather_86 rfl rfl ?_
          refine ev_getR 90 dX0_gather_87 rfl flX0_15 rfl rfl ?_
          refine ev_aload_n 91 dX0_gather_90 rfl rfl ?_
          refine ev_getIv 94 (nI (wrO M n ns as sh i ++ wrP M n ns as sh i s).length) dX0_gather_91 rfl flX0_30 rfl rfl (by rw [mst_other _ _ _ (by decide)]; exact hg.2.2.2.1) ?_
          refine ev_iload_n 95 dX0_gather_94 rfl rfl ?_
          refine ev_iaS 96 dX0_gather_95 rfl (by omega) (by decide) rfl ?_
          refine ev_aload_n 97 dX0_gather_96 rfl rfl ?_
          refine ev_dup 98 dX0_gather_97 rfl rfl ?_
          refine ev_getIv 101 (nI (wrO M n ns as sh i ++ wrP M n ns as sh i s).length) dX0_gather_98 rfl flX0_30 rfl rfl (by rw [mst_other _ _ _ (by decide), mst_other _ _ _ (by decide)]; exact hg.2.2.2.1) ?_
          refine ev_iconst 102 (nI 1) dX0_gather_101 (by decide) rfl ?_
          refine ev_iaddN 103 dX0_gather_102 rfl ?_
          refine ev_putI 106 dX0_gather_103 rfl flX0_30 fiX0_5 rfl rfl ?_
          refine ev_iincN 109 _ dX0_gather_106 rfl (by decide) rfl rfl rfl ?_
          refine ev_goto 52 dX0_gather_109 (by decide) ?_
          refine s_X0_gather_in hn hsz hi hco hz d (s + 1) _ (by omega) ?_ k
          rw [wrP, if_pos (by rw [c63, c73]; rfl), ← List.append_assoc]
          exact hg.push (by omega)
theorem s_X0_gather_k {M : Mm} {n : Nat} {ns : Nat → List Int32} {as sh : Int32} (hn : n ≤ 24) (hsz : M 0 5 = nI n) (hco : ∀ a, a < n → colOK (M 1) a) (hns : ∀ a, ns a = nmF M n a sh) : ∀ d i (M1 : Mm) (v : Value), i + d = n → gI M M1 as ns i (wrO M n ns as sh i) → Ev XSh mX0_gather 30 [.ref 19, .int sh, .int (nI i), v] [] M1 (fun r M2 => r = none ∧ gI M M2 as ns n (wrO M n ns as sh n))
  | 0, i, M1, v, h, hg => by
    have hi : n = i := by omega
    subst hi
    have hs1 : M1 0 5 = nI n := by rw [hg.1 0 (by decide)]; exact hsz
    have e1 : M1 1 = M 1 := hg.1 1 (by decide)
    have e3 : M1 3 = M 3 := hg.1 3 (by decide)
    have e4 : M1 4 = M 4 := hg.1 4 (by decide)
    have e5 : M1 5 = M 5 := hg.1 5 (by decide)
    refine ev_iload_n 31 dX0_gather_30 rfl rfl ?_
    refine ev_aload_n 32 dX0_gather_31 rfl rfl ?_
    refine ev_getR 35 dX0_gather_32 rfl flX0_18 rfl rfl ?_
    refine ev_getIv 38 (nI n) dX0_gather_35 rfl flX0_49 rfl rfl hs1 ?_
    refine ev_icmp_geN 41 118 dX0_gather_38 (by decide) rfl (by omega) (by omega) (fun c38 => ?_) (fun c38 => ?_)
    · exact ev_vret dX0_gather_118 rfl (⟨rfl, hg⟩)
    · omega
  | d + 1, i, M1, v, h, hg => by
    have hs1 : M1 0 5 = nI n := by rw [hg.1 0 (by decide)]; exact hsz
    have e1 : M1 1 = M 1 := hg.1 1 (by decide)
    have e3 : M1 3 = M 3 := hg.1 3 (by decide)
    have e4 : M1 4 = M 4 := hg.1 4 (by decide)
    have e5 : M1 5 = M 5 := hg.1 5 (by decide)
    refine ev_iload_n 31 dX0_gather_30 rfl rfl ?_
    refine ev_aload_n 32 dX0_gather_31 rfl rfl ?_
    refine ev_getR 35 dX0_gather_32 rfl flX0_18 rfl rfl ?_
    refine ev_getIv 38 (nI n) dX0_gather_35 rfl flX0_49 rfl rfl hs1 ?_
    refine ev_icmp_geN 41 118 dX0_gather_38 (by decide) rfl (by omega) (by omega) (fun c38 => ?_) (fun c38 => ?_)
    · omega
    · refine ev_aload_n 42 dX0_gather_41 rfl rfl ?_
      refine ev_getR 45 dX0_gather_42 rfl flX0_22 rfl rfl ?_
      refine ev_iload_n 46 dX0_gather_45 rfl rfl ?_
      refine ev_iload_n 47 dX0_gather_46 rfl rfl ?_
      refine ev_cV2 50 dX0_gather_47 mlX0_50 moX1_compose rfl imX1_compose ⟨_, _, rfl, rfl, rfl⟩ (Nat.le_of_ble_eq_true rfl) (Nat.le_of_ble_eq_true rfl) rfl (s_X1_compose (a := i) sh hn hs1 (by omega)) ?_
      rintro r M2 ⟨rfl, h2⟩
      rw [nmF_congr e1 e3 e4 e5, ← hns i] at h2
      refine ev_iconst 51 (nI 0) dX0_gather_50 (by decide) rfl ?_
      refine ev_istore_n 52 _ dX0_gather_51 (by decide) rfl rfl rfl ?_
      refine s_X0_gather_in (ns := ns) (as := as) hn hsz (by omega) hco (fun a => by rw [hns a]; exact nz_nmF sh) 6 0 M2 (by omega) ?_ (fun M3 h3 => ?_)
      · refine ⟨fun q hq => ?_, ?_, fun q hq => ?_, ?_⟩
        · rw [h2.1.1 q (fun e => hq (by rw [e]; decide)) (fun e => hq (by rw [e]; decide))]; exact hg.1 q hq
        · rw [h2.1.1 9 (by decide) (by decide)]; exact hg.2.1
        · by_cases e : q = i
          · rw [e]; exact h2.2
          · exact (hg.2.2.1 q (by omega)).keep h2.1 e
        · rw [wrP, List.append_nil]
          have hw := hg.2.2.2
          exact ⟨by rw [h2.1.1 19 (by decide) (by decide)]; exact hw.1, hw.2.1, fun j hj => by rw [h2.1.1 20 (by decide) (by decide), h2.1.1 21 (by decide) (by decide)]; exact hw.2.2 j hj⟩
      · refine ev_iincN 115 _ dX0_gather_112 rfl (by decide) rfl rfl rfl ?_
        refine ev_goto 30 dX0_gather_115 (by decide) ?_
        exact s_X0_gather_k hn hsz hco hns d (i + 1) M3 _ (by omega) h3
def wrF (M : Mm) (ol : List Nat) : List (Nat × Nat) := wrO M ol.length (fun a => nmF M ol.length a (shN M ol.length)) (cmpO (M 1) (gthF M (shN M ol.length) ol) (0, 0)).1 (shN M ol.length) ol.length
theorem s_X0_gather {M : Mm} {ol : List Nat} (ho : rowAt M 5 0 5 ol) (hb : ∀ x ∈ ol, x < ol.length) (hco : ∀ a, a < ol.length → colOK (M 1) a) : Ct XSh mX0_gather [.ref 19] M (fun r M2 => r = none ∧ FrG M M2 ∧ wAt M2 (wrF M ol)) := by
  show Ev _ _ 0 [.ref 19, .null, .null, .null] [] M _
  refine ev_aload_n 1 dX0_gather_0 rfl rfl ?_
  refine ev_getR 4 dX0_gather_1 rfl flX0_18 rfl rfl ?_
  refine ev_cV0I _ M 7 dX0_gather_4 mlX0_34 moX2_shownNow rfl imX2_shownNow ⟨_, _, rfl, rfl, rfl⟩ (Nat.le_of_ble_eq_true rfl) (Nat.le_of_ble_eq_true rfl) rfl (s_X2_shownNow ho.2.1 ho.1) ?_
  refine ev_istore_n 8 _ dX0_gather_7 (by decide) rfl rfl rfl ?_
  refine ev_aload_n 9 dX0_gather_8 rfl rfl ?_
  refine ev_getR 12 dX0_gather_9 rfl flX0_26 rfl rfl ?_
  refine ev_iload_n 13 dX0_gather_12 rfl rfl ?_
  refine ev_cV1 16 dX0_gather_13 mlX0_40 moX3_gather rfl imX3_gather ⟨_, _, rfl, rfl, rfl⟩ (Nat.le_of_ble_eq_true rfl) (Nat.le_of_ble_eq_true rfl) rfl (s_X3_gather _ ho hb) ?_
  rintro r M1 ⟨rfl, hm1, hr1⟩
  refine ev_aload_n 17 dX0_gather_16 rfl rfl ?_
  refine ev_getR 20 dX0_gather_17 rfl flX0_26 rfl rfl ?_
  refine ev_cV0 23 dX0_gather_20 mlX0_46 moX3_compare rfl imX3_compare ⟨_, _, rfl, rfl, rfl⟩ (Nat.le_of_ble_eq_true rfl) (Nat.le_of_ble_eq_true rfl) rfl (s_X3_compare hr1 (fun x hx => Nat.lt_of_lt_of_le (hb x (List.mem_filter.mp hx).1) ho.2.1)) ?_
  rintro r M2 ⟨rfl, hc2⟩
  refine ev_aload_n 24 dX0_gather_23 rfl rfl ?_
  refine ev_iconst 25 (nI 0) dX0_gather_24 (by decide) rfl ?_
  refine ev_putI 28 dX0_gather_25 rfl flX0_30 fiX0_5 rfl rfl ?_
  refine ev_iconst 29 (nI 0) dX0_gather_28 (by decide) rfl ?_
  refine ev_istore_n 30 _ dX0_gather_29 (by decide) rfl rfl rfl ?_
  refine Ev.mono (s_X0_gather_k (M := M) (n := ol.length) (ns := fun a => nmF M ol.length a (shN M ol.length)) (as := (cmpO (M 1) (gthF M (shN M ol.length) ol) (0, 0)).1) ho.2.1 ho.1 hco (fun a => rfl) ol.length 0 _ _ (by omega) ⟨fun q hq => ?_, ?_, fun q hq => by omega, ?_⟩) (fun r M' z => ⟨z.1, z.2.1, z.2.2.2.2⟩)
  · rw [mst_other _ _ _ (fun e => hq (by rw [e]; decide)), hc2.1 q (fun e => hq (by rw [e]; decide))]
    exact hm1 q (fun e => hq (by rw [e]; decide)) (fun e => hq (by rw [e]; decide))
  · rw [mst_other _ _ _ (by decide), hc2.2.2.1, hm1 1 (by decide) (by decide)]
  · exact ⟨by rw [mst_same, upd, if_pos rfl]; rfl, by simp [wrO], fun i hi => by simp [wrO] at hi⟩
def inkN (v : Nat) : Nat := if ctN 0 v < ctN 16777215 v then 16777215 else 0
def mndF (M : Mm) (p s : Nat) : Mm := if s = 0 ∨ s = 1 then mst (mst (mst M 1 (p * 18 + 3) (-1)) 1 (p * 18 + 4) (-1)) 1 (p * 18 + 1) (nI (1000000 + p)) else if s = 2 then mst M 1 (p * 18 + 16) (nI (inkN (M 1 (p * 18 + 17)).toNatClampNeg)) else if s = 5 then mst M 1 (p * 18 + 9) (nI 1) else M
theorem s_X0_mendAt_82 {M : Mm} {p s : Nat} {g : Value} (hp : p < 24) (wb : Bool) {Q : Pst} (hq : Q none (mst M 1 (p * 18 + 16) (if wb then nI 16777215 else nI 0))) : Ev XSh mX0_mendAt 82 [.ref 19, .int (nI p), .int (nI s), g, .int (bI wb)] [] M Q := by
  refine ev_aload_n 83 dX0_mendAt_82 rfl rfl ?_
  refine ev_getR 86 dX0_mendAt_83 rfl flX0_18 rfl rfl ?_
  refine ev_iload_n 87 dX0_mendAt_86 rfl rfl ?_
  refine ev_bipush 89 (nI 16) dX0_mendAt_87 (by decide) rfl ?_
  refine ev_iload 91 dX0_mendAt_89 rfl rfl ?_
  refine ev_if_eqB 94 99 dX0_mendAt_91 (by decide) rfl (fun c91 => ?_) (fun c91 => ?_)
  · refine ev_iconst 100 (nI 0) dX0_mendAt_99 (by decide) rfl ?_
    refine ev_cV3V _ 103 dX0_mendAt_100 mlX0_109 moX2_put rfl imX2_put ⟨_, _, rfl, rfl, rfl⟩ (Nat.le_of_ble_eq_true rfl) (Nat.le_of_ble_eq_true rfl) rfl (s_X2_put (b := 16) hp (by omega)) ?_
    refine ev_goto 122 dX0_mendAt_103 (by decide) ?_
    exact ev_vret dX0_mendAt_122 rfl (by rw [if_neg (by rw [c91]; decide)] at hq; exact hq)
  · refine ev_ldc 96 (nI 16777215) dX0_mendAt_94 kX0_114 rfl ?_
    refine ev_goto 100 dX0_mendAt_96 (by decide) ?_
    refine ev_cV3V _ 103 dX0_mendAt_100 mlX0_109 moX2_put rfl imX2_put ⟨_, _, rfl, rfl, rfl⟩ (Nat.le_of_ble_eq_true rfl) (Nat.le_of_ble_eq_true rfl) rfl (s_X2_put (b := 16) hp (by omega)) ?_
    refine ev_goto 122 dX0_mendAt_103 (by decide) ?_
    exact ev_vret dX0_mendAt_122 rfl (by rw [if_pos c91] at hq; exact hq)
theorem s_X0_mendAt {M : Mm} {p s v : Nat} (hp : p < 24) (hs : s < 6) (hv : v < 2 ^ 24) (hv2 : M 1 (p * 18 + 17) = nI v) : Ct XSh mX0_mendAt [.ref 19, .int (nI p), .int (nI s)] M (RetV (mndF M p s)) := by
  show Ev _ _ 0 [.ref 19, .int (nI p), .int (nI s), .null, .null] [] M _
  refine ev_iload_n 1 dX0_mendAt_0 rfl rfl ?_
  refine ev_if_eqN 4 9 dX0_mendAt_1 (by decide) rfl (by omega) (fun c1 => ?_) (fun c1 => ?_)
  · refine ev_aload_n 10 dX0_mendAt_9 rfl rfl ?_
    refine ev_getR 13 dX0_mendAt_10 rfl flX0_18 rfl rfl ?_
    refine ev_iload_n 14 dX0_mendAt_13 rfl rfl ?_
    refine ev_iconst 15 (nI 3) dX0_mendAt_14 (by decide) rfl ?_
    refine ev_iconst 16 (-1) dX0_mendAt_15 (by decide) rfl ?_
    refine ev_cV3V _ 19 dX0_mendAt_16 mlX0_109 moX2_put rfl imX2_put ⟨_, _, rfl, rfl, rfl⟩ (Nat.le_of_ble_eq_true rfl) (Nat.le_of_ble_eq_true rfl) rfl (s_X2_put (b := 3) hp (by omega)) ?_
    refine ev_aload_n 20 dX0_mendAt_19 rfl rfl ?_
    refine ev_getR 23 dX0_mendAt_20 rfl flX0_18 rfl rfl ?_
    refine ev_iload_n 24 dX0_mendAt_23 rfl rfl ?_
    refine ev_iconst 25 (nI 4) dX0_mendAt_24 (by decide) rfl ?_
    refine ev_iconst 26 (-1) dX0_mendAt_25 (by decide) rfl ?_
    refine ev_cV3V _ 29 dX0_mendAt_26 mlX0_109 moX2_put rfl imX2_put ⟨_, _, rfl, rfl, rfl⟩ (Nat.le_of_ble_eq_true rfl) (Nat.le_of_ble_eq_true rfl) rfl (s_X2_put (b := 4) hp (by omega)) ?_
    refine ev_aload_n 30 dX0_mendAt_29 rfl rfl ?_
    refine ev_getR 33 dX0_mendAt_30 rfl flX0_18 rfl rfl ?_
    refine ev_iload_n 34 dX0_mendAt_33 rfl rfl ?_
    refine ev_iconst 35 (nI 1) dX0_mendAt_34 (by decide) rfl ?_
    refine ev_ldc 37 (nI 1000000) dX0_mendAt_35 kX0_113 rfl ?_
    refine ev_iload_n 38 dX0_mendAt_37 rfl rfl ?_
    refine ev_iaddN 39 dX0_mendAt_38 rfl ?_
    refine ev_cV3V _ 42 dX0_mendAt_39 mlX0_109 moX2_put rfl imX2_put ⟨_, _, rfl, rfl, rfl⟩ (Nat.le_of_ble_eq_true rfl) (Nat.le_of_ble_eq_true rfl) rfl (s_X2_put (b := 1) hp (by omega)) ?_
    refine ev_goto 122 dX0_mendAt_42 (by decide) ?_
    exact ev_vret dX0_mendAt_122 rfl (⟨rfl, by unfold mndF; first | (rw [if_pos (by omega)]; done) | (rw [if_neg (by omega), if_neg (by omega), if_pos (by omega)]; done) | (rw [if_neg (by omega), if_neg (by omega), if_neg (by omega)]; done)⟩)
  · refine ev_iload_n 5 dX0_mendAt_4 rfl rfl ?_
    refine ev_iconst 6 (nI 1) dX0_mendAt_5 (by decide) rfl ?_
    refine ev_icmp_neN 9 45 dX0_mendAt_6 (by decide) rfl (by omega) (by omega) (fun c6 => ?_) (fun c6 => ?_)
    · refine ev_iload_n 46 dX0_mendAt_45 rfl rfl ?_
      refine ev_iconst 47 (nI 2) dX0_mendAt_46 (by decide) rfl ?_
      refine ev_icmp_neN 50 106 dX0_mendAt_47 (by decide) rfl (by omega) (by omega) (fun c47 => ?_) (fun c47 => ?_)
      · refine ev_iload_n 107 dX0_mendAt_106 rfl rfl ?_
        refine ev_iconst 108 (nI 5) dX0_mendAt_107 (by decide) rfl ?_
        refine ev_icmp_neN 111 122 dX0_mendAt_108 (by decide) rfl (by omega) (by omega) (fun c108 => ?_) (fun c108 => ?_)
        · exact ev_vret dX0_mendAt_122 rfl (⟨rfl, by unfold mndF; first | (rw [if_pos (by omega)]; done) | (rw [if_neg (by omega), if_neg (by omega), if_pos (by omega)]; done) | (rw [if_neg (by omega), if_neg (by omega), if_neg (by omega)]; done)⟩)
        · refine ev_aload_n 112 dX0_mendAt_111 rfl rfl ?_
          refine ev_getR 115 dX0_mendAt_112 rfl flX0_18 rfl rfl ?_
          refine ev_iload_n 116 dX0_mendAt_115 rfl rfl ?_
          refine ev_bipush 118 (nI 9) dX0_mendAt_116 (by decide) rfl ?_
          refine ev_iconst 119 (nI 1) dX0_mendAt_118 (by decide) rfl ?_
          refine ev_cV3V _ 122 dX0_mendAt_119 mlX0_109 moX2_put rfl imX2_put ⟨_, _, rfl, rfl, rfl⟩ (Nat.le_of_ble_eq_true rfl) (Nat.le_of_ble_eq_true rfl) rfl (s_X2_put (b := 9) hp (by omega)) ?_
          exact ev_vret dX0_mendAt_122 rfl (⟨rfl, by unfold mndF; first | (rw [if_pos (by omega)]; done) | (rw [if_neg (by omega), if_neg (by omega), if_pos (by omega)]; done) | (rw [if_neg (by omega), if_neg (by omega), if_neg (by omega)]; done)⟩)
      · refine ev_aload_n 51 dX0_mendAt_50 rfl rfl ?_
        refine ev_getR 54 dX0_mendAt_51 rfl flX0_18 rfl rfl ?_
        refine ev_iload_n 55 dX0_mendAt_54 rfl rfl ?_
        refine ev_bipush 57 (nI 17) dX0_mendAt_55 (by decide) rfl ?_
        refine ev_cV2I (nI v) M 60 dX0_mendAt_57 mlX0_74 moX2_get rfl imX2_get ⟨_, _, rfl, rfl, rfl⟩ (Nat.le_of_ble_eq_true rfl) (Nat.le_of_ble_eq_true rfl) rfl (by rw [← hv2]; exact s_X2_get hp (by omega)) ?_
        refine ev_istore_n 61 _ dX0_mendAt_60 (by decide) rfl rfl rfl ?_
        refine ev_ldc 63 (nI 16777215) dX0_mendAt_61 kX0_114 rfl ?_
        refine ev_iload_n 64 dX0_mendAt_63 rfl rfl ?_
        refine ev_cS2I _ M 67 dX0_mendAt_64 mlX0_115 moX7_contrastBetween rfl smX7_contrastBetween (Nat.le_of_ble_eq_true rfl) (Nat.le_of_ble_eq_true rfl) rfl (s_contrastBetween (by decide) hv) ?_
        refine ev_iconst 68 (nI 0) dX0_mendAt_67 (by decide) rfl ?_
        refine ev_iload_n 69 dX0_mendAt_68 rfl rfl ?_
        refine ev_cS2I _ M 72 dX0_mendAt_69 mlX0_115 moX7_contrastBetween rfl smX7_contrastBetween (Nat.le_of_ble_eq_true rfl) (Nat.le_of_ble_eq_true rfl) rfl (s_contrastBetween (by decide) hv) ?_
        refine ev_icmp_leN 75 79 dX0_mendAt_72 (by decide) rfl (ctN_lt _ _) (ctN_lt _ _) (fun c72 => ?_) (fun c72 => ?_)
        · refine ev_iconst 80 (nI 0) dX0_mendAt_79 (by decide) rfl ?_
          refine ev_istore 82 _ dX0_mendAt_80 (by decide) rfl rfl rfl ?_
          exact s_X0_mendAt_82 hp false ⟨rfl, by show mst M 1 (p * 18 + 16) (nI 0) = mndF M p s; rw [mndF, if_neg (by omega), if_pos c47, hv2, nI_clamp (by omega), inkN, if_neg (by omega)]⟩
        · refine ev_iconst 76 (nI 1) dX0_mendAt_75 (by decide) rfl ?_
          refine ev_goto 80 dX0_mendAt_76 (by decide) ?_
          refine ev_istore 82 _ dX0_mendAt_80 (by decide) rfl rfl rfl ?_
          exact s_X0_mendAt_82 hp true ⟨rfl, by show mst M 1 (p * 18 + 16) (nI 16777215) = mndF M p s; rw [mndF, if_neg (by omega), if_pos c47, hv2, nI_clamp (by omega), inkN, if_pos (by omega)]⟩
    · refine ev_aload_n 10 dX0_mendAt_9 rfl rfl ?_
      refine ev_getR 13 dX0_mendAt_10 rfl flX0_18 rfl rfl ?_
      refine ev_iload_n 14 dX0_mendAt_13 rfl rfl ?_
      refine ev_iconst 15 (nI 3) dX0_mendAt_14 (by decide) rfl ?_
      refine ev_iconst 16 (-1) dX0_mendAt_15 (by decide) rfl ?_
      refine ev_cV3V _ 19 dX0_mendAt_16 mlX0_109 moX2_put rfl imX2_put ⟨_, _, rfl, rfl, rfl⟩ (Nat.le_of_ble_eq_true rfl) (Nat.le_of_ble_eq_true rfl) rfl (s_X2_put (b := 3) hp (by omega)) ?_
      refine ev_aload_n 20 dX0_mendAt_19 rfl rfl ?_
      refine ev_getR 23 dX0_mendAt_20 rfl flX0_18 rfl rfl ?_
      refine ev_iload_n 24 dX0_mendAt_23 rfl rfl ?_
      refine ev_iconst 25 (nI 4) dX0_mendAt_24 (by decide) rfl ?_
      refine ev_iconst 26 (-1) dX0_mendAt_25 (by decide) rfl ?_
      refine ev_cV3V _ 29 dX0_mendAt_26 mlX0_109 moX2_put rfl imX2_put ⟨_, _, rfl, rfl, rfl⟩ (Nat.le_of_ble_eq_true rfl) (Nat.le_of_ble_eq_true rfl) rfl (s_X2_put (b := 4) hp (by omega)) ?_
      refine ev_aload_n 30 dX0_mendAt_29 rfl rfl ?_
      refine ev_getR 33 dX0_mendAt_30 rfl flX0_18 rfl rfl ?_
      refine ev_iload_n 34 dX0_mendAt_33 rfl rfl ?_
      refine ev_iconst 35 (nI 1) dX0_mendAt_34 (by decide) rfl ?_
      refine ev_ldc 37 (nI 1000000) dX0_mendAt_35 kX0_113 rfl ?_
      refine ev_iload_n 38 dX0_mendAt_37 rfl rfl ?_
      refine ev_iaddN 39 dX0_mendAt_38 rfl ?_
      refine ev_cV3V _ 42 dX0_mendAt_39 mlX0_109 moX2_put rfl imX2_put ⟨_, _, rfl, rfl, rfl⟩ (Nat.le_of_ble_eq_true rfl) (Nat.le_of_ble_eq_true rfl) rfl (s_X2_put (b := 1) hp (by omega)) ?_
      refine ev_goto 122 dX0_mendAt_42 (by decide) ?_
      exact ev_vret dX0_mendAt_122 rfl (⟨rfl, by unfold mndF; first | (rw [if_pos (by omega)]; done) | (rw [if_neg (by omega), if_neg (by omega), if_pos (by omega)]; done) | (rw [if_neg (by omega), if_neg (by omega), if_neg (by omega)]; done)⟩)
