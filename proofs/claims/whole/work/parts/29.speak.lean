/-! the reference: opened, isFor, speak, contrast, words, boxes, stops -/
def opC (h : Nat → Int32) (x : Int32) (n : Nat) (p : Nat) : Bool := decide (1 ≤ p) && opB h x p n
theorem opC_0 (h : Nat → Int32) (x : Int32) (n : Nat) : fb_ct (opC h x n) 1 = 0 := by rw [fb_ct_succ]; rfl
theorem s_X8_opened_k {M : Mm} {n : Nat} (hn : n ≤ 24) (hm : M 0 0 = nI n) : ∀ d i, 1 ≤ i → i + d = n → Ev MSh mX8_opened 4 [.ref 0, .int (nI (fb_ct (opC (M 1) (-1) n) i)), .int (nI i)] [] M (RetI (nI (fb_ct (opC (M 1) (-1) n) n)) M)
  | 0, i, h1, h => by
    refine ev_iload_n 5 dX8_opened_4 rfl rfl ?_
    refine ev_aload_n 6 dX8_opened_5 rfl rfl ?_
    refine ev_getIv 9 (nI n) dX8_opened_6 rfl flX8_57 rfl rfl hm ?_
    refine ev_icmp_geN 12 35 dX8_opened_9 (by decide) rfl (by omega) (by omega) (fun c9 => ?_) (fun c9 => ?_)
    · refine ev_iload_n 36 dX8_opened_35 rfl rfl ?_
      exact ev_iret dX8_opened_36 rfl (⟨by rw [show i = n by omega], rfl⟩)
    · omega
  | d + 1, i, h1, h => by
    refine ev_iload_n 5 dX8_opened_4 rfl rfl ?_
    refine ev_aload_n 6 dX8_opened_5 rfl rfl ?_
    refine ev_getIv 9 (nI n) dX8_opened_6 rfl flX8_57 rfl rfl hm ?_
    refine ev_icmp_geN 12 35 dX8_opened_9 (by decide) rfl (by omega) (by omega) (fun c9 => ?_) (fun c9 => ?_)
    · omega
    · refine ev_iload_n 13 dX8_opened_12 rfl rfl ?_
      refine ev_aload_n 14 dX8_opened_13 rfl rfl ?_
      refine ev_iload_n 15 dX8_opened_14 rfl rfl ?_
      refine ev_iconst 16 (-1) dX8_opened_15 (by decide) rfl ?_
      refine ev_cV2I _ M 19 dX8_opened_16 mlX8_78 moX8_isOpenedBy rfl imX8_isOpenedBy ⟨_, _, rfl, rfl, rfl⟩ (Nat.le_of_ble_eq_true rfl) (Nat.le_of_ble_eq_true rfl) rfl (s_X8_isOpenedBy hn hm (-1) i) ?_
      refine ev_if_eqB 22 26 dX8_opened_19 (by decide) rfl (fun c19 => ?_) (fun c19 => ?_)
      · refine ev_iconst 27 (nI 0) dX8_opened_26 (by decide) rfl ?_
        refine ev_iaddN 28 dX8_opened_27 rfl ?_
        refine ev_eqI ((by rw [fb_ct_succ, opC, c19, Bool.and_false]; rfl) : _ = nI (fb_ct (opC (M 1) (-1) n) (i + 1))) ?_
        refine ev_istore_n 29 _ dX8_opened_28 (by decide) rfl rfl rfl ?_
        refine ev_iincN 32 _ dX8_opened_29 rfl (by decide) rfl rfl rfl ?_
        refine ev_goto 4 dX8_opened_32 (by decide) ?_
        exact s_X8_opened_k hn hm d (i + 1) (by omega) (by omega)
      · refine ev_iconst 23 (nI 1) dX8_opened_22 (by decide) rfl ?_
        refine ev_goto 27 dX8_opened_23 (by decide) ?_
        refine ev_iaddN 28 dX8_opened_27 rfl ?_
        refine ev_eqI ((by rw [fb_ct_succ, opC, c19, decide_eq_true h1]; rfl) : _ = nI (fb_ct (opC (M 1) (-1) n) (i + 1))) ?_
        refine ev_istore_n 29 _ dX8_opened_28 (by decide) rfl rfl rfl ?_
        refine ev_iincN 32 _ dX8_opened_29 rfl (by decide) rfl rfl rfl ?_
        refine ev_goto 4 dX8_opened_32 (by decide) ?_
        exact s_X8_opened_k hn hm d (i + 1) (by omega) (by omega)
theorem s_X8_opened {M : Mm} {n : Nat} (hn1 : 1 ≤ n) (hn : n ≤ 24) (hm : M 0 0 = nI n) : Ct MSh mX8_opened [.ref 0] M (RetI (nI (fb_ct (opC (M 1) (-1) n) n)) M) := by
  show Ev _ _ 0 [.ref 0, .null, .null] [] M _
  refine ev_iconst 1 (nI 0) dX8_opened_0 (by decide) rfl ?_
  refine ev_istore_n 2 _ dX8_opened_1 (by decide) rfl rfl rfl ?_
  refine ev_iconst 3 (nI 1) dX8_opened_2 (by decide) rfl ?_
  refine ev_istore_n 4 _ dX8_opened_3 (by decide) rfl rfl rfl ?_
  have z := s_X8_opened_k hn hm (n - 1) 1 (Nat.le_refl _) (by omega)
  rw [opC_0] at z
  exact z
theorem s_X8_isFor {M : Mm} {n b : Nat} (hn1 : 1 ≤ n) (hn : n ≤ 24) (hm : M 0 0 = nI n) (hb : b < 10) (v : Int32) : Ct MSh mX8_isFor [.ref 0, .int (nI b), .int v] M (RetI (bI (alw n (nI b) v)) M) := by
  show Ev _ _ 0 [.ref 0, .int (nI b), .int v] [] M _
  refine ev_iload_n 1 dX8_isFor_0 rfl rfl ?_
  rcases (show b = 0 ∨ b = 1 ∨ b = 2 ∨ b = 3 ∨ b = 4 ∨ b = 5 ∨ b = 6 ∨ b = 7 ∨ b = 8 ∨ b = 9 by omega) with rfl | rfl | rfl | rfl | rfl | rfl | rfl | rfl | rfl | rfl
  · refine ev_tabIn 56 dX8_isFor_1 (by decide) (by decide) rfl (by decide) ?_
    refine ev_iconst 57 (nI 1) dX8_isFor_56 (by decide) rfl ?_
    exact ev_zret dX8_isFor_57 rfl (Or.inr rfl) (⟨by rw [show alw n (nI 0) v = true from rfl]; rfl, rfl⟩)
  · refine ev_tabIn 56 dX8_isFor_1 (by decide) (by decide) rfl (by decide) ?_
    refine ev_iconst 57 (nI 1) dX8_isFor_56 (by decide) rfl ?_
    exact ev_zret dX8_isFor_57 rfl (Or.inr rfl) (⟨by rw [show alw n (nI 1) v = true from rfl]; rfl, rfl⟩)
  · refine ev_tabIn 56 dX8_isFor_1 (by decide) (by decide) rfl (by decide) ?_
    refine ev_iconst 57 (nI 1) dX8_isFor_56 (by decide) rfl ?_
    exact ev_zret dX8_isFor_57 rfl (Or.inr rfl) (⟨by rw [show alw n (nI 2) v = true from rfl]; rfl, rfl⟩)
  · refine ev_tabIn 58 dX8_isFor_1 (by decide) (by decide) rfl (by decide) ?_
    refine ev_iload_n 59 dX8_isFor_58 rfl rfl ?_
    refine ev_iconst 60 (-1) dX8_isFor_59 (by decide) rfl ?_
    refine ev_icmp_eq 63 71 dX8_isFor_60 (by decide) rfl (fun c60 => ?_) (fun c60 => ?_)
    · refine ev_iconst 72 (nI 1) dX8_isFor_71 (by decide) rfl ?_
      refine ev_goto 76 dX8_isFor_72 (by decide) ?_
      exact ev_zret dX8_isFor_76 rfl (Or.inr rfl) (⟨by rw [show alw n (nI 3) v = (v == -1 || inB v n) from rfl]; first | (rw [c60]; rfl) | (simp [c60, c68, bI, nI_0, nI_one]), rfl⟩)
    · refine ev_aload_n 64 dX8_isFor_63 rfl rfl ?_
      refine ev_iload_n 65 dX8_isFor_64 rfl rfl ?_
      refine ev_cV1I _ M 68 dX8_isFor_65 mlX8_68 moX8_isPart rfl imX8_isPart ⟨_, _, rfl, rfl, rfl⟩ (Nat.le_of_ble_eq_true rfl) (Nat.le_of_ble_eq_true rfl) rfl (s_X8_isPart hn1 hn hm v) ?_
      refine ev_if_eqB 71 75 dX8_isFor_68 (by decide) rfl (fun c68 => ?_) (fun c68 => ?_)
      · refine ev_iconst 76 (nI 0) dX8_isFor_75 (by decide) rfl ?_
        exact ev_zret dX8_isFor_76 rfl (Or.inl rfl) (⟨by rw [show alw n (nI 3) v = (v == -1 || inB v n) from rfl]; first | (rw [c60]; rfl) | (simp [c60, c68, bI, nI_0, nI_one]), rfl⟩)
      · refine ev_iconst 72 (nI 1) dX8_isFor_71 (by decide) rfl ?_
        refine ev_goto 76 dX8_isFor_72 (by decide) ?_
        exact ev_zret dX8_isFor_76 rfl (Or.inr rfl) (⟨by rw [show alw n (nI 3) v = (v == -1 || inB v n) from rfl]; first | (rw [c60]; rfl) | (simp [c60, c68, bI, nI_0, nI_one]), rfl⟩)
  · refine ev_tabIn 58 dX8_isFor_1 (by decide) (by decide) rfl (by decide) ?_
    refine ev_iload_n 59 dX8_isFor_58 rfl rfl ?_
    refine ev_iconst 60 (-1) dX8_isFor_59 (by decide) rfl ?_
    refine ev_icmp_eq 63 71 dX8_isFor_60 (by decide) rfl (fun c60 => ?_) (fun c60 => ?_)
    · refine ev_iconst 72 (nI 1) dX8_isFor_71 (by decide) rfl ?_
      refine ev_goto 76 dX8_isFor_72 (by decide) ?_
      exact ev_zret dX8_isFor_76 rfl (Or.inr rfl) (⟨by rw [show alw n (nI 4) v = (v == -1 || inB v n) from rfl]; first | (rw [c60]; rfl) | (simp [c60, c68, bI, nI_0, nI_one]), rfl⟩)
    · refine ev_aload_n 64 dX8_isFor_63 rfl rfl ?_
      refine ev_iload_n 65 dX8_isFor_64 rfl rfl ?_
      refine ev_cV1I _ M 68 dX8_isFor_65 mlX8_68 moX8_isPart rfl imX8_isPart ⟨_, _, rfl, rfl, rfl⟩ (Nat.le_of_ble_eq_true rfl) (Nat.le_of_ble_eq_true rfl) rfl (s_X8_isPart hn1 hn hm v) ?_
      refine ev_if_eqB 71 75 dX8_isFor_68 (by decide) rfl (fun c68 => ?_) (fun c68 => ?_)
      · refine ev_iconst 76 (nI 0) dX8_isFor_75 (by decide) rfl ?_
        exact ev_zret dX8_isFor_76 rfl (Or.inl rfl) (⟨by rw [show alw n (nI 4) v = (v == -1 || inB v n) from rfl]; first | (rw [c60]; rfl) | (simp [c60, c68, bI, nI_0, nI_one]), rfl⟩)
      · refine ev_iconst 72 (nI 1) dX8_isFor_71 (by decide) rfl ?_
        refine ev_goto 76 dX8_isFor_72 (by decide) ?_
        exact ev_zret dX8_isFor_76 rfl (Or.inr rfl) (⟨by rw [show alw n (nI 4) v = (v == -1 || inB v n) from rfl]; first | (rw [c60]; rfl) | (simp [c60, c68, bI, nI_0, nI_one]), rfl⟩)
  · refine ev_tabIn 77 dX8_isFor_1 (by decide) (by decide) rfl (by decide) ?_
    refine ev_iload_n 78 dX8_isFor_77 rfl rfl ?_
    refine ev_i2l 79 dX8_isFor_78 rfl ?_
    refine ev_lconst 80 (lN 0) dX8_isFor_79 rfl rfl ?_
    refine ev_lconst 81 (lN 1) dX8_isFor_80 rfl rfl ?_
    refine ev_cS3I (bI (inB v 2)) M 84 dX8_isFor_81 mlX8_64 moX8_in rfl smX8_in (Nat.le_of_ble_eq_true rfl) (Nat.le_of_ble_eq_true rfl) rfl (by have z := s_in (Sh := MSh) (M := M) v.toInt64 (lN 0) (lN 1); rwa [in_eq v (by omega)] at z) ?_
    exact ev_zretB dX8_isFor_84 rfl (⟨by rw [show alw n (nI 5) v = inB v 2 from rfl], rfl⟩)
  · refine ev_tabIn 85 dX8_isFor_1 (by decide) (by decide) rfl (by decide) ?_
    refine ev_iload_n 86 dX8_isFor_85 rfl rfl ?_
    refine ev_i2l 87 dX8_isFor_86 rfl ?_
    refine ev_lconst 88 (lN 0) dX8_isFor_87 rfl rfl ?_
    refine ev_ldc2 91 (lN 100) dX8_isFor_88 kX8_82 rfl ?_
    refine ev_cS3I (bI (inB v 101)) M 94 dX8_isFor_91 mlX8_64 moX8_in rfl smX8_in (Nat.le_of_ble_eq_true rfl) (Nat.le_of_ble_eq_true rfl) rfl (by have z := s_in (Sh := MSh) (M := M) v.toInt64 (lN 0) (lN 100); rwa [in_eq v (by omega)] at z) ?_
    exact ev_zretB dX8_isFor_94 rfl (⟨by rw [show alw n (nI 6) v = inB v 101 from rfl], rfl⟩)
  · refine ev_tabIn 95 dX8_isFor_1 (by decide) (by decide) rfl (by decide) ?_
    refine ev_iload_n 96 dX8_isFor_95 rfl rfl ?_
    refine ev_iconst 97 (-1) dX8_isFor_96 (by decide) rfl ?_
    refine ev_icmp_eq 100 112 dX8_isFor_97 (by decide) rfl (fun c97 => ?_) (fun c97 => ?_)
    · refine ev_iconst 113 (nI 1) dX8_isFor_112 (by decide) rfl ?_
      refine ev_goto 117 dX8_isFor_113 (by decide) ?_
      exact ev_zret dX8_isFor_117 rfl (Or.inr rfl) (⟨by rw [show alw n (nI 7) v = (v == -1 || (v != 0 && inB v n)) from rfl]; first | (rw [c97]; rfl) | (simp [c97, c101, bI, nI_0, nI_one]; done) | (simp [c97, c101, c109, bI, nI_0, nI_one]), rfl⟩)
    · refine ev_iload_n 101 dX8_isFor_100 rfl rfl ?_
      refine ev_if_eq 104 116 dX8_isFor_101 (by decide) rfl (fun c101 => ?_) (fun c101 => ?_)
      · refine ev_iconst 117 (nI 0) dX8_isFor_116 (by decide) rfl ?_
        exact ev_zret dX8_isFor_117 rfl (Or.inl rfl) (⟨by rw [show alw n (nI 7) v = (v == -1 || (v != 0 && inB v n)) from rfl]; first | (rw [c97]; rfl) | (simp [c97, c101, bI, nI_0, nI_one]; done) | (simp [c97, c101, c109, bI, nI_0, nI_one]), rfl⟩)
      · refine ev_aload_n 105 dX8_isFor_104 rfl rfl ?_
        refine ev_iload_n 106 dX8_isFor_105 rfl rfl ?_
        refine ev_cV1I _ M 109 dX8_isFor_106 mlX8_68 moX8_isPart rfl imX8_isPart ⟨_, _, rfl, rfl, rfl⟩ (Nat.le_of_ble_eq_true rfl) (Nat.le_of_ble_eq_true rfl) rfl (s_X8_isPart hn1 hn hm v) ?_
        refine ev_if_eqB 112 116 dX8_isFor_109 (by decide) rfl (fun c109 => ?_) (fun c109 => ?_)
        · refine ev_iconst 117 (nI 0) dX8_isFor_116 (by decide) rfl ?_
          exact ev_zret dX8_isFor_117 rfl (Or.inl rfl) (⟨by rw [show alw n (nI 7) v = (v == -1 || (v != 0 && inB v n)) from rfl]; first | (rw [c97]; rfl) | (simp [c97, c101, bI, nI_0, nI_one]; done) | (simp [c97, c101, c109, bI, nI_0, nI_one]), rfl⟩)
        · refine ev_iconst 113 (nI 1) dX8_isFor_112 (by decide) rfl ?_
          refine ev_goto 117 dX8_isFor_113 (by decide) ?_
          exact ev_zret dX8_isFor_117 rfl (Or.inr rfl) (⟨by rw [show alw n (nI 7) v = (v == -1 || (v != 0 && inB v n)) from rfl]; first | (rw [c97]; rfl) | (simp [c97, c101, bI, nI_0, nI_one]; done) | (simp [c97, c101, c109, bI, nI_0, nI_one]), rfl⟩)
  · refine ev_tabIn 118 dX8_isFor_1 (by decide) (by decide) rfl (by decide) ?_
    refine ev_iload_n 119 dX8_isFor_118 rfl rfl ?_
    refine ev_i2l 120 dX8_isFor_119 rfl ?_
    refine ev_lconst 121 (lN 0) dX8_isFor_120 rfl rfl ?_
    refine ev_ldc2 124 (lN 1000) dX8_isFor_121 kX8_84 rfl ?_
    refine ev_cS3I (bI (inB v 1001)) M 127 dX8_isFor_124 mlX8_64 moX8_in rfl smX8_in (Nat.le_of_ble_eq_true rfl) (Nat.le_of_ble_eq_true rfl) rfl (by have z := s_in (Sh := MSh) (M := M) v.toInt64 (lN 0) (lN 1000); rwa [in_eq v (by omega)] at z) ?_
    exact ev_zretB dX8_isFor_127 rfl (⟨by rw [show alw n (nI 8) v = inB v 1001 from rfl], rfl⟩)
  · refine ev_tabIn 77 dX8_isFor_1 (by decide) (by decide) rfl (by decide) ?_
    refine ev_iload_n 78 dX8_isFor_77 rfl rfl ?_
    refine ev_i2l 79 dX8_isFor_78 rfl ?_
    refine ev_lconst 80 (lN 0) dX8_isFor_79 rfl rfl ?_
    refine ev_lconst 81 (lN 1) dX8_isFor_80 rfl rfl ?_
    refine ev_cS3I (bI (inB v 2)) M 84 dX8_isFor_81 mlX8_64 moX8_in rfl smX8_in (Nat.le_of_ble_eq_true rfl) (Nat.le_of_ble_eq_true rfl) rfl (by have z := s_in (Sh := MSh) (M := M) v.toInt64 (lN 0) (lN 1); rwa [in_eq v (by omega)] at z) ?_
    exact ev_zretB dX8_isFor_84 rfl (⟨by rw [show alw n (nI 9) v = inB v 2 from rfl], rfl⟩)
theorem nodup_lt {l : List Nat} {x : Nat} (hnd : l.Nodup) (hb : ∀ y ∈ l, y < 24) (hx : x < 24) (hn : x ∉ l) : l.length < 24 := by
  have h := fb_holes 24 (l.length + 1) (fun i => nth (l ++ [x]) i) (fun i hi => by
    have : nth (l ++ [x]) i ∈ l ++ [x] := getD_mem (by rw [List.length_append]; exact hi)
    rcases List.mem_append.mp this with z | z
    · exact hb _ z
    · simp at z; omega) (fun i j hij hj e => by
    have hnd2 : (l ++ [x]).Nodup := by
      rw [List.nodup_append]
      exact ⟨hnd, by simp, fun a ha b hb2 e9 => by simp at hb2; rw [e9, hb2] at ha; exact hn ha⟩
    have hl : (l ++ [x]).length = l.length + 1 := by rw [List.length_append]; rfl
    have e2 : (l ++ [x])[i]'(by omega) = (l ++ [x])[j]'(by omega) := by
      simp only [nth, List.getD_eq_getElem?_getD, List.getElem?_eq_getElem (show i < (l ++ [x]).length by omega), List.getElem?_eq_getElem (show j < (l ++ [x]).length by omega)] at e
      exact e
    have := (List.getElem_inj hnd2).mp e2
    omega)
  omega
def spkS (h : Nat → Int32) (sp : List Nat) (a : Nat) : List Nat := match inm h a 6 with
  | none => sp
  | some x => if shwn h x then spkF sp x else sp
theorem inm_mem {h : Nat → Int32} {a k x : Nat} (e : inm h a k = some x) : x ∈ chain h a := List.mem_of_find?_eq_some e
def ntB (sp : List Nat) (v : Int32) (b : Bool) : Nat → Bool
  | 0 => b
  | k + 1 => ntB sp v b k && decide (¬ nI (nth sp k) = v)
theorem ntB_true {sp : List Nat} {x : Nat} (hx : x < 24) (hb : ∀ y ∈ sp, y < 24) : ∀ k, k ≤ sp.length → (ntB sp (nI x) true k = true ↔ ∀ j, j < k → nth sp j ≠ x)
  | 0, _ => by simp [ntB]
  | k + 1, hk => by
    have hy := hb _ (getD_mem (show k < sp.length by omega))
    rw [ntB, Bool.and_eq_true, ntB_true hx hb k (by omega), decide_eq_true_eq, nI_eq (by omega) (by omega)]
    constructor
    · rintro ⟨a, b⟩ j hj
      by_cases e : j = k
      · rw [e]; exact b
      · exact a j (by omega)
    · intro a
      exact ⟨fun j hj => a j (by omega), a k (by omega)⟩
theorem ntB_false (sp : List Nat) (v : Int32) : ∀ k, ntB sp v false k = false
  | 0 => rfl
  | k + 1 => by rw [ntB, ntB_false sp v k]; rfl

theorem s_X8_speak_k {M : Mm} {sp : List Nat} (hsp : rowAt M 2 0 3 sp) (x v : Int32) (b : Bool) {Q : Pst} (k : Ev MSh mX8_speak 66 [.ref 0, .int x, .int v, .int (bI (ntB sp v b sp.length)), .int (nI sp.length)] [] M Q) : ∀ d i, i + d = sp.length → Ev MSh mX8_speak 30 [.ref 0, .int x, .int v, .int (bI (ntB sp v b i)), .int (nI i)] [] M Q
  | 0, i, h => by
    have hle := hsp.2.1
    refine ev_iload 32 dX8_speak_30 rfl rfl ?_
    refine ev_aload_n 33 dX8_speak_32 rfl rfl ?_
    refine ev_getIv 36 (nI sp.length) dX8_speak_33 rfl flX8_92 rfl rfl hsp.1 ?_
    refine ev_icmp_geN 39 66 dX8_speak_36 (by decide) rfl (by omega) (by omega) (fun c36 => ?_) (fun c36 => ?_)
    · rw [show i = sp.length by omega]
      exact k
    · omega
  | d + 1, i, h => by
    have hle := hsp.2.1
    refine ev_iload 32 dX8_speak_30 rfl rfl ?_
    refine ev_aload_n 33 dX8_speak_32 rfl rfl ?_
    refine ev_getIv 36 (nI sp.length) dX8_speak_33 rfl flX8_92 rfl rfl hsp.1 ?_
    refine ev_icmp_geN 39 66 dX8_speak_36 (by decide) rfl (by omega) (by omega) (fun c36 => ?_) (fun c36 => ?_)
    · omega
    · refine ev_iload_n 40 dX8_speak_39 rfl rfl ?_
      refine ev_if_eqB 43 58 dX8_speak_40 (by decide) rfl (fun c40 => ?_) (fun c40 => ?_)
      · refine ev_iconst 59 (nI 0) dX8_speak_58 (by decide) rfl ?_
        refine ev_eqI ((by rw [ntB, c40]; rfl) : _ = bI (ntB sp v b (i + 1))) ?_
        refine ev_istore_n 60 _ dX8_speak_59 (by decide) rfl rfl rfl ?_
        refine ev_iincN 63 _ dX8_speak_60 rfl (by decide) rfl rfl rfl ?_
        refine ev_goto 30 dX8_speak_63 (by decide) ?_
        exact s_X8_speak_k hsp x v b k d (i + 1) (by omega)
      · refine ev_aload_n 44 dX8_speak_43 rfl rfl ?_
        refine ev_getR 47 dX8_speak_44 rfl flX8_13 rfl rfl ?_
        refine ev_iload 49 dX8_speak_47 rfl rfl ?_
        refine ev_iaN 50 (nI (nth sp i)) dX8_speak_49 rfl (by omega) (by decide) rfl (hsp.2.2 i (by omega)) ?_
        refine ev_iload_n 51 dX8_speak_50 rfl rfl ?_
        refine ev_icmp_eq 54 58 dX8_speak_51 (by decide) rfl (fun c51 => ?_) (fun c51 => ?_)
        · refine ev_iconst 59 (nI 0) dX8_speak_58 (by decide) rfl ?_
          refine ev_eqI ((by rw [ntB, c40, decide_eq_false (fun z => z c51)]; rfl) : _ = bI (ntB sp v b (i + 1))) ?_
          refine ev_istore_n 60 _ dX8_speak_59 (by decide) rfl rfl rfl ?_
          refine ev_iincN 63 _ dX8_speak_60 rfl (by decide) rfl rfl rfl ?_
          refine ev_goto 30 dX8_speak_63 (by decide) ?_
          exact s_X8_speak_k hsp x v b k d (i + 1) (by omega)
        · refine ev_iconst 55 (nI 1) dX8_speak_54 (by decide) rfl ?_
          refine ev_goto 59 dX8_speak_55 (by decide) ?_
          refine ev_eqI ((by rw [ntB, c40, decide_eq_true c51]; rfl) : _ = bI (ntB sp v b (i + 1))) ?_
          refine ev_istore_n 60 _ dX8_speak_59 (by decide) rfl rfl rfl ?_
          refine ev_iincN 63 _ dX8_speak_60 rfl (by decide) rfl rfl rfl ?_
          refine ev_goto 30 dX8_speak_63 (by decide) ?_
          exact s_X8_speak_k hsp x v b k d (i + 1) (by omega)
def Sm2 (M M1 : Mm) : Prop := (∀ q, q ≠ 0 → q ≠ 2 → M1 q = M q) ∧ ∀ j, j ≠ 3 → M1 0 j = M 0 j
theorem s_X8_speak_66 {M : Mm} {sp : List Nat} (hsp : rowAt M 2 0 3 sp) (x v : Int32) (c : Bool) (u : Value) {Q : Pst} (hlen : c = true → sp.length < 24) (h0 : c = false → Q none M) (h1 : c = true → Q none (mst (mst M 2 sp.length v) 0 3 (nI (sp.length + 1)))) : Ev MSh mX8_speak 66 [.ref 0, .int x, .int v, .int (bI c), u] [] M Q := by
  refine ev_iload_n 67 dX8_speak_66 rfl rfl ?_
  refine ev_if_eqB 70 90 dX8_speak_67 (by decide) rfl (fun c67 => ?_) (fun c67 => ?_)
  · exact ev_vret dX8_speak_90 rfl (h0 c67)
  · refine ev_aload_n 71 dX8_speak_70 rfl rfl ?_
    refine ev_getR 74 dX8_speak_71 rfl flX8_13 rfl rfl ?_
    refine ev_aload_n 75 dX8_speak_74 rfl rfl ?_
    refine ev_getIv 78 (nI sp.length) dX8_speak_75 rfl flX8_92 rfl rfl hsp.1 ?_
    refine ev_iload_n 79 dX8_speak_78 rfl rfl ?_
    refine ev_iaS 80 dX8_speak_79 rfl (hlen c67) (by decide) rfl ?_
    refine ev_aload_n 81 dX8_speak_80 rfl rfl ?_
    refine ev_dup 82 dX8_speak_81 rfl rfl ?_
    refine ev_getIv 85 (nI sp.length) dX8_speak_82 rfl flX8_92 rfl rfl (by rw [mst_other _ _ _ (by decide)]; exact hsp.1) ?_
    refine ev_iconst 86 (nI 1) dX8_speak_85 (by decide) rfl ?_
    refine ev_iaddN 87 dX8_speak_86 rfl ?_
    refine ev_putI 90 dX8_speak_87 rfl flX8_92 fiX8_3 rfl rfl ?_
    exact ev_vret dX8_speak_90 rfl (h1 c67)
theorem s_X8_speak {M : Mm} {n a : Nat} {sp : List Nat} (ht : TR (M 1) n) (hn : n ≤ 24) (ha : a < n) (hsp : rowAt M 2 0 3 sp) (hnd : sp.Nodup) (hb : ∀ y ∈ sp, y < 24) : Ct MSh mX8_speak [.ref 0, .int (nI a)] M (fun r M2 => r = none ∧ Sm2 M M2 ∧ rowAt M2 2 0 3 (spkS (M 1) sp a)) := by
  have hle := hsp.2.1
  show Ev _ _ 0 [.ref 0, .int (nI a), .null, .null, .null] [] M _
  unfold spkS
  cases hi : inm (M 1) a 6 with
  | none =>
    have hspn : rowAt M 2 0 3 sp := hsp
    refine ev_aload_n 1 dX8_speak_0 rfl rfl ?_
    refine ev_iload_n 2 dX8_speak_1 rfl rfl ?_
    refine ev_bipush 4 (nI 6) dX8_speak_2 (by decide) rfl ?_
    refine ev_cV2I (-1) M 7 dX8_speak_4 mlX8_86 moX8_innermost rfl imX8_innermost ⟨_, _, rfl, rfl, rfl⟩ (Nat.le_of_ble_eq_true rfl) (Nat.le_of_ble_eq_true rfl) rfl (by have z := s_X8_innermost (k := 6) ht hn ha; rwa [hi] at z) ?_
    refine ev_istore_n 8 _ dX8_speak_7 (by decide) rfl rfl rfl ?_
    refine ev_iload_n 9 dX8_speak_8 rfl rfl ?_
    refine ev_iconst 10 (-1) dX8_speak_9 (by decide) rfl ?_
    refine ev_icmp_eq 13 25 dX8_speak_10 (by decide) rfl (fun c10 => ?_) (fun c10 => ?_)
    · refine ev_iconst 26 (nI 0) dX8_speak_25 (by decide) rfl ?_
      refine ev_istore_n 27 _ dX8_speak_26 (by decide) rfl rfl rfl ?_
      refine ev_iconst 28 (nI 0) dX8_speak_27 (by decide) rfl ?_
      refine ev_istore 30 _ dX8_speak_28 (by decide) rfl rfl rfl ?_
      refine s_X8_speak_k hsp _ (-1) false (s_X8_speak_66 hsp _ _ _ _ (fun z => ?_) (fun _ => ⟨rfl, ⟨fun _ _ _ => rfl, fun _ _ => rfl⟩, hspn⟩) (fun z => ?_)) sp.length 0 (by omega)
      · rw [ntB_false] at z; cases z
      · rw [ntB_false] at z; cases z
    · exact absurd rfl c10
  | some x =>
    have hxn : x < n := Nat.lt_trans (chain_lt _ _ _ (inm_mem hi)) ha
    have hx24 : x < 24 := by omega
    show Ev _ _ 0 [.ref 0, .int (nI a), .null, .null, .null] [] M (fun r M2 => r = none ∧ Sm2 M M2 ∧ rowAt M2 2 0 3 (if shwn (M 1) x = true then spkF sp x else sp))
    refine ev_aload_n 1 dX8_speak_0 rfl rfl ?_
    refine ev_iload_n 2 dX8_speak_1 rfl rfl ?_
    refine ev_bipush 4 (nI 6) dX8_speak_2 (by decide) rfl ?_
    refine ev_cV2I (nI x) M 7 dX8_speak_4 mlX8_86 moX8_innermost rfl imX8_innermost ⟨_, _, rfl, rfl, rfl⟩ (Nat.le_of_ble_eq_true rfl) (Nat.le_of_ble_eq_true rfl) rfl (by have z := s_X8_innermost (k := 6) ht hn ha; rwa [hi] at z) ?_
    refine ev_istore_n 8 _ dX8_speak_7 (by decide) rfl rfl rfl ?_
    refine ev_iload_n 9 dX8_speak_8 rfl rfl ?_
    refine ev_iconst 10 (-1) dX8_speak_9 (by decide) rfl ?_
    refine ev_icmp_eq 13 25 dX8_speak_10 (by decide) rfl (fun c10 => ?_) (fun c10 => ?_)
    · exact absurd c10 (nI_m1 (by omega))
    · refine ev_aload_n 14 dX8_speak_13 rfl rfl ?_
      refine ev_iload_n 15 dX8_speak_14 rfl rfl ?_
      refine ev_cV1I _ M 18 dX8_speak_15 mlX8_89 moX8_isShown rfl imX8_isShown ⟨_, _, rfl, rfl, rfl⟩ (Nat.le_of_ble_eq_true rfl) (Nat.le_of_ble_eq_true rfl) rfl (s_X8_isShown ht hn hxn) ?_
      refine ev_if_eqB 21 25 dX8_speak_18 (by decide) rfl (fun c18 => ?_) (fun c18 => ?_)
      · refine ev_iconst 26 (nI 0) dX8_speak_25 (by decide) rfl ?_
        refine ev_istore_n 27 _ dX8_speak_26 (by decide) rfl rfl rfl ?_
        refine ev_iconst 28 (nI 0) dX8_speak_27 (by decide) rfl ?_
        refine ev_istore 30 _ dX8_speak_28 (by decide) rfl rfl rfl ?_
        refine s_X8_speak_k hsp _ (nI x) false (s_X8_speak_66 hsp _ _ _ _ (fun z => ?_) (fun _ => ⟨rfl, ⟨fun _ _ _ => rfl, fun _ _ => rfl⟩, by rw [c18, if_neg (by decide)]; exact hsp⟩) (fun z => ?_)) sp.length 0 (by omega)
        · rw [ntB_false] at z; cases z
        · rw [ntB_false] at z; cases z
      · refine ev_iconst 22 (nI 1) dX8_speak_21 (by decide) rfl ?_
        refine ev_goto 26 dX8_speak_22 (by decide) ?_
        refine ev_istore_n 27 _ dX8_speak_26 (by decide) rfl rfl rfl ?_
        refine ev_iconst 28 (nI 0) dX8_speak_27 (by decide) rfl ?_
        refine ev_istore 30 _ dX8_speak_28 (by decide) rfl rfl rfl ?_
        refine s_X8_speak_k hsp _ (nI x) true (s_X8_speak_66 hsp _ _ _ _ (fun z => ?_) (fun z => ⟨rfl, ⟨fun _ _ _ => rfl, fun _ _ => rfl⟩, ?_⟩) (fun z => ⟨rfl, ⟨fun q a b => by rw [mst_other _ _ _ a, mst_other _ _ _ b], fun j a => by rw [mst_same, upd, if_neg a, mst_other _ _ _ (by decide)]⟩, ?_⟩)) sp.length 0 (by omega)
        · exact nodup_lt hnd hb hx24 (fun m => by
            obtain ⟨j, hj, e⟩ := mem_nth.mp m
            exact (ntB_true hx24 hb _ (Nat.le_refl _)).mp z j hj e)
        · have hm : x ∈ sp := Classical.byContradiction fun m => by
            have := (ntB_true hx24 hb _ (Nat.le_refl _)).mpr (fun j hj e => m (mem_nth.mpr ⟨j, hj, e⟩))
            rw [this] at z; cases z
          rw [c18, if_pos rfl, spkF, if_pos hm]; exact hsp
        · have hm : x ∉ sp := fun m => by
            obtain ⟨j, hj, e⟩ := mem_nth.mp m
            exact (ntB_true hx24 hb _ (Nat.le_refl _)).mp z j hj e
          have hl := nodup_lt hnd hb hx24 hm
          rw [c18, if_pos rfl, spkF, if_neg hm, if_pos hl]; exact hsp.push (by decide) hl
