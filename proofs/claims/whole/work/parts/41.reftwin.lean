/-! the reference: isTwin, isClosed, isAhead -/
def twR (h : Nat → Int32) (ns : Nat → List Int32) (a : Nat) : Nat → Bool
  | 0 => false
  | k + 1 => twR h ns a k || ((stK h k && shwn h k) && (decide ((ns k).length = (ns a).length) && alk (ns k) (ns a) (ns a).length))
theorem twR_yes {h : Nat → Int32} {ns : Nat → List Int32} {a k : Nat} : ∀ {n : Nat}, k < n → ((stK h k && shwn h k) && (decide ((ns k).length = (ns a).length) && alk (ns k) (ns a) (ns a).length)) = true → twR h ns a n = true
  | 0, h1, _ => by omega
  | n + 1, h1, h2 => by
    by_cases e : k = n
    · subst e; rw [twR, h2, Bool.or_true]
    · rw [twR, twR_yes (by omega) h2, Bool.true_or]
theorem alk_mono {l1 l2 : List Int32} {i : Nat} : ∀ {n : Nat}, i ≤ n → alk l1 l2 i = false → alk l1 l2 n = false
  | 0, h1, h2 => by rw [show i = 0 by omega] at h2; exact h2
  | n + 1, h1, h2 => by
    by_cases e : i = n + 1
    · rw [← e]; exact h2
    · rw [alk, alk_mono (by omega) h2, Bool.false_and]

theorem s_X8_isTwin_69 {M : Mm} {a j : Nat} {l1 l2 : List Int32} (ha : a < 24) (hj : j < 24) (h1 : nmAt M 5 6 j l1) (h2 : nmAt M 5 6 a l2) (he : l2.length ≤ l1.length) (kd : Int32) (b : Bool) {Q : Pst} (k : ∀ v : Int32, Ev MSh mX8_isTwin 125 [.ref 0, .int (nI a), .int kd, .int (nI j), .int (bI (b && alk l1 l2 l2.length)), .int v] [] M Q) : ∀ d i, i + d = l2.length → Ev MSh mX8_isTwin 69 [.ref 0, .int (nI a), .int kd, .int (nI j), .int (bI (b && alk l1 l2 i)), .int (nI i)] [] M Q
  | 0, i, h => by
    have hle := h2.1
    refine ev_iload 71 dX8_isTwin_69 rfl rfl ?_
    refine ev_aload_n 72 dX8_isTwin_71 rfl rfl ?_
    refine ev_getR 75 dX8_isTwin_72 rfl flX8_25 rfl rfl ?_
    refine ev_iload_n 76 dX8_isTwin_75 rfl rfl ?_
    refine ev_iaN 77 (nI l2.length) dX8_isTwin_76 rfl (by omega) (by decide) rfl h2.2.1 ?_
    refine ev_icmp_geN 80 125 dX8_isTwin_77 (by decide) rfl (by omega) (by omega) (fun c77 => ?_) (fun c77 => ?_)
    · rw [show i = l2.length by omega]
      exact k _
    · omega
  | d + 1, i, h => by
    have hle := h2.1
    refine ev_iload 71 dX8_isTwin_69 rfl rfl ?_
    refine ev_aload_n 72 dX8_isTwin_71 rfl rfl ?_
    refine ev_getR 75 dX8_isTwin_72 rfl flX8_25 rfl rfl ?_
    refine ev_iload_n 76 dX8_isTwin_75 rfl rfl ?_
    refine ev_iaN 77 (nI l2.length) dX8_isTwin_76 rfl (by omega) (by decide) rfl h2.2.1 ?_
    refine ev_icmp_geN 80 125 dX8_isTwin_77 (by decide) rfl (by omega) (by omega) (fun c77 => ?_) (fun c77 => ?_)
    · omega
    · refine ev_iload 82 dX8_isTwin_80 rfl rfl ?_
      refine ev_if_eqB 85 125 dX8_isTwin_82 (by decide) rfl (fun c82 => ?_) (fun c82 => ?_)
      · have z := k (nI i)
        rw [show (b && alk l1 l2 l2.length) = (b && alk l1 l2 i) from by
          rw [c82]
          cases b with
          | false => rfl
          | true => rw [Bool.true_and] at c82 ⊢; exact alk_mono (by omega) c82] at z
        exact z
      · refine ev_aload_n 86 dX8_isTwin_85 rfl rfl ?_
        refine ev_getR 89 dX8_isTwin_86 rfl flX8_22 rfl rfl ?_
        refine ev_bipush 91 (nI 8) dX8_isTwin_89 (by decide) rfl ?_
        refine ev_iload_n 92 dX8_isTwin_91 rfl rfl ?_
        refine ev_imulN 93 dX8_isTwin_92 rfl ?_
        refine ev_iload 95 dX8_isTwin_93 rfl rfl ?_
        refine ev_iaddN 96 dX8_isTwin_95 rfl ?_
        refine ev_eqI (show nI (8 * j + i) = nI (j * 8 + i) from by rw [Nat.mul_comm]) ?_
        refine ev_iaN 97 (l1.getD i 0) dX8_isTwin_96 rfl (by omega) (by decide) rfl (h1.2.2 i (by omega)) ?_
        refine ev_aload_n 98 dX8_isTwin_97 rfl rfl ?_
        refine ev_getR 101 dX8_isTwin_98 rfl flX8_22 rfl rfl ?_
        refine ev_bipush 103 (nI 8) dX8_isTwin_101 (by decide) rfl ?_
        refine ev_iload_n 104 dX8_isTwin_103 rfl rfl ?_
        refine ev_imulN 105 dX8_isTwin_104 rfl ?_
        refine ev_iload 107 dX8_isTwin_105 rfl rfl ?_
        refine ev_iaddN 108 dX8_isTwin_107 rfl ?_
        refine ev_eqI (show nI (8 * a + i) = nI (a * 8 + i) from by rw [Nat.mul_comm]) ?_
        refine ev_iaN 109 (l2.getD i 0) dX8_isTwin_108 rfl (by omega) (by decide) rfl (h2.2.2 i (by omega)) ?_
        refine ev_icmp_ne 112 116 dX8_isTwin_109 (by decide) rfl (fun c109 => ?_) (fun c109 => ?_)
        · refine ev_iconst 117 (nI 0) dX8_isTwin_116 (by decide) rfl ?_
          refine ev_eqI ((by rw [alk, show (l1.getD i 0 == l2.getD i 0) = false from beq_eq_false_iff_ne.mpr c109, Bool.and_false, Bool.and_false]; rfl) : _ = bI (b && alk l1 l2 (i + 1))) ?_
          refine ev_istore 119 _ dX8_isTwin_117 (by decide) rfl rfl rfl ?_
          refine ev_iincN 122 _ dX8_isTwin_119 rfl (by decide) rfl rfl rfl ?_
          refine ev_goto 69 dX8_isTwin_122 (by decide) ?_
          exact s_X8_isTwin_69 ha hj h1 h2 he kd b k d (i + 1) (by omega)
        · refine ev_iconst 113 (nI 1) dX8_isTwin_112 (by decide) rfl ?_
          refine ev_goto 117 dX8_isTwin_113 (by decide) ?_
          refine ev_eqI ((by rw [alk, show (l1.getD i 0 == l2.getD i 0) = true from beq_iff_eq.mpr c109, Bool.and_true, c82]; rfl) : _ = bI (b && alk l1 l2 (i + 1))) ?_
          refine ev_istore 119 _ dX8_isTwin_117 (by decide) rfl rfl rfl ?_
          refine ev_iincN 122 _ dX8_isTwin_119 rfl (by decide) rfl rfl rfl ?_
          refine ev_goto 69 dX8_isTwin_122 (by decide) ?_
          exact s_X8_isTwin_69 ha hj h1 h2 he kd b k d (i + 1) (by omega)
def opnS (h : Nat → Int32) (p : Nat) : Int32 := if h (p * 18 + 10) = nI 2 then h (p * 18 + 7) else -1
def outS (h : Nat → Int32) (a p : Nat) : Bool := match entP h (p + 1) with
  | none => false
  | some c => decide (c = a) || decide (c ∈ chain h a)
def inS (h : Nat → Int32) (a p : Nat) : Bool := (stK h p && shwn h p) && decide (a ∈ chain h p)
def anyS (h : Nat → Int32) (a : Nat) : Nat → Bool
  | 0 => false
  | k + 1 => anyS h a k || inS h a k
def badS (h : Nat → Int32) (a : Nat) : Nat → Bool
  | 0 => false
  | k + 1 => badS h a k || (inS h a k && outS h a k)
theorem badS_yes {h : Nat → Int32} {a k : Nat} : ∀ {n : Nat}, k < n → (inS h a k && outS h a k) = true → badS h a n = true
  | 0, h1, _ => by omega
  | n + 1, h1, h2 => by
    by_cases e : k = n
    · subst e; rw [badS, h2, Bool.or_true]
    · rw [badS, badS_yes (by omega) h2, Bool.true_or]
def clsS (h : Nat → Int32) (n a : Nat) : Bool := !badS h a n && anyS h a n
theorem s_X8_isClosed_53a {M : Mm} {n a i : Nat} (ht : TR (M 1) n) (hn : n ≤ 24) (ha : a < n) (ho : opsOK (M 1) n) (hi : i < n) (hin : inS (M 1) a i = true) (hbad : badS (M 1) a i = false) (k : ∀ w : Value, badS (M 1) a (i + 1) = false → Ev MSh mX8_isClosed 4 [.ref 0, .int (nI a), .int (bI (anyS (M 1) a (i + 1))), .int (nI (i + 1)), w] [] M (RetI (bI (clsS (M 1) n a)) M)) (u : Value) (hout : outS (M 1) a i = false) : Ev MSh mX8_isClosed 53 [.ref 0, .int (nI a), .int (nI 1), .int (nI i), u] [.int (-1)] M (RetI (bI (clsS (M 1) n a)) M) := by
  refine ev_istore 55 _ dX8_isClosed_53 (by decide) rfl rfl rfl ?_
  refine ev_iload 57 dX8_isClosed_55 rfl rfl ?_
  refine ev_iconst 58 (-1) dX8_isClosed_57 (by decide) rfl ?_
  refine ev_icmp_eq 61 79 dX8_isClosed_58 (by decide) rfl (fun c58 => ?_) (fun c58 => ?_)
  · refine ev_iincN 82 _ dX8_isClosed_79 rfl (by decide) rfl rfl rfl ?_
    refine ev_goto 4 dX8_isClosed_82 (by decide) ?_
    have z := k (.int (-1)) (by rw [badS, hbad, hin, hout]; rfl)
    rw [anyS, hin, Bool.or_true] at z
    exact z
  · exact absurd rfl c58
theorem s_X8_isClosed_53b {M : Mm} {n a i : Nat} (ht : TR (M 1) n) (hn : n ≤ 24) (ha : a < n) (ho : opsOK (M 1) n) (hi : i < n) (hin : inS (M 1) a i = true) (hbad : badS (M 1) a i = false) (k : ∀ w : Value, badS (M 1) a (i + 1) = false → Ev MSh mX8_isClosed 4 [.ref 0, .int (nI a), .int (bI (anyS (M 1) a (i + 1))), .int (nI (i + 1)), w] [] M (RetI (bI (clsS (M 1) n a)) M)) (u : Value) {c : Nat} (hc : c < n) (ho2 : outS (M 1) a i = (decide (c = a) || decide (c ∈ chain (M 1) a))) : Ev MSh mX8_isClosed 53 [.ref 0, .int (nI a), .int (nI 1), .int (nI i), u] [.int (nI c)] M (RetI (bI (clsS (M 1) n a)) M) := by
  refine ev_istore 55 _ dX8_isClosed_53 (by decide) rfl rfl rfl ?_
  refine ev_iload 57 dX8_isClosed_55 rfl rfl ?_
  refine ev_iconst 58 (-1) dX8_isClosed_57 (by decide) rfl ?_
  refine ev_icmp_eq 61 79 dX8_isClosed_58 (by decide) rfl (fun c58 => ?_) (fun c58 => ?_)
  · exact absurd c58 (nI_m1 (by omega))
  · refine ev_iload 63 dX8_isClosed_61 rfl rfl ?_
    refine ev_iload_n 64 dX8_isClosed_63 rfl rfl ?_
    refine ev_icmp_eqN 67 77 dX8_isClosed_64 (by decide) rfl (by omega) (by omega) (fun c64 => ?_) (fun c64 => ?_)
    · refine ev_iconst 78 (nI 0) dX8_isClosed_77 (by decide) rfl ?_
      exact ev_zret dX8_isClosed_78 rfl (Or.inl rfl) (⟨by rw [clsS, badS_yes hi (by rw [hin, ho2, decide_eq_true c64]; rfl)]; rfl, rfl⟩)
    · refine ev_aload_n 68 dX8_isClosed_67 rfl rfl ?_
      refine ev_iload_n 69 dX8_isClosed_68 rfl rfl ?_
      refine ev_iload 71 dX8_isClosed_69 rfl rfl ?_
      refine ev_cV2I _ M 74 dX8_isClosed_71 mlX8_135 moX8_lies rfl imX8_lies ⟨_, _, rfl, rfl, rfl⟩ (Nat.le_of_ble_eq_true rfl) (Nat.le_of_ble_eq_true rfl) rfl (s_X8_lies ht hn ha (by omega)) ?_
      refine ev_if_eqB 77 79 dX8_isClosed_74 (by decide) rfl (fun c74 => ?_) (fun c74 => ?_)
      · have hout : outS (M 1) a i = false := by rw [ho2, decide_eq_false c64, c74]; rfl
        refine ev_iincN 82 _ dX8_isClosed_79 rfl (by decide) rfl rfl rfl ?_
        refine ev_goto 4 dX8_isClosed_82 (by decide) ?_
        have z := k (.int (nI c)) (by rw [badS, hbad, hin, hout]; rfl)
        rw [anyS, hin, Bool.or_true] at z
        exact z
      · refine ev_iconst 78 (nI 0) dX8_isClosed_77 (by decide) rfl ?_
        exact ev_zret dX8_isClosed_78 rfl (Or.inl rfl) (⟨by rw [clsS, badS_yes hi (by rw [hin, ho2, c74, Bool.or_true]; rfl)]; rfl, rfl⟩)
theorem s_X8_isClosed_31 {M : Mm} {n a i : Nat} (ht : TR (M 1) n) (hn : n ≤ 24) (ha : a < n) (ho : opsOK (M 1) n) (hi : i < n) (hin : inS (M 1) a i = true) (hbad : badS (M 1) a i = false)  (k : ∀ w : Value, badS (M 1) a (i + 1) = false → Ev MSh mX8_isClosed 4 [.ref 0, .int (nI a), .int (bI (anyS (M 1) a (i + 1))), .int (nI (i + 1)), w] [] M (RetI (bI (clsS (M 1) n a)) M)) {u : Value} : Ev MSh mX8_isClosed 31 [.ref 0, .int (nI a), .int (nI 1), .int (nI i), u] [] M (RetI (bI (clsS (M 1) n a)) M) := by
  refine ev_aload_n 32 dX8_isClosed_31 rfl rfl ?_
  refine ev_iload_n 33 dX8_isClosed_32 rfl rfl ?_
  refine ev_bipush 35 (nI 10) dX8_isClosed_33 (by decide) rfl ?_
  refine ev_cV2I (M 1 (i * 18 + 10)) M 38 dX8_isClosed_35 mlX8_74 moX8_get rfl imX8_get ⟨_, _, rfl, rfl, rfl⟩ (Nat.le_of_ble_eq_true rfl) (Nat.le_of_ble_eq_true rfl) rfl (s_X8_get (a := i) (b := 10) (by omega) (by omega)) ?_
  refine ev_iconst 39 (nI 2) dX8_isClosed_38 (by decide) rfl ?_
  refine ev_icmp_ne 42 52 dX8_isClosed_39 (by decide) rfl (fun c39 => ?_) (fun c39 => ?_)
  · refine ev_iconst 53 (-1) dX8_isClosed_52 (by decide) rfl ?_
    exact s_X8_isClosed_53a ht hn ha ho hi hin hbad k u (by rw [outS, entP, if_neg c39])
  · refine ev_aload_n 43 dX8_isClosed_42 rfl rfl ?_
    refine ev_iload_n 44 dX8_isClosed_43 rfl rfl ?_
    refine ev_bipush 46 (nI 7) dX8_isClosed_44 (by decide) rfl ?_
    refine ev_cV2I (M 1 (i * 18 + 7)) M 49 dX8_isClosed_46 mlX8_74 moX8_get rfl imX8_get ⟨_, _, rfl, rfl, rfl⟩ (Nat.le_of_ble_eq_true rfl) (Nat.le_of_ble_eq_true rfl) rfl (s_X8_get (a := i) (b := 7) (by omega) (by omega)) ?_
    refine ev_goto 53 dX8_isClosed_49 (by decide) ?_
    rcases ho i hi with e | ⟨c, c0, cn, e⟩
    · rw [e]
      exact s_X8_isClosed_53a ht hn ha ho hi hin hbad k u (by rw [outS, entP, if_pos c39, if_pos e])
    · rw [e]
      exact s_X8_isClosed_53b ht hn ha ho hi hin hbad k u cn (by rw [outS, entP, if_pos c39, if_neg (by rw [e]; exact nI_m1 (by omega)), e, nI_clamp (by omega)])
theorem s_X8_isClosed_k {M : Mm} {n a : Nat} (ht : TR (M 1) n) (hn : n ≤ 24) (hm : M 0 0 = nI n) (ha : a < n) (ho : opsOK (M 1) n) : ∀ d i (u : Value), i + d = n → badS (M 1) a i = false → Ev MSh mX8_isClosed 4 [.ref 0, .int (nI a), .int (bI (anyS (M 1) a i)), .int (nI i), u] [] M (RetI (bI (clsS (M 1) n a)) M)
  | 0, i, u, h, hbad => by
    refine ev_iload_n 5 dX8_isClosed_4 rfl rfl ?_
    refine ev_aload_n 6 dX8_isClosed_5 rfl rfl ?_
    refine ev_getIv 9 (nI n) dX8_isClosed_6 rfl flX8_57 rfl rfl hm ?_
    refine ev_icmp_geN 12 85 dX8_isClosed_9 (by decide) rfl (by omega) (by omega) (fun c9 => ?_) (fun c9 => ?_)
    · refine ev_iload_n 86 dX8_isClosed_85 rfl rfl ?_
      exact ev_zretB dX8_isClosed_86 rfl (⟨by rw [clsS, show n = i by omega, hbad]; rfl, rfl⟩)
    · omega
  | d + 1, i, u, h, hbad => by
    refine ev_iload_n 5 dX8_isClosed_4 rfl rfl ?_
    refine ev_aload_n 6 dX8_isClosed_5 rfl rfl ?_
    refine ev_getIv 9 (nI n) dX8_isClosed_6 rfl flX8_57 rfl rfl hm ?_
    refine ev_icmp_geN 12 85 dX8_isClosed_9 (by decide) rfl (by omega) (by omega) (fun c9 => ?_) (fun c9 => ?_)
    · omega
    · refine ev_aload_n 13 dX8_isClosed_12 rfl rfl ?_
      refine ev_iload_n 14 dX8_isClosed_13 rfl rfl ?_
      refine ev_cV1I _ M 17 dX8_isClosed_14 mlX8_159 moX8_isStop rfl imX8_isStop ⟨_, _, rfl, rfl, rfl⟩ (Nat.le_of_ble_eq_true rfl) (Nat.le_of_ble_eq_true rfl) rfl (s_X8_isStop ht hn (by omega)) ?_
      refine ev_if_eqB 20 79 dX8_isClosed_17 (by decide) rfl (fun c17 => ?_) (fun c17 => ?_)
      · refine ev_iincN 82 _ dX8_isClosed_79 rfl (by decide) rfl rfl rfl ?_
        refine ev_goto 4 dX8_isClosed_82 (by decide) ?_
        have ih := s_X8_isClosed_k ht hn hm ha ho d (i + 1) u (by omega) (by rw [badS, hbad, show inS (M 1) a i = false from by rw [inS, c17]; rfl]; rfl)
        rw [show anyS (M 1) a (i + 1) = anyS (M 1) a i from by rw [anyS, show inS (M 1) a i = false from by rw [inS, c17]; rfl, Bool.or_false]] at ih
        exact ih
      · refine ev_aload_n 21 dX8_isClosed_20 rfl rfl ?_
        refine ev_iload_n 22 dX8_isClosed_21 rfl rfl ?_
        refine ev_iload_n 23 dX8_isClosed_22 rfl rfl ?_
        refine ev_cV2I _ M 26 dX8_isClosed_23 mlX8_135 moX8_lies rfl imX8_lies ⟨_, _, rfl, rfl, rfl⟩ (Nat.le_of_ble_eq_true rfl) (Nat.le_of_ble_eq_true rfl) rfl (s_X8_lies ht hn (by omega) (by omega)) ?_
        refine ev_if_eqB 29 79 dX8_isClosed_26 (by decide) rfl (fun c26 => ?_) (fun c26 => ?_)
        · refine ev_iincN 82 _ dX8_isClosed_79 rfl (by decide) rfl rfl rfl ?_
          refine ev_goto 4 dX8_isClosed_82 (by decide) ?_
          have ih := s_X8_isClosed_k ht hn hm ha ho d (i + 1) u (by omega) (by rw [badS, hbad, show inS (M 1) a i = false from by rw [inS, c26, Bool.and_false]]; rfl)
          rw [show anyS (M 1) a (i + 1) = anyS (M 1) a i from by rw [anyS, show inS (M 1) a i = false from by rw [inS, c26, Bool.and_false], Bool.or_false]] at ih
          exact ih
        · refine ev_iconst 30 (nI 1) dX8_isClosed_29 (by decide) rfl ?_
          refine ev_istore_n 31 _ dX8_isClosed_30 (by decide) rfl rfl rfl ?_
          exact s_X8_isClosed_31 ht hn ha ho (by omega) (by rw [inS, c17, c26]; rfl) hbad (fun w h2 => s_X8_isClosed_k ht hn hm ha ho d (i + 1) w (by omega) h2)
theorem s_X8_isClosed {M : Mm} {n a : Nat} (ht : TR (M 1) n) (hn : n ≤ 24) (hm : M 0 0 = nI n) (ha : a < n) (ho : opsOK (M 1) n) : Ct MSh mX8_isClosed [.ref 0, .int (nI a)] M (RetI (bI (clsS (M 1) n a)) M) := by
  show Ev _ _ 0 [.ref 0, .int (nI a), .null, .null, .null] [] M _
  refine ev_iconst 1 (nI 0) dX8_isClosed_0 (by decide) rfl ?_
  refine ev_istore_n 2 _ dX8_isClosed_1 (by decide) rfl rfl rfl ?_
  refine ev_iconst 3 (nI 0) dX8_isClosed_2 (by decide) rfl ?_
  refine ev_istore_n 4 _ dX8_isClosed_3 (by decide) rfl rfl rfl ?_
  exact s_X8_isClosed_k ht hn hm ha ho n 0 _ (by omega) rfl
