/-! the reference: findName, findSaid -/
def rnF (M M1 : Mm) (p : Nat) : Prop := (∀ k, k ≠ 3 → k ≠ 4 → k ≠ 5 → k ≠ 6 → M1 k = M k) ∧ (∀ q, q ≠ p → M1 6 q = M 6 q) ∧ (∀ q i, q ≠ p → i < 8 → M1 5 (q * 8 + i) = M 5 (q * 8 + i))
def RNm (M M1 : Mm) (p : Nat) (l : List Int32) : Prop := rnF M M1 p ∧ nmAt M1 5 6 p l
theorem RNm.add {M M1 M2 : Mm} {p : Nat} {l l2 : List Int32} (h : RNm M M1 p l) (h2 : nmOK M1 M2 5 6 p ∧ nmAt M2 5 6 p l2) : RNm M M2 p l2 :=
  ⟨⟨fun k a b c d => (h2.1.1 k c d).trans (h.1.1 k a b c d), fun q a => (h2.1.2.1 q a).trans (h.1.2.1 q a), fun q i a b => (h2.1.2.2 q i a b).trans (h.1.2.2 q i a b)⟩, h2.2⟩
theorem RNm.line {M M1 M2 : Mm} {p : Nat} {l : List Int32} (h : RNm M M1 p l) (h2 : ∀ k, k ≠ 3 → k ≠ 4 → M2 k = M1 k) : RNm M M2 p l :=
  ⟨⟨fun k a b c d => (h2 k a b).trans (h.1.1 k a b c d), fun q a => by rw [h2 6 (by decide) (by decide)]; exact h.1.2.1 q a, fun q i a b => by rw [h2 5 (by decide) (by decide)]; exact h.1.2.2 q i a b⟩, h.2.of (h2 5 (by decide) (by decide)) (h2 6 (by decide) (by decide))⟩
theorem RNm.e1 {M M1 : Mm} {p : Nat} {l : List Int32} (h : RNm M M1 p l) : M1 1 = M 1 := h.1.1 1 (by decide) (by decide) (by decide) (by decide)
theorem RNm.m {M M1 : Mm} {p n : Nat} {l : List Int32} (h : RNm M M1 p l) (hm : M 0 0 = nI n) : M1 0 0 = nI n := by rw [h.1.1 0 (by decide) (by decide) (by decide) (by decide)]; exact hm
def ownS (h : Nat → Int32) (l : List Int32) (s : Int32) : List Int32 := if s = -1 then l else addW l (h (s.toNatClampNeg * 18 + 0))
def labS (h : Nat → Int32) (a : Nat) : Nat → List Int32
  | 0 => []
  | d + 1 => ownS h (labS h a d) (h (a * 18 + (3 + d)))
def txtS (h : Nat → Int32) (a : Nat) (ol : List Nat) (l : List Int32) : Nat → List Int32
  | 0 => l
  | k + 1 => if (h (nth ol k * 18 + 10) == nI 1) && (decide (a ∈ chain h (nth ol k)) && shwn h (nth ol k)) then addW (txtS h a ol l k) (h (nth ol k * 18 + 0)) else txtS h a ol l k
def labOK (h : Nat → Int32) (n a : Nat) : Prop := ∀ w, w = 3 ∨ w = 4 → h (a * 18 + w) = -1 ∨ ∃ q, q < n ∧ h (a * 18 + w) = nI q
def nsA (h : Nat → Int32) (a : Nat) : List Int32 := nmE (nmE (labS h a 2) (addW (labS h a 2) (h (a * 18 + 1)))) (addW (nmE (labS h a 2) (addW (labS h a 2) (h (a * 18 + 1)))) (h (a * 18 + 0)))
def nsB (h : Nat → Int32) (n a : Nat) : List Int32 := if (nsA h a).length = 0 ∧ h (a * 18 + 10) = nI 2 then txtS h a (ordF h n) (nsA h a) (ordF h n).length else nsA h a
def nmS (h : Nat → Int32) (n a : Nat) : List Int32 := nmE (nsB h n a) (addW (nsB h n a) (h (a * 18 + 2)))

theorem s_X8_findName_172 {M M1 : Mm} {a : Nat} {l : List Int32} {u v : Value} (ha : a < 24) (hx : RNm M M1 a l) : Ev MSh mX8_findName 172 [.ref 0, .int (nI a), u, v] [] M1 (fun r M2 => r = none ∧ RNm M M2 a (nmE l (addW l (M 1 (a * 18 + 2))))) := by
  have hle := hx.2.1
  refine ev_aload_n 173 dX8_findName_172 rfl rfl ?_
  refine ev_getR 176 dX8_findName_173 rfl flX8_25 rfl rfl ?_
  refine ev_iload_n 177 dX8_findName_176 rfl rfl ?_
  refine ev_iaN 178 _ dX8_findName_177 rfl (by omega) (by decide) rfl hx.2.2.1 ?_
  refine ev_if_neN 181 192 dX8_findName_178 (by decide) rfl (by omega) (fun c178 => ?_) (fun c178 => ?_)
  · exact ev_vret dX8_findName_192 rfl (⟨rfl, by first | (rw [nmE, if_neg c178]; exact hx) | (rw [nmE, if_pos c178]; exact hx.add h2)⟩)
  · refine ev_aload_n 182 dX8_findName_181 rfl rfl ?_
    refine ev_iload_n 183 dX8_findName_182 rfl rfl ?_
    refine ev_aload_n 184 dX8_findName_183 rfl rfl ?_
    refine ev_iload_n 185 dX8_findName_184 rfl rfl ?_
    refine ev_iconst 186 (nI 2) dX8_findName_185 (by decide) rfl ?_
    refine ev_cV2I (M 1 (a * 18 + 2)) M1 189 dX8_findName_186 mlX8_74 moX8_get rfl imX8_get ⟨_, _, rfl, rfl, rfl⟩ (Nat.le_of_ble_eq_true rfl) (Nat.le_of_ble_eq_true rfl) rfl (by have z := s_X8_get (M := M1) (a := a) (b := 2) ha (by omega); rwa [hx.e1] at z) ?_
    refine ev_cV2 192 dX8_findName_189 mlX8_128 moX8_addWord rfl imX8_addWord ⟨_, _, rfl, rfl, rfl⟩ (Nat.le_of_ble_eq_true rfl) (Nat.le_of_ble_eq_true rfl) rfl (s_X8_addWord _ ha hx.2) ?_
    rintro r M2 ⟨rfl, h2⟩
    exact ev_vret dX8_findName_192 rfl (⟨rfl, by first | (rw [nmE, if_neg c178]; exact hx) | (rw [nmE, if_pos c178]; exact hx.add h2)⟩)
theorem s_X8_findName_112 {M : Mm} {n a : Nat} {l : List Int32} (ht : TR (M 1) n) (hn0 : 0 < n) (hn : n ≤ 24) (hm : M 0 0 = nI n) (ha : a < 24) {Q : Pst} (k : ∀ M2 u v, RNm M M2 a (txtS (M 1) a (ordF (M 1) n) l (ordF (M 1) n).length) → Ev MSh mX8_findName 172 [.ref 0, .int (nI a), u, v] [] M2 Q) : ∀ d i (M1 : Mm) (w : Value), i + d = (ordF (M 1) n).length → RNm M M1 a (txtS (M 1) a (ordF (M 1) n) l i) → (∀ j, j < (ordF (M 1) n).length → M1 3 j = nI (nth (ordF (M 1) n) j)) → Ev MSh mX8_findName 112 [.ref 0, .int (nI a), .int (nI i), w] [] M1 Q
  | 0, i, M1, w, h, hx, hrow => by
    have hol := (ord_facts n hn0 (by omega) ht).1
    refine ev_iload_n 113 dX8_findName_112 rfl rfl ?_
    refine ev_aload_n 114 dX8_findName_113 rfl rfl ?_
    refine ev_getIv 117 (nI n) dX8_findName_114 rfl flX8_57 rfl rfl (hx.m hm) ?_
    refine ev_icmp_geN 120 172 dX8_findName_117 (by decide) rfl (by omega) (by omega) (fun c117 => ?_) (fun c117 => ?_)
    · rw [show i = (ordF (M 1) n).length by omega] at hx
      exact k M1 _ _ hx
    · omega
  | d + 1, i, M1, w, h, hx, hrow => by
    have hol := (ord_facts n hn0 (by omega) ht).1
    have hq : nth (ordF (M 1) n) i < n := (ord_facts n hn0 (by omega) ht).2.2 _ (getD_mem (by omega))
    have hq24 : nth (ordF (M 1) n) i < 24 := by omega
    refine ev_iload_n 113 dX8_findName_112 rfl rfl ?_
    refine ev_aload_n 114 dX8_findName_113 rfl rfl ?_
    refine ev_getIv 117 (nI n) dX8_findName_114 rfl flX8_57 rfl rfl (hx.m hm) ?_
    refine ev_icmp_geN 120 172 dX8_findName_117 (by decide) rfl (by omega) (by omega) (fun c117 => ?_) (fun c117 => ?_)
    · omega
    · refine ev_aload_n 121 dX8_findName_120 rfl rfl ?_
      refine ev_getR 124 dX8_findName_121 rfl flX8_16 rfl rfl ?_
      refine ev_iload_n 125 dX8_findName_124 rfl rfl ?_
      refine ev_iaN 126 (nI (nth (ordF (M 1) n) i)) dX8_findName_125 rfl (by omega) (by decide) rfl (hrow i (by omega)) ?_
      refine ev_istore_n 127 _ dX8_findName_126 (by decide) rfl rfl rfl ?_
      refine ev_aload_n 128 dX8_findName_127 rfl rfl ?_
      refine ev_iload_n 129 dX8_findName_128 rfl rfl ?_
      refine ev_bipush 131 (nI 10) dX8_findName_129 (by decide) rfl ?_
      refine ev_cV2I (M 1 ((nth (ordF (M 1) n) i) * 18 + 10)) M1 134 dX8_findName_131 mlX8_74 moX8_get rfl imX8_get ⟨_, _, rfl, rfl, rfl⟩ (Nat.le_of_ble_eq_true rfl) (Nat.le_of_ble_eq_true rfl) rfl (by have z := s_X8_get (M := M1) (a := (nth (ordF (M 1) n) i)) (b := 10) hq24 (by omega); rwa [hx.e1] at z) ?_
      refine ev_iconst 135 (nI 1) dX8_findName_134 (by decide) rfl ?_
      refine ev_icmp_ne 138 166 dX8_findName_135 (by decide) rfl (fun c135 => ?_) (fun c135 => ?_)
      · refine ev_iincN 169 _ dX8_findName_166 rfl (by decide) rfl rfl rfl ?_
        refine ev_goto 112 dX8_findName_169 (by decide) ?_
        exact s_X8_findName_112 ht hn0 hn hm ha k d (i + 1) M1 (.int (nI (nth (ordF (M 1) n) i))) (by omega) (by rw [txtS, if_neg (by rw [beq_eq_false_iff_ne.mpr c135]; simp)]; exact hx) hrow
      · refine ev_aload_n 139 dX8_findName_138 rfl rfl ?_
        refine ev_iload_n 140 dX8_findName_139 rfl rfl ?_
        refine ev_iload_n 141 dX8_findName_140 rfl rfl ?_
        refine ev_cV2I (bI (decide (a ∈ chain (M 1) (nth (ordF (M 1) n) i)))) M1 144 dX8_findName_141 mlX8_135 moX8_lies rfl imX8_lies ⟨_, _, rfl, rfl, rfl⟩ (Nat.le_of_ble_eq_true rfl) (Nat.le_of_ble_eq_true rfl) rfl (by rw [← hx.e1]; exact s_X8_lies (by rw [hx.e1]; exact ht) hn (by rw [hx.e1]; exact hq) ha) ?_
        refine ev_if_eqB 147 166 dX8_findName_144 (by decide) rfl (fun c144 => ?_) (fun c144 => ?_)
        · refine ev_iincN 169 _ dX8_findName_166 rfl (by decide) rfl rfl rfl ?_
          refine ev_goto 112 dX8_findName_169 (by decide) ?_
          exact s_X8_findName_112 ht hn0 hn hm ha k d (i + 1) M1 (.int (nI (nth (ordF (M 1) n) i))) (by omega) (by rw [txtS, if_neg (by rw [c144]; simp)]; exact hx) hrow
        · refine ev_aload_n 148 dX8_findName_147 rfl rfl ?_
          refine ev_iload_n 149 dX8_findName_148 rfl rfl ?_
          refine ev_cV1I (bI (shwn (M 1) (nth (ordF (M 1) n) i))) M1 152 dX8_findName_149 mlX8_89 moX8_isShown rfl imX8_isShown ⟨_, _, rfl, rfl, rfl⟩ (Nat.le_of_ble_eq_true rfl) (Nat.le_of_ble_eq_true rfl) rfl (by rw [← hx.e1]; exact s_X8_isShown (by rw [hx.e1]; exact ht) hn (by rw [hx.e1]; exact hq)) ?_
          refine ev_if_eqB 155 166 dX8_findName_152 (by decide) rfl (fun c152 => ?_) (fun c152 => ?_)
          · refine ev_iincN 169 _ dX8_findName_166 rfl (by decide) rfl rfl rfl ?_
            refine ev_goto 112 dX8_findName_169 (by decide) ?_
            exact s_X8_findName_112 ht hn0 hn hm ha k d (i + 1) M1 (.int (nI (nth (ordF (M 1) n) i))) (by omega) (by rw [txtS, if_neg (by rw [c152]; simp)]; exact hx) hrow
          · refine ev_aload_n 156 dX8_findName_155 rfl rfl ?_
            refine ev_iload_n 157 dX8_findName_156 rfl rfl ?_
            refine ev_aload_n 158 dX8_findName_157 rfl rfl ?_
            refine ev_iload_n 159 dX8_findName_158 rfl rfl ?_
            refine ev_iconst 160 (nI 0) dX8_findName_159 (by decide) rfl ?_
            refine ev_cV2I (M 1 ((nth (ordF (M 1) n) i) * 18 + 0)) M1 163 dX8_findName_160 mlX8_74 moX8_get rfl imX8_get ⟨_, _, rfl, rfl, rfl⟩ (Nat.le_of_ble_eq_true rfl) (Nat.le_of_ble_eq_true rfl) rfl (by have z := s_X8_get (M := M1) (a := (nth (ordF (M 1) n) i)) (b := 0) hq24 (by omega); rwa [hx.e1] at z) ?_
            refine ev_cV2 166 dX8_findName_163 mlX8_128 moX8_addWord rfl imX8_addWord ⟨_, _, rfl, rfl, rfl⟩ (Nat.le_of_ble_eq_true rfl) (Nat.le_of_ble_eq_true rfl) rfl (s_X8_addWord _ ha hx.2) ?_
            rintro r M2 ⟨rfl, h2⟩
            refine ev_iincN 169 _ dX8_findName_166 rfl (by decide) rfl rfl rfl ?_
            refine ev_goto 112 dX8_findName_169 (by decide) ?_
            refine s_X8_findName_112 ht hn0 hn hm ha k d (i + 1) M2 (.int (nI (nth (ordF (M 1) n) i))) (by omega) ?_ (fun j hj => by rw [h2.1.1 3 (by decide) (by decide)]; exact hrow j hj)
            rw [txtS, if_pos (by rw [beq_iff_eq.mpr c135, c144, c152]; rfl)]
            exact hx.add h2
theorem s_X8_findName_86 {M M1 : Mm} {n a : Nat} {l : List Int32} {u v : Value} (ht : TR (M 1) n) (hn0 : 0 < n) (hn : n ≤ 24) (hm : M 0 0 = nI n) (ha : a < 24) (hx : RNm M M1 a l) (hu : ab_ok [.ref 0, .int (nI a), u, v] 2 = true) : Ev MSh mX8_findName 86 [.ref 0, .int (nI a), u, v] [] M1 (fun r M2 => r = none ∧ RNm M M2 a (nmE (if l.length = 0 ∧ M 1 (a * 18 + 10) = nI 2 then txtS (M 1) a (ordF (M 1) n) l (ordF (M 1) n).length else l) (addW (if l.length = 0 ∧ M 1 (a * 18 + 10) = nI 2 then txtS (M 1) a (ordF (M 1) n) l (ordF (M 1) n).length else l) (M 1 (a * 18 + 2))))) := by
  have hle := hx.2.1
  refine ev_aload_n 87 dX8_findName_86 rfl rfl ?_
  refine ev_getR 90 dX8_findName_87 rfl flX8_25 rfl rfl ?_
  refine ev_iload_n 91 dX8_findName_90 rfl rfl ?_
  refine ev_iaN 92 _ dX8_findName_91 rfl (by omega) (by decide) rfl hx.2.2.1 ?_
  refine ev_if_neN 95 172 dX8_findName_92 (by decide) rfl (by omega) (fun c92 => ?_) (fun c92 => ?_)
  · rw [if_neg (fun z => c92 z.1)]
    exact s_X8_findName_172 ha hx
  · refine ev_aload_n 96 dX8_findName_95 rfl rfl ?_
    refine ev_iload_n 97 dX8_findName_96 rfl rfl ?_
    refine ev_bipush 99 (nI 10) dX8_findName_97 (by decide) rfl ?_
    refine ev_cV2I (M 1 (a * 18 + 10)) M1 102 dX8_findName_99 mlX8_74 moX8_get rfl imX8_get ⟨_, _, rfl, rfl, rfl⟩ (Nat.le_of_ble_eq_true rfl) (Nat.le_of_ble_eq_true rfl) rfl (by have z := s_X8_get (M := M1) (a := a) (b := 10) ha (by omega); rwa [hx.e1] at z) ?_
    refine ev_iconst 103 (nI 2) dX8_findName_102 (by decide) rfl ?_
    refine ev_icmp_ne 106 172 dX8_findName_103 (by decide) rfl (fun c103 => ?_) (fun c103 => ?_)
    · rw [if_neg (fun z => c103 z.2)]
      exact s_X8_findName_172 ha hx
    · refine ev_aload_n 107 dX8_findName_106 rfl rfl ?_
      refine ev_cV0 110 dX8_findName_107 mlX8_132 moX8_line rfl imX8_line ⟨_, _, rfl, rfl, rfl⟩ (Nat.le_of_ble_eq_true rfl) (Nat.le_of_ble_eq_true rfl) rfl (s_X8_line (by rw [hx.e1]; exact ht) hn0 hn (hx.m hm)) ?_
      rintro r M2 ⟨rfl, h2, h3⟩
      rw [hx.e1] at h3
      refine ev_iconst 111 (nI 0) dX8_findName_110 (by decide) rfl ?_
      refine ev_istore_n 112 _ dX8_findName_111 (by decide) rfl rfl rfl ?_
      rw [if_pos ⟨c92, c103⟩]
      exact s_X8_findName_112 ht hn0 hn hm ha (fun M3 u v h => s_X8_findName_172 ha h) (ordF (M 1) n).length 0 M2 _ (by omega) (hx.line h2) h3
theorem s_X8_findName_66 {M M1 : Mm} {a : Nat} {l : List Int32} {u v : Value} {Q : Pst} (ha : a < 24) (hx : RNm M M1 a l) (k : ∀ M2, RNm M M2 a (nmE l (addW l (M 1 (a * 18 + 0)))) → Ev MSh mX8_findName 86 [.ref 0, .int (nI a), u, v] [] M2 Q) : Ev MSh mX8_findName 66 [.ref 0, .int (nI a), u, v] [] M1 Q := by
  have hle := hx.2.1
  refine ev_aload_n 67 dX8_findName_66 rfl rfl ?_
  refine ev_getR 70 dX8_findName_67 rfl flX8_25 rfl rfl ?_
  refine ev_iload_n 71 dX8_findName_70 rfl rfl ?_
  refine ev_iaN 72 _ dX8_findName_71 rfl (by omega) (by decide) rfl hx.2.2.1 ?_
  refine ev_if_neN 75 86 dX8_findName_72 (by decide) rfl (by omega) (fun c72 => ?_) (fun c72 => ?_)
  · exact k _ (by rw [nmE, if_neg c72]; exact hx)
  · refine ev_aload_n 76 dX8_findName_75 rfl rfl ?_
    refine ev_iload_n 77 dX8_findName_76 rfl rfl ?_
    refine ev_aload_n 78 dX8_findName_77 rfl rfl ?_
    refine ev_iload_n 79 dX8_findName_78 rfl rfl ?_
    refine ev_iconst 80 (nI 0) dX8_findName_79 (by decide) rfl ?_
    refine ev_cV2I (M 1 (a * 18 + 0)) M1 83 dX8_findName_80 mlX8_74 moX8_get rfl imX8_get ⟨_, _, rfl, rfl, rfl⟩ (Nat.le_of_ble_eq_true rfl) (Nat.le_of_ble_eq_true rfl) rfl (by have z := s_X8_get (M := M1) (a := a) (b := 0) ha (by omega); rwa [hx.e1] at z) ?_
    refine ev_cV2 86 dX8_findName_83 mlX8_128 moX8_addWord rfl imX8_addWord ⟨_, _, rfl, rfl, rfl⟩ (Nat.le_of_ble_eq_true rfl) (Nat.le_of_ble_eq_true rfl) rfl (s_X8_addWord _ ha hx.2) ?_
    rintro r M2 ⟨rfl, h2⟩
    exact k _ (by rw [nmE, if_pos c72]; exact hx.add h2)
theorem s_X8_findName_46 {M M1 : Mm} {a : Nat} {l : List Int32} {u v : Value} {Q : Pst} (ha : a < 24) (hx : RNm M M1 a l) (k : ∀ M2, RNm M M2 a (nmE l (addW l (M 1 (a * 18 + 1)))) → Ev MSh mX8_findName 66 [.ref 0, .int (nI a), u, v] [] M2 Q) : Ev MSh mX8_findName 46 [.ref 0, .int (nI a), u, v] [] M1 Q := by
  have hle := hx.2.1
  refine ev_aload_n 47 dX8_findName_46 rfl rfl ?_
  refine ev_getR 50 dX8_findName_47 rfl flX8_25 rfl rfl ?_
  refine ev_iload_n 51 dX8_findName_50 rfl rfl ?_
  refine ev_iaN 52 _ dX8_findName_51 rfl (by omega) (by decide) rfl hx.2.2.1 ?_
  refine ev_if_neN 55 66 dX8_findName_52 (by decide) rfl (by omega) (fun c52 => ?_) (fun c52 => ?_)
  · exact k _ (by rw [nmE, if_neg c52]; exact hx)
  · refine ev_aload_n 56 dX8_findName_55 rfl rfl ?_
    refine ev_iload_n 57 dX8_findName_56 rfl rfl ?_
    refine ev_aload_n 58 dX8_findName_57 rfl rfl ?_
    refine ev_iload_n 59 dX8_findName_58 rfl rfl ?_
    refine ev_iconst 60 (nI 1) dX8_findName_59 (by decide) rfl ?_
    refine ev_cV2I (M 1 (a * 18 + 1)) M1 63 dX8_findName_60 mlX8_74 moX8_get rfl imX8_get ⟨_, _, rfl, rfl, rfl⟩ (Nat.le_of_ble_eq_true rfl) (Nat.le_of_ble_eq_true rfl) rfl (by have z := s_X8_get (M := M1) (a := a) (b := 1) ha (by omega); rwa [hx.e1] at z) ?_
    refine ev_cV2 66 dX8_findName_63 mlX8_128 moX8_addWord rfl imX8_addWord ⟨_, _, rfl, rfl, rfl⟩ (Nat.le_of_ble_eq_true rfl) (Nat.le_of_ble_eq_true rfl) rfl (s_X8_addWord _ ha hx.2) ?_
    rintro r M2 ⟨rfl, h2⟩
    exact k _ (by rw [nmE, if_pos c52]; exact hx.add h2)
theorem s_X8_findName_9 {M : Mm} {n a : Nat} {v : Value} (hn : n ≤ 24) (ha : a < 24) (hlab : labOK (M 1) n a) {Q : Pst} (k : ∀ M2 u, RNm M M2 a (labS (M 1) a 2) → Ev MSh mX8_findName 46 [.ref 0, .int (nI a), .int u, v] [] M2 Q) : ∀ d j (M1 : Mm), j + d = 2 → RNm M M1 a (labS (M 1) a j) → Ev MSh mX8_findName 9 [.ref 0, .int (nI a), .int (nI (3 + j)), v] [] M1 Q
  | 0, j, M1, h, hx => by
    refine ev_iload_n 10 dX8_findName_9 rfl rfl ?_
    refine ev_iconst 11 (nI 5) dX8_findName_10 (by decide) rfl ?_
    refine ev_icmp_geN 14 46 dX8_findName_11 (by decide) rfl (by omega) (by omega) (fun c11 => ?_) (fun c11 => ?_)
    · rw [show j = 2 by omega] at hx
      exact k M1 _ hx
    · omega
  | d + 1, j, M1, h, hx => by
    refine ev_iload_n 10 dX8_findName_9 rfl rfl ?_
    refine ev_iconst 11 (nI 5) dX8_findName_10 (by decide) rfl ?_
    refine ev_icmp_geN 14 46 dX8_findName_11 (by decide) rfl (by omega) (by omega) (fun c11 => ?_) (fun c11 => ?_)
    · omega
    · refine ev_aload_n 15 dX8_findName_14 rfl rfl ?_
      refine ev_iload_n 16 dX8_findName_15 rfl rfl ?_
      refine ev_iload_n 17 dX8_findName_16 rfl rfl ?_
      refine ev_cV2I (M 1 (a * 18 + (3 + j))) M1 20 dX8_findName_17 mlX8_74 moX8_get rfl imX8_get ⟨_, _, rfl, rfl, rfl⟩ (Nat.le_of_ble_eq_true rfl) (Nat.le_of_ble_eq_true rfl) rfl (by have z := s_X8_get (M := M1) (a := a) (b := (3 + j)) (by omega) (by omega); rwa [hx.e1] at z) ?_
      refine ev_iconst 21 (-1) dX8_findName_20 (by decide) rfl ?_
      refine ev_icmp_eq 24 40 dX8_findName_21 (by decide) rfl (fun c21 => ?_) (fun c21 => ?_)
      · refine ev_iincN 43 _ dX8_findName_40 rfl (by decide) rfl rfl rfl ?_
        refine ev_goto 9 dX8_findName_43 (by decide) ?_
        exact s_X8_findName_9 hn ha hlab k d (j + 1) M1 (by omega) (by rw [labS, ownS, if_pos c21]; exact hx)
      · obtain ⟨q, hq, eq⟩ : ∃ q, q < n ∧ M 1 (a * 18 + (3 + j)) = nI q := (hlab (3 + j) (by omega)).resolve_left c21
        refine ev_aload_n 25 dX8_findName_24 rfl rfl ?_
        refine ev_iload_n 26 dX8_findName_25 rfl rfl ?_
        refine ev_aload_n 27 dX8_findName_26 rfl rfl ?_
        refine ev_aload_n 28 dX8_findName_27 rfl rfl ?_
        refine ev_iload_n 29 dX8_findName_28 rfl rfl ?_
        refine ev_iload_n 30 dX8_findName_29 rfl rfl ?_
        refine ev_cV2I (M 1 (a * 18 + (3 + j))) M1 33 dX8_findName_30 mlX8_74 moX8_get rfl imX8_get ⟨_, _, rfl, rfl, rfl⟩ (Nat.le_of_ble_eq_true rfl) (Nat.le_of_ble_eq_true rfl) rfl (by have z := s_X8_get (M := M1) (a := a) (b := (3 + j)) (by omega) (by omega); rwa [hx.e1] at z) ?_
        refine ev_eqI eq ?_
        refine ev_iconst 34 (nI 0) dX8_findName_33 (by decide) rfl ?_
        refine ev_cV2I (M 1 (q * 18 + 0)) M1 37 dX8_findName_34 mlX8_74 moX8_get rfl imX8_get ⟨_, _, rfl, rfl, rfl⟩ (Nat.le_of_ble_eq_true rfl) (Nat.le_of_ble_eq_true rfl) rfl (by have z := s_X8_get (M := M1) (a := q) (b := 0) (by omega) (by omega); rwa [hx.e1] at z) ?_
        refine ev_cV2 40 dX8_findName_37 mlX8_128 moX8_addWord rfl imX8_addWord ⟨_, _, rfl, rfl, rfl⟩ (Nat.le_of_ble_eq_true rfl) (Nat.le_of_ble_eq_true rfl) rfl (s_X8_addWord _ ha hx.2) ?_
        rintro r M2 ⟨rfl, h2⟩
        refine ev_iincN 43 _ dX8_findName_40 rfl (by decide) rfl rfl rfl ?_
        refine ev_goto 9 dX8_findName_43 (by decide) ?_
        exact s_X8_findName_9 hn ha hlab k d (j + 1) M2 (by omega) (by rw [labS, ownS, if_neg c21, eq, nI_clamp (by omega)]; exact hx.add h2)
theorem s_X8_findName {M : Mm} {n a : Nat} (ht : TR (M 1) n) (hn0 : 0 < n) (hn : n ≤ 24) (hm : M 0 0 = nI n) (ha : a < 24) (hlab : labOK (M 1) n a) : Ct MSh mX8_findName [.ref 0, .int (nI a)] M (fun r M2 => r = none ∧ RNm M M2 a (nmS (M 1) n a)) := by
  show Ev _ _ 0 [.ref 0, .int (nI a), .null, .null] [] M _
  refine ev_aload_n 1 dX8_findName_0 rfl rfl ?_
  refine ev_getR 4 dX8_findName_1 rfl flX8_25 rfl rfl ?_
  refine ev_iload_n 5 dX8_findName_4 rfl rfl ?_
  refine ev_iconst 6 (nI 0) dX8_findName_5 (by decide) rfl ?_
  refine ev_iaS 7 dX8_findName_6 rfl (by omega) (by decide) rfl ?_
  refine ev_iconst 8 (nI 3) dX8_findName_7 (by decide) rfl ?_
  refine ev_istore_n 9 _ dX8_findName_8 (by decide) rfl rfl rfl ?_
  have hx : RNm M (mst M 6 a (nI 0)) a (labS (M 1) a 0) := by
    have z := nm_set0 (M := M) (w := 5) (c := 6) (p := a) (by decide)
    exact ⟨⟨fun k a b c d => z.1.1 k c d, z.1.2.1, z.1.2.2⟩, z.2⟩
  refine s_X8_findName_9 hn ha hlab (fun M2 u h => s_X8_findName_46 ha h (fun M3 h3 => s_X8_findName_66 ha h3 (fun M4 h4 => ?_))) 2 0 _ (by omega) hx
  exact s_X8_findName_86 ht hn0 hn hm ha h4 rfl
