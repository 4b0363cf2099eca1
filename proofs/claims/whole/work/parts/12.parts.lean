/-! Parts: the leaves (over any world that begins with Parts and its five arrays) -/
def inB (x : Int32) (n : Nat) : Bool := decide (0 ≤ x.toInt ∧ x.toInt < n)
theorem inB_nI {j n : Nat} (h : j < 2 ^ 31) : inB (nI j) n = decide (j < n) := by
  unfold inB
  rw [nI_toInt h]
  by_cases q : j < n
  · rw [decide_eq_true q, decide_eq_true]; omega
  · rw [decide_eq_false q, decide_eq_false]; omega
theorem inB_of {x : Int32} {n : Nat} (h : inB x n = true) (hn : n < 2 ^ 31) : ∃ j, j < n ∧ x = nI j := by
  have h1 := of_decide_eq_true h
  obtain ⟨j, hj, e⟩ := nI_of (x := x) (fun q => by have := Int32.lt_iff_toInt_lt.mp q; simp at this; omega)
  rw [e, nI_toInt hj] at h1
  exact ⟨j, by omega, e⟩
theorem inB_m1 (n : Nat) : inB (-1) n = false := decide_eq_false (by
  have : (-1 : Int32).toInt = -1 := by decide
  omega)
theorem int_lt0 {x : Int32} : x < 0 ↔ x.toInt < 0 := by rw [Int32.lt_iff_toInt_lt]; simp
def hB (x p : Int32) : Bool := inB p 24 && bt x p.toNatClampNeg
theorem hB_nI {x : Int32} {a : Nat} (h : a < 24) : hB x (nI a) = bt x a := by
  rw [hB, inB_nI (by omega), decide_eq_true h, nI_clamp (by omega)]; rfl
theorem hB_m1 (x : Int32) : hB x (-1) = false := by rw [hB, inB_m1]; rfl
theorem bt_one (i : Nat) : bt 1 i = decide (i = 0) := by
  rcases Nat.lt_or_ge i 32 with h | h
  · exact (by decide +kernel : ∀ i, i < 32 → bt 1 i = decide (i = 0)) i h
  · rw [b_big h, decide_eq_false (by omega)]
theorem bt_bit (x : Int32) {a : Nat} (h : a < 32) : (x >>> (nI a &&& 31)) &&& 1 = bI (bt x a) := by
  apply b_ext
  intro i hi
  rw [b_and, b_sshr a h x hi, bt_one]
  by_cases e : i = 0
  · subst e
    cases hb : bt x a <;> simp [hb, h, bI, bt_one, b_0]
  · simp [e]
    cases bt x a <;> simp [bI, bt_one, b_0, e]
theorem mul18 {a b : Nat} (ha : a < 24) (hb : b < 18) : a * 18 + b < 432 := by omega

set_option maxRecDepth 10000 in
theorem s_X2_has {X : Shp} {M : Mm} {n : Nat} (hn : n ≤ 24) (hsz : M 0 5 = nI n) (x : Int32) : Ct (PSh ++ X) mX2_has [.ref 0, .int x] M (RetI (bI (inB x n)) M) := by
  show Ev _ _ 0 [.ref 0, .int x] [] M _
  refine ev_iload_n 1 dX2_has_0 rfl rfl ?_
  refine ev_if_lt 4 16 dX2_has_1 (by decide) rfl (fun c1 => ?_) (fun c1 => ?_)
  · refine ev_iconst 17 (nI 0) dX2_has_16 (by decide) rfl ?_
    exact ev_zret dX2_has_17 rfl (Or.inl rfl) (⟨by rw [show inB x n = false from decide_eq_false (by rw [int_lt0] at c1; omega)]; rfl, rfl⟩)
  · refine ev_iload_n 5 dX2_has_4 rfl rfl ?_
    refine ev_aload_n 6 dX2_has_5 rfl rfl ?_
    refine ev_getIv 9 (nI n) dX2_has_6 rfl flX2_27 rfl rfl hsz ?_
    refine ev_icmp_ge 12 16 dX2_has_9 (by decide) rfl (fun c9 => ?_) (fun c9 => ?_)
    · refine ev_iconst 17 (nI 0) dX2_has_16 (by decide) rfl ?_
      exact ev_zret dX2_has_17 rfl (Or.inl rfl) (⟨by rw [show inB x n = false from decide_eq_false (by rw [Int32.le_iff_toInt_le, nI_toInt (by omega)] at c9; omega)]; rfl, rfl⟩)
    · refine ev_iconst 13 (nI 1) dX2_has_12 (by decide) rfl ?_
      refine ev_goto 17 dX2_has_13 (by decide) ?_
      exact ev_zret dX2_has_17 rfl (Or.inr rfl) (⟨by rw [show inB x n = true from decide_eq_true (by rw [int_lt0] at c1; rw [Int32.le_iff_toInt_le, nI_toInt (by omega)] at c9; omega)]; rfl, rfl⟩)
theorem s_X2_hasN {X : Shp} {M : Mm} {n a : Nat} (hn : n ≤ 24) (hsz : M 0 5 = nI n) (ha : a < n) : Ct (PSh ++ X) mX2_has [.ref 0, .int (nI a)] M (RetI (bI true) M) := by
  have h := s_X2_has (X := X) hn hsz (nI a)
  rwa [inB_nI (by omega), decide_eq_true ha] at h
theorem s_X2_isFull {X : Shp} {M : Mm} {n : Nat} (hn : n ≤ 24) (hsz : M 0 5 = nI n) : Ct (PSh ++ X) mX2_isFull [.ref 0] M (RetI (bI (decide (24 ≤ n))) M) := by
  show Ev _ _ 0 [.ref 0] [] M _
  refine ev_aload_n 1 dX2_isFull_0 rfl rfl ?_
  refine ev_getIv 4 (nI n) dX2_isFull_1 rfl flX2_27 rfl rfl hsz ?_
  refine ev_bipush 6 (nI 24) dX2_isFull_4 (by decide) rfl ?_
  refine ev_icmp_ltN 9 13 dX2_isFull_6 (by decide) rfl (by omega) (by omega) (fun c6 => ?_) (fun c6 => ?_)
  · refine ev_iconst 14 (nI 0) dX2_isFull_13 (by decide) rfl ?_
    exact ev_zret dX2_isFull_14 rfl (Or.inl rfl) (⟨by first | (rw [decide_eq_true (by omega)]; rfl) | (rw [decide_eq_false (by omega)]; rfl), rfl⟩)
  · refine ev_iconst 10 (nI 1) dX2_isFull_9 (by decide) rfl ?_
    refine ev_goto 14 dX2_isFull_10 (by decide) ?_
    exact ev_zret dX2_isFull_14 rfl (Or.inr rfl) (⟨by first | (rw [decide_eq_true (by omega)]; rfl) | (rw [decide_eq_false (by omega)]; rfl), rfl⟩)
theorem s_X2_get {X : Shp} {M : Mm} {a b : Nat} (ha : a < 24) (hb : b < 18) : Ct (PSh ++ X) mX2_get [.ref 0, .int (nI a), .int (nI b)] M (RetI (M 1 (a * 18 + b)) M) := by
  show Ev _ _ 0 [.ref 0, .int (nI a), .int (nI b), .null] [] M _
  refine ev_iload_n 1 dX2_get_0 rfl rfl ?_
  refine ev_bipush 3 (nI 18) dX2_get_1 (by decide) rfl ?_
  refine ev_imulN 4 dX2_get_3 rfl ?_
  refine ev_iload_n 5 dX2_get_4 rfl rfl ?_
  refine ev_iaddN 6 dX2_get_5 rfl ?_
  refine ev_istore_n 7 _ dX2_get_6 (by decide) rfl rfl rfl ?_
  refine ev_iload_n 8 dX2_get_7 rfl rfl ?_
  refine ev_if_ltN 11 29 dX2_get_8 (by decide) rfl (by omega) ?_
  refine ev_iload_n 12 dX2_get_11 rfl rfl ?_
  refine ev_aload_n 13 dX2_get_12 rfl rfl ?_
  refine ev_getR 16 dX2_get_13 rfl flX2_9 rfl rfl ?_
  refine ev_alen 17 dX2_get_16 rfl rfl ?_
  refine ev_icmp_geN 20 29 dX2_get_17 (by decide) rfl (by omega) (by omega) (fun c17 => ?_) (fun c17 => ?_)
  · omega
  · refine ev_aload_n 21 dX2_get_20 rfl rfl ?_
    refine ev_getR 24 dX2_get_21 rfl flX2_9 rfl rfl ?_
    refine ev_iload_n 25 dX2_get_24 rfl rfl ?_
    refine ev_iaN 26 _ dX2_get_25 rfl (mul18 ha hb) (by decide) rfl rfl ?_
    refine ev_goto 30 dX2_get_26 (by decide) ?_
    exact ev_iret dX2_get_30 rfl (⟨rfl, rfl⟩)
theorem s_X2_put {X : Shp} {M : Mm} {a b : Nat} {v : Int32} (ha : a < 24) (hb : b < 18) : Ct (PSh ++ X) mX2_put [.ref 0, .int (nI a), .int (nI b), .int v] M (RetV (mst M 1 (a * 18 + b) v)) := by
  show Ev _ _ 0 [.ref 0, .int (nI a), .int (nI b), .int v, .null] [] M _
  refine ev_iload_n 1 dX2_put_0 rfl rfl ?_
  refine ev_bipush 3 (nI 18) dX2_put_1 (by decide) rfl ?_
  refine ev_imulN 4 dX2_put_3 rfl ?_
  refine ev_iload_n 5 dX2_put_4 rfl rfl ?_
  refine ev_iaddN 6 dX2_put_5 rfl ?_
  refine ev_istore 8 _ dX2_put_6 (by decide) rfl rfl rfl ?_
  refine ev_iload 10 dX2_put_8 rfl rfl ?_
  refine ev_if_ltN 13 31 dX2_put_10 (by decide) rfl (by omega) ?_
  refine ev_iload 15 dX2_put_13 rfl rfl ?_
  refine ev_aload_n 16 dX2_put_15 rfl rfl ?_
  refine ev_getR 19 dX2_put_16 rfl flX2_9 rfl rfl ?_
  refine ev_alen 20 dX2_put_19 rfl rfl ?_
  refine ev_icmp_geN 23 31 dX2_put_20 (by decide) rfl (by omega) (by omega) (fun c20 => ?_) (fun c20 => ?_)
  · omega
  · refine ev_aload_n 24 dX2_put_23 rfl rfl ?_
    refine ev_getR 27 dX2_put_24 rfl flX2_9 rfl rfl ?_
    refine ev_iload 29 dX2_put_27 rfl rfl ?_
    refine ev_iload_n 30 dX2_put_29 rfl rfl ?_
    refine ev_iaS 31 dX2_put_30 rfl (mul18 ha hb) (by decide) rfl ?_
    exact ev_vret dX2_put_31 rfl (⟨rfl, rfl⟩)
theorem s_holds {Sh : Shp} {M : Mm} (x p : Int32) : Ct Sh mX7_holds [.int x, .int p] M (RetI (bI (hB x p)) M) := by
  have hbit : ∀ (c1 : ¬ p < 0) (c7 : ¬ nI 24 ≤ p), bt x p.toNatClampNeg = hB x p := fun c1 c7 => by
    rw [hB, show inB p 24 = true from decide_eq_true (by rw [int_lt0] at c1; rw [Int32.le_iff_toInt_le, nI_toInt (by omega)] at c7; omega)]; rfl
  have hbit15 : ∀ (c1 : ¬ p < 0) (c7 : ¬ nI 24 ≤ p), (x >>> (p &&& 31)) &&& nI 1 = bI (bt x p.toNatClampNeg) := fun c1 c7 => by
    obtain ⟨a, ha, e⟩ := inB_of (x := p) (n := 24) (decide_eq_true (by rw [int_lt0] at c1; rw [Int32.le_iff_toInt_le, nI_toInt (by omega)] at c7; omega)) (by omega)
    rw [e, nI_clamp (by omega)]
    exact bt_bit x (by omega)
  show Ev _ _ 0 [.int x, .int p] [] M _
  refine ev_iload_n 1 dX7_holds_0 rfl rfl ?_
  refine ev_if_lt 4 22 dX7_holds_1 (by decide) rfl (fun c1 => ?_) (fun c1 => ?_)
  · refine ev_iconst 23 (nI 0) dX7_holds_22 (by decide) rfl ?_
    exact ev_zret dX7_holds_23 rfl (Or.inl rfl) ⟨by rw [hB, show inB p 24 = false from decide_eq_false (by rw [int_lt0] at c1; omega)]; rfl, rfl⟩
  · refine ev_iload_n 5 dX7_holds_4 rfl rfl ?_
    refine ev_bipush 7 (nI 24) dX7_holds_5 (by decide) rfl ?_
    refine ev_icmp_ge 10 22 dX7_holds_7 (by decide) rfl (fun c7 => ?_) (fun c7 => ?_)
    · refine ev_iconst 23 (nI 0) dX7_holds_22 (by decide) rfl ?_
      exact ev_zret dX7_holds_23 rfl (Or.inl rfl) ⟨by rw [hB, show inB p 24 = false from decide_eq_false (by rw [Int32.le_iff_toInt_le, nI_toInt (by omega)] at c7; omega)]; rfl, rfl⟩
    · refine ev_iload_n 11 dX7_holds_10 rfl rfl ?_
      refine ev_iload_n 12 dX7_holds_11 rfl rfl ?_
      refine ev_ishr 13 dX7_holds_12 rfl ?_
      refine ev_iconst 14 (nI 1) dX7_holds_13 (by decide) rfl ?_
      refine ev_iand 15 dX7_holds_14 rfl ?_
      refine ev_eqI (hbit15 c1 c7) ?_
      refine ev_if_eqB 18 22 dX7_holds_15 (by decide) rfl (fun c15 => ?_) (fun c15 => ?_)
      · refine ev_iconst 23 (nI 0) dX7_holds_22 (by decide) rfl ?_
        exact ev_zret dX7_holds_23 rfl (Or.inl rfl) ⟨by rw [← hbit c1 c7, c15]; rfl, rfl⟩
      · refine ev_iconst 19 (nI 1) dX7_holds_18 (by decide) rfl ?_
        refine ev_goto 23 dX7_holds_19 (by decide) ?_
        exact ev_zret dX7_holds_23 rfl (Or.inr rfl) ⟨by rw [← hbit c1 c7, c15]; rfl, rfl⟩
