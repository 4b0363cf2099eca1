/-! Faults: each fault -/
def kd3 (h : Nat → Int32) (a : Nat) : Bool := (h (a * 18 + 10) == nI 2) || (h (a * 18 + 10) == nI 3) || (h (a * 18 + 10) == nI 4)
def palH (h : Nat → Int32) (a : Nat) : Bool := if h (a * 18 + 10) = nI 1 then decide (ctH h a < 4500) else ((h (a * 18 + 10) == nI 2) || (h (a * 18 + 10) == nI 3)) && decide (ctH h a < 3000)
def shrtH (h : Nat → Int32) (a : Nat) : Bool := decide (0 < h (a * 18 + 8)) && decide (h (a * 18 + 8) < nI 20) && (h (a * 18 + 9) == 0)
theorem ctN_lt (a b : Nat) : ctN a b < 2 ^ 31 := by
  unfold ctN
  have h1 := litV_le a
  have h2 := litV_le b
  have h3 : max (litV a) (litV b) ≤ 2550000 := Nat.max_le.mpr ⟨h1, h2⟩
  exact Nat.div_lt_of_lt_mul (by omega)
theorem ctH_lt (h : Nat → Int32) (a : Nat) : ctH h a < 2 ^ 31 := ctN_lt _ _
def alike (l1 l2 : List Int32) : Bool := decide (l1.length = l2.length) && alk l1 l2 l1.length
def twA (sst : Int32) (ns : Nat → List Int32) (p : Nat) : Nat → Bool
  | 0 => false
  | k + 1 => twA sst ns p k || (bt sst k && alike (ns p) (ns k))
theorem twA_yes {sst : Int32} {ns : Nat → List Int32} {p k : Nat} : ∀ {n : Nat}, k < n → bt sst k = true → alike (ns p) (ns k) = true → twA sst ns p n = true
  | 0, h, _, _ => by omega
  | n + 1, h, h1, h2 => by
    by_cases e : k = n
    · subst e; rw [twA, h1, h2]; simp
    · rw [twA, twA_yes (by omega) h1 h2, Bool.true_or]
def obb (M : Mm) (p : Nat) : Int32 := if bt (M 4 2) p then M 1 (p * 18 + 7) else -1
def clA (M : Mm) (sin wo : Int32) : Nat → Bool
  | 0 => false
  | k + 1 => clA M sin wo k || (bt sin k && hB wo (obb M k))
theorem clA_yes {M : Mm} {sin wo : Int32} {k : Nat} : ∀ {n : Nat}, k < n → bt sin k = true → hB wo (obb M k) = true → clA M sin wo n = true
  | 0, h, _, _ => by omega
  | n + 1, h, h1, h2 => by
    by_cases e : k = n
    · subst e; rw [clA, h1, h2]; simp
    · rw [clA, clA_yes (by omega) h1 h2, Bool.true_or]
def clsF (M : Mm) (n : Nat) (sh : Int32) (a : Nat) : Bool := !(clA M ((sh &&& (M 4 2 ||| M 4 3)) &&& M 3 a) (M 2 a ||| (nI 1 <<< (nI a &&& 31))) n) && ((sh &&& (M 4 2 ||| M 4 3)) &&& M 3 a != 0)
def nmlF (M : Mm) (l : List Int32) (a : Nat) : Bool := decide (l.length = 0) && kd3 (M 1) a
def twnF (M : Mm) (ns : Nat → List Int32) (sh : Int32) (a : Nat) : Bool := bt (sh &&& (M 4 2 ||| M 4 3)) a && decide ((ns a).length ≠ 0) && twA (sh &&& (M 4 2 ||| M 4 3)) ns a a

theorem s_X0_isNameless {M : Mm} {a n : Nat} {l : List Int32} (hn : n ≤ 24) (hsz : M 0 5 = nI n) (ha : a < n) (hl : nmAt M 7 8 a l) : Ct XSh mX0_isNameless [.ref 19, .int (nI a)] M (RetI (bI (nmlF M l a)) M) := by
  have hle := hl.1
  show Ev _ _ 0 [.ref 19, .int (nI a), .null] [] M _
  refine ev_aload_n 1 dX0_isNameless_0 rfl rfl ?_
  refine ev_getR 4 dX0_isNameless_1 rfl flX0_18 rfl rfl ?_
  refine ev_iload_n 5 dX0_isNameless_4 rfl rfl ?_
  refine ev_bipush 7 (nI 10) dX0_isNameless_5 (by decide) rfl ?_
  refine ev_cV2I (M 1 (a * 18 + 10)) M 10 dX0_isNameless_7 mlX0_74 moX2_get rfl imX2_get ⟨_, _, rfl, rfl, rfl⟩ (Nat.le_of_ble_eq_true rfl) (Nat.le_of_ble_eq_true rfl) rfl (s_X2_get (a := a) (b := 10) (by omega) (by omega)) ?_
  refine ev_istore_n 11 _ dX0_isNameless_10 (by decide) rfl rfl rfl ?_
  refine ev_aload_n 12 dX0_isNameless_11 rfl rfl ?_
  refine ev_getR 15 dX0_isNameless_12 rfl flX0_22 rfl rfl ?_
  refine ev_iload_n 16 dX0_isNameless_15 rfl rfl ?_
  refine ev_cV1I (nI l.length) M 19 dX0_isNameless_16 mlX0_87 moX1_lengthOf rfl imX1_lengthOf ⟨_, _, rfl, rfl, rfl⟩ (Nat.le_of_ble_eq_true rfl) (Nat.le_of_ble_eq_true rfl) rfl (by rw [← hl.2.1]; exact s_X1_lengthOf hn hsz ha) ?_
  refine ev_if_neN 22 41 dX0_isNameless_19 (by decide) rfl (by omega) (fun c19 => ?_) (fun c19 => ?_)
  · refine ev_iconst 42 (nI 0) dX0_isNameless_41 (by decide) rfl ?_
    exact ev_zret dX0_isNameless_42 rfl (Or.inl rfl) (⟨by rw [nmlF, decide_eq_false c19]; rfl, rfl⟩)
  · refine ev_iload_n 23 dX0_isNameless_22 rfl rfl ?_
    refine ev_iconst 24 (nI 2) dX0_isNameless_23 (by decide) rfl ?_
    refine ev_icmp_eq 27 37 dX0_isNameless_24 (by decide) rfl (fun c24 => ?_) (fun c24 => ?_)
    · refine ev_iconst 38 (nI 1) dX0_isNameless_37 (by decide) rfl ?_
      refine ev_goto 42 dX0_isNameless_38 (by decide) ?_
      exact ev_zret dX0_isNameless_42 rfl (Or.inr rfl) (⟨by rw [nmlF, decide_eq_true c19, kd3, beq_iff_eq.mpr c24]; rfl, rfl⟩)
    · refine ev_iload_n 28 dX0_isNameless_27 rfl rfl ?_
      refine ev_iconst 29 (nI 3) dX0_isNameless_28 (by decide) rfl ?_
      refine ev_icmp_eq 32 37 dX0_isNameless_29 (by decide) rfl (fun c29 => ?_) (fun c29 => ?_)
      · refine ev_iconst 38 (nI 1) dX0_isNameless_37 (by decide) rfl ?_
        refine ev_goto 42 dX0_isNameless_38 (by decide) ?_
        exact ev_zret dX0_isNameless_42 rfl (Or.inr rfl) (⟨by rw [nmlF, decide_eq_true c19, kd3, beq_eq_false_iff_ne.mpr c24, beq_iff_eq.mpr c29]; rfl, rfl⟩)
      · refine ev_iload_n 33 dX0_isNameless_32 rfl rfl ?_
        refine ev_iconst 34 (nI 4) dX0_isNameless_33 (by decide) rfl ?_
        refine ev_icmp_ne 37 41 dX0_isNameless_34 (by decide) rfl (fun c34 => ?_) (fun c34 => ?_)
        · refine ev_iconst 42 (nI 0) dX0_isNameless_41 (by decide) rfl ?_
          exact ev_zret dX0_isNameless_42 rfl (Or.inl rfl) (⟨by rw [nmlF, decide_eq_true c19, kd3, beq_eq_false_iff_ne.mpr c24, beq_eq_false_iff_ne.mpr c29, beq_eq_false_iff_ne.mpr c34]; rfl, rfl⟩)
        · refine ev_iconst 38 (nI 1) dX0_isNameless_37 (by decide) rfl ?_
          refine ev_goto 42 dX0_isNameless_38 (by decide) ?_
          exact ev_zret dX0_isNameless_42 rfl (Or.inr rfl) (⟨by rw [nmlF, decide_eq_true c19, kd3, beq_eq_false_iff_ne.mpr c24, beq_eq_false_iff_ne.mpr c29, beq_iff_eq.mpr c34]; rfl, rfl⟩)
theorem s_X0_isPale {M : Mm} {a : Nat} (ha : a < 24) (hc : colOK (M 1) a) : Ct XSh mX0_isPale [.ref 19, .int (nI a)] M (RetI (bI (palH (M 1) a)) M) := by
  have hlt := ctH_lt (M 1) a
  show Ev _ _ 0 [.ref 19, .int (nI a), .null] [] M _
  refine ev_aload_n 1 dX0_isPale_0 rfl rfl ?_
  refine ev_getR 4 dX0_isPale_1 rfl flX0_18 rfl rfl ?_
  refine ev_iload_n 5 dX0_isPale_4 rfl rfl ?_
  refine ev_bipush 7 (nI 10) dX0_isPale_5 (by decide) rfl ?_
  refine ev_cV2I (M 1 (a * 18 + 10)) M 10 dX0_isPale_7 mlX0_74 moX2_get rfl imX2_get ⟨_, _, rfl, rfl, rfl⟩ (Nat.le_of_ble_eq_true rfl) (Nat.le_of_ble_eq_true rfl) rfl (s_X2_get (a := a) (b := 10) ha (by omega)) ?_
  refine ev_istore_n 11 _ dX0_isPale_10 (by decide) rfl rfl rfl ?_
  refine ev_iload_n 12 dX0_isPale_11 rfl rfl ?_
  refine ev_iconst 13 (nI 1) dX0_isPale_12 (by decide) rfl ?_
  refine ev_icmp_ne 16 36 dX0_isPale_13 (by decide) rfl (fun c13 => ?_) (fun c13 => ?_)
  · refine ev_iload_n 37 dX0_isPale_36 rfl rfl ?_
    refine ev_iconst 38 (nI 2) dX0_isPale_37 (by decide) rfl ?_
    refine ev_icmp_eq 41 46 dX0_isPale_38 (by decide) rfl (fun c38 => ?_) (fun c38 => ?_)
    · refine ev_aload_n 47 dX0_isPale_46 rfl rfl ?_
      refine ev_getR 50 dX0_isPale_47 rfl flX0_18 rfl rfl ?_
      refine ev_iload_n 51 dX0_isPale_50 rfl rfl ?_
      refine ev_cV1I _ M 54 dX0_isPale_51 mlX0_97 moX2_contrastOf rfl imX2_contrastOf ⟨_, _, rfl, rfl, rfl⟩ (Nat.le_of_ble_eq_true rfl) (Nat.le_of_ble_eq_true rfl) rfl (s_X2_contrastOf ha hc) ?_
      refine ev_sipush 57 (nI 3000) dX0_isPale_54 (by decide) rfl ?_
      refine ev_icmp_geN 60 64 dX0_isPale_57 (by decide) rfl (by omega) (by omega) (fun c57 => ?_) (fun c57 => ?_)
      · refine ev_iconst 65 (nI 0) dX0_isPale_64 (by decide) rfl ?_
        exact ev_zret dX0_isPale_65 rfl (Or.inl rfl) (⟨by rw [palH, if_neg c13, beq_iff_eq.mpr c38, decide_eq_false (by omega)]; rfl, rfl⟩)
      · refine ev_iconst 61 (nI 1) dX0_isPale_60 (by decide) rfl ?_
        refine ev_goto 65 dX0_isPale_61 (by decide) ?_
        exact ev_zret dX0_isPale_65 rfl (Or.inr rfl) (⟨by rw [palH, if_neg c13, beq_iff_eq.mpr c38, decide_eq_true (by omega)]; rfl, rfl⟩)
    · refine ev_iload_n 42 dX0_isPale_41 rfl rfl ?_
      refine ev_iconst 43 (nI 3) dX0_isPale_42 (by decide) rfl ?_
      refine ev_icmp_ne 46 64 dX0_isPale_43 (by decide) rfl (fun c43 => ?_) (fun c43 => ?_)
      · refine ev_iconst 65 (nI 0) dX0_isPale_64 (by decide) rfl ?_
        exact ev_zret dX0_isPale_65 rfl (Or.inl rfl) (⟨by rw [palH, if_neg c13, beq_eq_false_iff_ne.mpr c38, beq_eq_false_iff_ne.mpr c43]; rfl, rfl⟩)
      · refine ev_aload_n 47 dX0_isPale_46 rfl rfl ?_
        refine ev_getR 50 dX0_isPale_47 rfl flX0_18 rfl rfl ?_
        refine ev_iload_n 51 dX0_isPale_50 rfl rfl ?_
        refine ev_cV1I _ M 54 dX0_isPale_51 mlX0_97 moX2_contrastOf rfl imX2_contrastOf ⟨_, _, rfl, rfl, rfl⟩ (Nat.le_of_ble_eq_true rfl) (Nat.le_of_ble_eq_true rfl) rfl (s_X2_contrastOf ha hc) ?_
        refine ev_sipush 57 (nI 3000) dX0_isPale_54 (by decide) rfl ?_
        refine ev_icmp_geN 60 64 dX0_isPale_57 (by decide) rfl (by omega) (by omega) (fun c57 => ?_) (fun c57 => ?_)
        · refine ev_iconst 65 (nI 0) dX0_isPale_64 (by decide) rfl ?_
          exact ev_zret dX0_isPale_65 rfl (Or.inl rfl) (⟨by rw [palH, if_neg c13, beq_eq_false_iff_ne.mpr c38, beq_iff_eq.mpr c43, decide_eq_false (by omega)]; rfl, rfl⟩)
        · refine ev_iconst 61 (nI 1) dX0_isPale_60 (by decide) rfl ?_
          refine ev_goto 65 dX0_isPale_61 (by decide) ?_
          exact ev_zret dX0_isPale_65 rfl (Or.inr rfl) (⟨by rw [palH, if_neg c13, beq_eq_false_iff_ne.mpr c38, beq_iff_eq.mpr c43, decide_eq_true (by omega)]; rfl, rfl⟩)
  · refine ev_aload_n 17 dX0_isPale_16 rfl rfl ?_
    refine ev_getR 20 dX0_isPale_17 rfl flX0_18 rfl rfl ?_
    refine ev_iload_n 21 dX0_isPale_20 rfl rfl ?_
    refine ev_cV1I _ M 24 dX0_isPale_21 mlX0_97 moX2_contrastOf rfl imX2_contrastOf ⟨_, _, rfl, rfl, rfl⟩ (Nat.le_of_ble_eq_true rfl) (Nat.le_of_ble_eq_true rfl) rfl (s_X2_contrastOf ha hc) ?_
    refine ev_sipush 27 (nI 4500) dX0_isPale_24 (by decide) rfl ?_
    refine ev_icmp_geN 30 34 dX0_isPale_27 (by decide) rfl (by omega) (by omega) (fun c27 => ?_) (fun c27 => ?_)
    · refine ev_iconst 35 (nI 0) dX0_isPale_34 (by decide) rfl ?_
      exact ev_zret dX0_isPale_35 rfl (Or.inl rfl) (⟨by rw [palH, if_pos c13, decide_eq_false (by omega)]; rfl, rfl⟩)
    · refine ev_iconst 31 (nI 1) dX0_isPale_30 (by decide) rfl ?_
      refine ev_goto 35 dX0_isPale_31 (by decide) ?_
      exact ev_zret dX0_isPale_35 rfl (Or.inr rfl) (⟨by rw [palH, if_pos c13, decide_eq_true (by omega)]; rfl, rfl⟩)
theorem s_X0_isShort {M : Mm} {a : Nat} (ha : a < 24) : Ct XSh mX0_isShort [.ref 19, .int (nI a)] M (RetI (bI (shrtH (M 1) a)) M) := by
  show Ev _ _ 0 [.ref 19, .int (nI a), .null] [] M _
  refine ev_aload_n 1 dX0_isShort_0 rfl rfl ?_
  refine ev_getR 4 dX0_isShort_1 rfl flX0_18 rfl rfl ?_
  refine ev_iload_n 5 dX0_isShort_4 rfl rfl ?_
  refine ev_bipush 7 (nI 8) dX0_isShort_5 (by decide) rfl ?_
  refine ev_cV2I (M 1 (a * 18 + 8)) M 10 dX0_isShort_7 mlX0_74 moX2_get rfl imX2_get ⟨_, _, rfl, rfl, rfl⟩ (Nat.le_of_ble_eq_true rfl) (Nat.le_of_ble_eq_true rfl) rfl (s_X2_get (a := a) (b := 8) ha (by omega)) ?_
  refine ev_istore_n 11 _ dX0_isShort_10 (by decide) rfl rfl rfl ?_
  refine ev_iload_n 12 dX0_isShort_11 rfl rfl ?_
  refine ev_if_le 15 38 dX0_isShort_12 (by decide) rfl (fun c12 => ?_) (fun c12 => ?_)
  · refine ev_iconst 39 (nI 0) dX0_isShort_38 (by decide) rfl ?_
    exact ev_zret dX0_isShort_39 rfl (Or.inl rfl) (⟨by rw [shrtH, decide_eq_false (i_le0 c12)]; rfl, rfl⟩)
  · refine ev_iload_n 16 dX0_isShort_15 rfl rfl ?_
    refine ev_bipush 18 (nI 20) dX0_isShort_16 (by decide) rfl ?_
    refine ev_icmp_ge 21 38 dX0_isShort_18 (by decide) rfl (fun c18 => ?_) (fun c18 => ?_)
    · refine ev_iconst 39 (nI 0) dX0_isShort_38 (by decide) rfl ?_
      exact ev_zret dX0_isShort_39 rfl (Or.inl rfl) (⟨by rw [shrtH, decide_eq_false (fun z => i_lt_nle z c18), Bool.and_false]; rfl, rfl⟩)
    · refine ev_aload_n 22 dX0_isShort_21 rfl rfl ?_
      refine ev_getR 25 dX0_isShort_22 rfl flX0_18 rfl rfl ?_
      refine ev_iload_n 26 dX0_isShort_25 rfl rfl ?_
      refine ev_bipush 28 (nI 9) dX0_isShort_26 (by decide) rfl ?_
      refine ev_cV2I (M 1 (a * 18 + 9)) M 31 dX0_isShort_28 mlX0_74 moX2_get rfl imX2_get ⟨_, _, rfl, rfl, rfl⟩ (Nat.le_of_ble_eq_true rfl) (Nat.le_of_ble_eq_true rfl) rfl (s_X2_get (a := a) (b := 9) ha (by omega)) ?_
      refine ev_if_ne 34 38 dX0_isShort_31 (by decide) rfl (fun c31 => ?_) (fun c31 => ?_)
      · refine ev_iconst 39 (nI 0) dX0_isShort_38 (by decide) rfl ?_
        exact ev_zret dX0_isShort_39 rfl (Or.inl rfl) (⟨by rw [shrtH, beq_eq_false_iff_ne.mpr c31, Bool.and_false]; rfl, rfl⟩)
      · refine ev_iconst 35 (nI 1) dX0_isShort_34 (by decide) rfl ?_
        refine ev_goto 39 dX0_isShort_35 (by decide) ?_
        exact ev_zret dX0_isShort_39 rfl (Or.inr rfl) (⟨by rw [shrtH, decide_eq_true (i_nle0 c12), decide_eq_true (Classical.byContradiction fun z => c18 (i_nlt_le z)), beq_iff_eq.mpr c31]; rfl, rfl⟩)
theorem s_X0_isTwin_k {M : Mm} {a n : Nat} {ns : Nat → List Int32} (hn : n ≤ 24) (hsz : M 0 5 = nI n) (ha : a < n) (hns : ∀ q, q ≤ a → nmAt M 7 8 q (ns q)) (hz : ∀ q, q ≤ a → nz (ns q)) (sh sst : Int32) : ∀ d i, i + d = a → twA sst ns a i = false → Ev XSh mX0_isTwin 33 [.ref 19, .int (nI a), .int sh, .int sst, .int (nI i)] [] M (RetI (bI (twA sst ns a a)) M)
  | 0, i, h, hk => by
    refine ev_iload 35 dX0_isTwin_33 rfl rfl ?_
    refine ev_iload_n 36 dX0_isTwin_35 rfl rfl ?_
    refine ev_icmp_geN 39 69 dX0_isTwin_36 (by decide) rfl (by omega) (by omega) (fun c36 => ?_) (fun c36 => ?_)
    · refine ev_iconst 70 (nI 0) dX0_isTwin_69 (by decide) rfl ?_
      exact ev_zret dX0_isTwin_70 rfl (Or.inl rfl) (⟨by rw [show twA sst ns a a = false from by rw [show i = a by omega] at hk; exact hk]; rfl, rfl⟩)
    · omega
  | d + 1, i, h, hk => by
    refine ev_iload 35 dX0_isTwin_33 rfl rfl ?_
    refine ev_iload_n 36 dX0_isTwin_35 rfl rfl ?_
    refine ev_icmp_geN 39 69 dX0_isTwin_36 (by decide) rfl (by omega) (by omega) (fun c36 => ?_) (fun c36 => ?_)
    · omega
    · refine ev_iload_n 40 dX0_isTwin_39 rfl rfl ?_
      refine ev_iload 42 dX0_isTwin_40 rfl rfl ?_
      refine ev_cS2I (bI (bt sst i)) M 45 dX0_isTwin_42 mlX0_56 moX7_holds rfl smX7_holds (Nat.le_of_ble_eq_true rfl) (Nat.le_of_ble_eq_true rfl) rfl (by have := s_holds (Sh := XSh) (M := M) sst (nI i); rwa [hB_nI (by omega)] at this) ?_
      refine ev_if_eqB 48 63 dX0_isTwin_45 (by decide) rfl (fun c45 => ?_) (fun c45 => ?_)
      · refine ev_iincN 66 _ dX0_isTwin_63 rfl (by decide) rfl rfl rfl ?_
        refine ev_goto 33 dX0_isTwin_66 (by decide) ?_
        exact s_X0_isTwin_k hn hsz ha hns hz sh sst d (i + 1) (by omega) (by rw [twA, hk, c45]; rfl)
      · refine ev_aload_n 49 dX0_isTwin_48 rfl rfl ?_
        refine ev_getR 52 dX0_isTwin_49 rfl flX0_22 rfl rfl ?_
        refine ev_iload_n 53 dX0_isTwin_52 rfl rfl ?_
        refine ev_iload 55 dX0_isTwin_53 rfl rfl ?_
        refine ev_cV2I _ M 58 dX0_isTwin_55 mlX0_94 moX1_areAlike rfl imX1_areAlike ⟨_, _, rfl, rfl, rfl⟩ (Nat.le_of_ble_eq_true rfl) (Nat.le_of_ble_eq_true rfl) rfl (s_X1_areAlike hn hsz ha (by omega) (hns a (Nat.le_refl _)) (hns i (by omega)) (hz a (Nat.le_refl _)) (hz i (by omega))) ?_
        refine ev_if_eqB 61 63 dX0_isTwin_58 (by decide) rfl (fun c58 => ?_) (fun c58 => ?_)
        · refine ev_iincN 66 _ dX0_isTwin_63 rfl (by decide) rfl rfl rfl ?_
          refine ev_goto 33 dX0_isTwin_66 (by decide) ?_
          exact s_X0_isTwin_k hn hsz ha hns hz sh sst d (i + 1) (by omega) (by rw [twA, hk, c45, alike, c58]; rfl)
        · refine ev_iconst 62 (nI 1) dX0_isTwin_61 (by decide) rfl ?_
          exact ev_zret dX0_isTwin_62 rfl (Or.inr rfl) (⟨by rw [twA_yes (k := i) (by omega) c45 c58]; rfl, rfl⟩)
theorem s_X0_isTwin {M : Mm} {a n : Nat} {ns : Nat → List Int32} (hn : n ≤ 24) (hsz : M 0 5 = nI n) (ha : a < n) (hns : ∀ q, q ≤ a → nmAt M 7 8 q (ns q)) (hz : ∀ q, q ≤ a → nz (ns q)) (sh : Int32) : Ct XSh mX0_isTwin [.ref 19, .int (nI a), .int sh] M (RetI (bI (twnF M ns sh a)) M) := by
  have hle := (hns a (Nat.le_refl _)).1
  show Ev _ _ 0 [.ref 19, .int (nI a), .int sh, .null, .null] [] M _
  refine ev_aload_n 1 dX0_isTwin_0 rfl rfl ?_
  refine ev_getR 4 dX0_isTwin_1 rfl flX0_18 rfl rfl ?_
  refine ev_iload_n 5 dX0_isTwin_4 rfl rfl ?_
  refine ev_cV1I _ M 8 dX0_isTwin_5 mlX0_91 moX2_stopsAmong rfl imX2_stopsAmong ⟨_, _, rfl, rfl, rfl⟩ (Nat.le_of_ble_eq_true rfl) (Nat.le_of_ble_eq_true rfl) rfl (s_X2_stopsAmong sh) ?_
  refine ev_istore_n 9 _ dX0_isTwin_8 (by decide) rfl rfl rfl ?_
  refine ev_iload_n 10 dX0_isTwin_9 rfl rfl ?_
  refine ev_iload_n 11 dX0_isTwin_10 rfl rfl ?_
  refine ev_cS2I (bI (bt (sh &&& (M 4 2 ||| M 4 3)) a)) M 14 dX0_isTwin_11 mlX0_56 moX7_holds rfl smX7_holds (Nat.le_of_ble_eq_true rfl) (Nat.le_of_ble_eq_true rfl) rfl (by have := s_holds (Sh := XSh) (M := M) (sh &&& (M 4 2 ||| M 4 3)) (nI a); rwa [hB_nI (by omega)] at this) ?_
  refine ev_if_eqB 17 28 dX0_isTwin_14 (by decide) rfl (fun c14 => ?_) (fun c14 => ?_)
  · refine ev_iconst 29 (nI 0) dX0_isTwin_28 (by decide) rfl ?_
    exact ev_zret dX0_isTwin_29 rfl (Or.inl rfl) (⟨by rw [twnF, c14]; rfl, rfl⟩)
  · refine ev_aload_n 18 dX0_isTwin_17 rfl rfl ?_
    refine ev_getR 21 dX0_isTwin_18 rfl flX0_22 rfl rfl ?_
    refine ev_iload_n 22 dX0_isTwin_21 rfl rfl ?_
    refine ev_cV1I (nI (ns a).length) M 25 dX0_isTwin_22 mlX0_87 moX1_lengthOf rfl imX1_lengthOf ⟨_, _, rfl, rfl, rfl⟩ (Nat.le_of_ble_eq_true rfl) (Nat.le_of_ble_eq_true rfl) rfl (by rw [← (hns a (Nat.le_refl _)).2.1]; exact s_X1_lengthOf hn hsz ha) ?_
    refine ev_if_neN 28 30 dX0_isTwin_25 (by decide) rfl (by omega) (fun c25 => ?_) (fun c25 => ?_)
    · refine ev_iconst 31 (nI 0) dX0_isTwin_30 (by decide) rfl ?_
      refine ev_istore 33 _ dX0_isTwin_31 (by decide) rfl rfl rfl ?_
      rw [twnF, c14, decide_eq_true c25]
      exact s_X0_isTwin_k hn hsz ha hns hz sh _ a 0 (by omega) rfl
    · refine ev_iconst 29 (nI 0) dX0_isTwin_28 (by decide) rfl ?_
      exact ev_zret dX0_isTwin_29 rfl (Or.inl rfl) (⟨by rw [twnF, decide_eq_false (fun z => z c25), Bool.and_false]; rfl, rfl⟩)
theorem s_X0_isClosed_k {M : Mm} {n : Nat} (hn : n ≤ 24) (hsz : M 0 5 = nI n) (x : Value) (sh sin wo : Int32) : ∀ d i, i + d = n → clA M sin wo i = false → Ev XSh mX0_isClosed 35 [.ref 19, x, .int sh, .int sin, .int wo, .int (nI i)] [] M (RetI (bI (!(clA M sin wo n) && (sin != 0))) M)
  | 0, i, h, hk => by
    refine ev_iload 37 dX0_isClosed_35 rfl rfl ?_
    refine ev_aload_n 38 dX0_isClosed_37 rfl rfl ?_
    refine ev_getR 41 dX0_isClosed_38 rfl flX0_18 rfl rfl ?_
    refine ev_getIv 44 (nI n) dX0_isClosed_41 rfl flX0_49 rfl rfl hsz ?_
    refine ev_icmp_geN 47 81 dX0_isClosed_44 (by decide) rfl (by omega) (by omega) (fun c44 => ?_) (fun c44 => ?_)
    · refine ev_iload_n 82 dX0_isClosed_81 rfl rfl ?_
      refine ev_if_eq 85 89 dX0_isClosed_82 (by decide) rfl (fun c82 => ?_) (fun c82 => ?_)
      · refine ev_iconst 90 (nI 0) dX0_isClosed_89 (by decide) rfl ?_
        exact ev_zret dX0_isClosed_90 rfl (Or.inl rfl) (⟨by rw [show i = n by omega] at hk; rw [hk, c82]; rfl, rfl⟩)
      · refine ev_iconst 86 (nI 1) dX0_isClosed_85 (by decide) rfl ?_
        refine ev_goto 90 dX0_isClosed_86 (by decide) ?_
        exact ev_zret dX0_isClosed_90 rfl (Or.inr rfl) (⟨by rw [show i = n by omega] at hk; rw [hk, bne_iff_ne.mpr c82]; rfl, rfl⟩)
    · omega
  | d + 1, i, h, hk => by
    refine ev_iload 37 dX0_isClosed_35 rfl rfl ?_
    refine ev_aload_n 38 dX0_isClosed_37 rfl rfl ?_
    refine ev_getR 41 dX0_isClosed_38 rfl flX0_18 rfl rfl ?_
    refine ev_getIv 44 (nI n) dX0_isClosed_41 rfl flX0_49 rfl rfl hsz ?_
    refine ev_icmp_geN 47 81 dX0_isClosed_44 (by decide) rfl (by omega) (by omega) (fun c44 => ?_) (fun c44 => ?_)
    · omega
    · refine ev_iload_n 48 dX0_isClosed_47 rfl rfl ?_
      refine ev_iload 50 dX0_isClosed_48 rfl rfl ?_
      refine ev_cS2I (bI (bt sin i)) M 53 dX0_isClosed_50 mlX0_56 moX7_holds rfl smX7_holds (Nat.le_of_ble_eq_true rfl) (Nat.le_of_ble_eq_true rfl) rfl (by have := s_holds (Sh := XSh) (M := M) sin (nI i); rwa [hB_nI (by omega)] at this) ?_
      refine ev_if_eqB 56 75 dX0_isClosed_53 (by decide) rfl (fun c53 => ?_) (fun c53 => ?_)
      · refine ev_iincN 78 _ dX0_isClosed_75 rfl (by decide) rfl rfl rfl ?_
        refine ev_goto 35 dX0_isClosed_78 (by decide) ?_
        exact s_X0_isClosed_k hn hsz x sh sin wo d (i + 1) (by omega) (by rw [clA, hk, c53]; rfl)
      · refine ev_iload 58 dX0_isClosed_56 rfl rfl ?_
        refine ev_aload_n 59 dX0_isClosed_58 rfl rfl ?_
        refine ev_getR 62 dX0_isClosed_59 rfl flX0_18 rfl rfl ?_
        refine ev_iload 64 dX0_isClosed_62 rfl rfl ?_
        refine ev_cV1I (obb M i) M 67 dX0_isClosed_64 mlX0_106 moX2_openedByButton rfl imX2_openedByButton ⟨_, _, rfl, rfl, rfl⟩ (Nat.le_of_ble_eq_true rfl) (Nat.le_of_ble_eq_true rfl) rfl (by have := s_X2_openedByButton (X := XS0) (M := M) (nI i); rwa [hB_nI (by omega), nI_clamp (by omega)] at this) ?_
        refine ev_cS2I _ M 70 dX0_isClosed_67 mlX0_56 moX7_holds rfl smX7_holds (Nat.le_of_ble_eq_true rfl) (Nat.le_of_ble_eq_true rfl) rfl (s_holds _ _) ?_
        refine ev_if_eqB 73 75 dX0_isClosed_70 (by decide) rfl (fun c70 => ?_) (fun c70 => ?_)
        · refine ev_iincN 78 _ dX0_isClosed_75 rfl (by decide) rfl rfl rfl ?_
          refine ev_goto 35 dX0_isClosed_78 (by decide) ?_
          exact s_X0_isClosed_k hn hsz x sh sin wo d (i + 1) (by omega) (by rw [clA, hk, c53, c70]; rfl)
        · refine ev_iconst 74 (nI 0) dX0_isClosed_73 (by decide) rfl ?_
          exact ev_zret dX0_isClosed_74 rfl (Or.inl rfl) (⟨by rw [clA_yes (k := i) (by omega) c53 c70]; rfl, rfl⟩)
theorem s_X0_isClosed {M : Mm} {n a : Nat} (hn : n ≤ 24) (hsz : M 0 5 = nI n) (ha : a < n) (sh : Int32) : Ct XSh mX0_isClosed [.ref 19, .int (nI a), .int sh] M (RetI (bI (clsF M n sh a)) M) := by
  show Ev _ _ 0 [.ref 19, .int (nI a), .int sh, .null, .null, .null] [] M _
  refine ev_aload_n 1 dX0_isClosed_0 rfl rfl ?_
  refine ev_getR 4 dX0_isClosed_1 rfl flX0_18 rfl rfl ?_
  refine ev_iload_n 5 dX0_isClosed_4 rfl rfl ?_
  refine ev_cV1I _ M 8 dX0_isClosed_5 mlX0_91 moX2_stopsAmong rfl imX2_stopsAmong ⟨_, _, rfl, rfl, rfl⟩ (Nat.le_of_ble_eq_true rfl) (Nat.le_of_ble_eq_true rfl) rfl (s_X2_stopsAmong sh) ?_
  refine ev_aload_n 9 dX0_isClosed_8 rfl rfl ?_
  refine ev_getR 12 dX0_isClosed_9 rfl flX0_18 rfl rfl ?_
  refine ev_iload_n 13 dX0_isClosed_12 rfl rfl ?_
  refine ev_cV1I (M 3 a) M 16 dX0_isClosed_13 mlX0_100 moX2_withinOf rfl imX2_withinOf ⟨_, _, rfl, rfl, rfl⟩ (Nat.le_of_ble_eq_true rfl) (Nat.le_of_ble_eq_true rfl) rfl (s_X2_withinOfN hn hsz ha) ?_
  refine ev_iand 17 dX0_isClosed_16 rfl ?_
  refine ev_istore_n 18 _ dX0_isClosed_17 (by decide) rfl rfl rfl ?_
  refine ev_aload_n 19 dX0_isClosed_18 rfl rfl ?_
  refine ev_getR 22 dX0_isClosed_19 rfl flX0_18 rfl rfl ?_
  refine ev_iload_n 23 dX0_isClosed_22 rfl rfl ?_
  refine ev_cV1I (M 2 a) M 26 dX0_isClosed_23 mlX0_103 moX2_aroundOf rfl imX2_aroundOf ⟨_, _, rfl, rfl, rfl⟩ (Nat.le_of_ble_eq_true rfl) (Nat.le_of_ble_eq_true rfl) rfl (s_X2_aroundOfN hn hsz ha) ?_
  refine ev_iconst 27 (nI 1) dX0_isClosed_26 (by decide) rfl ?_
  refine ev_iload_n 28 dX0_isClosed_27 rfl rfl ?_
  refine ev_ishl 29 dX0_isClosed_28 rfl ?_
  refine ev_ior 30 dX0_isClosed_29 rfl ?_
  refine ev_istore 32 _ dX0_isClosed_30 (by decide) rfl rfl rfl ?_
  refine ev_iconst 33 (nI 0) dX0_isClosed_32 (by decide) rfl ?_
  refine ev_istore 35 _ dX0_isClosed_33 (by decide) rfl rfl rfl ?_
  exact s_X0_isClosed_k hn hsz _ sh _ _ n 0 (by omega) rfl
def fltF (M : Mm) (n : Nat) (ns : Nat → List Int32) (as sh : Int32) (a s : Nat) : Bool := match s with
  | 0 => nmlF M (ns a) a
  | 1 => twnF M ns sh a
  | 2 => palH (M 1) a
  | 3 => (M 1 (a * 18 + 10) == nI 5) && clsF M n sh a
  | 4 => bt as a
  | _ => shrtH (M 1) a
theorem s_X0_hasFault {M : Mm} {n a s : Nat} {ns : Nat → List Int32} (hn : n ≤ 24) (hsz : M 0 5 = nI n) (ha : a < n) (hs : s < 6) (hns : ∀ q, q ≤ a → nmAt M 7 8 q (ns q)) (hz : ∀ q, q ≤ a → nz (ns q)) (hc : colOK (M 1) a) (as sh : Int32) (has : M 9 3 = as) : Ct XSh mX0_hasFault [.ref 19, .int (nI a), .int (nI s), .int sh] M (RetI (bI (fltF M n ns as sh a s)) M) := by
  show Ev _ _ 0 [.ref 19, .int (nI a), .int (nI s), .int sh] [] M _
  refine ev_iload_n 1 dX0_hasFault_0 rfl rfl ?_
  rcases (show s = 0 ∨ s = 1 ∨ s = 2 ∨ s = 3 ∨ s = 4 ∨ s = 5 by omega) with rfl | rfl | rfl | rfl | rfl | rfl
  · refine ev_tabIn 36 dX0_hasFault_1 (by decide) (by decide) rfl (by decide) ?_
    refine ev_aload_n 37 dX0_hasFault_36 rfl rfl ?_
    refine ev_iload_n 38 dX0_hasFault_37 rfl rfl ?_
    refine ev_cV1I _ M 41 dX0_hasFault_38 mlX0_64 moX0_isNameless rfl imX0_isNameless ⟨_, _, rfl, rfl, rfl⟩ (Nat.le_of_ble_eq_true rfl) (Nat.le_of_ble_eq_true rfl) rfl (s_X0_isNameless hn hsz ha (hns a (Nat.le_refl _))) ?_
    exact ev_zretB dX0_hasFault_41 rfl (⟨rfl, rfl⟩)
  · refine ev_tabIn 42 dX0_hasFault_1 (by decide) (by decide) rfl (by decide) ?_
    refine ev_aload_n 43 dX0_hasFault_42 rfl rfl ?_
    refine ev_iload_n 44 dX0_hasFault_43 rfl rfl ?_
    refine ev_iload_n 45 dX0_hasFault_44 rfl rfl ?_
    refine ev_cV2I _ M 48 dX0_hasFault_45 mlX0_68 moX0_isTwin rfl imX0_isTwin ⟨_, _, rfl, rfl, rfl⟩ (Nat.le_of_ble_eq_true rfl) (Nat.le_of_ble_eq_true rfl) rfl (s_X0_isTwin hn hsz ha hns hz sh) ?_
    exact ev_zretB dX0_hasFault_48 rfl (⟨rfl, rfl⟩)
  · refine ev_tabIn 49 dX0_hasFault_1 (by decide) (by decide) rfl (by decide) ?_
    refine ev_aload_n 50 dX0_hasFault_49 rfl rfl ?_
    refine ev_iload_n 51 dX0_hasFault_50 rfl rfl ?_
    refine ev_cV1I _ M 54 dX0_hasFault_51 mlX0_71 moX0_isPale rfl imX0_isPale ⟨_, _, rfl, rfl, rfl⟩ (Nat.le_of_ble_eq_true rfl) (Nat.le_of_ble_eq_true rfl) rfl (s_X0_isPale (by omega) hc) ?_
    exact ev_zretB dX0_hasFault_54 rfl (⟨rfl, rfl⟩)
  · refine ev_tabIn 55 dX0_hasFault_1 (by decide) (by decide) rfl (by decide) ?_
    refine ev_aload_n 56 dX0_hasFault_55 rfl rfl ?_
    refine ev_getR 59 dX0_hasFault_56 rfl flX0_18 rfl rfl ?_
    refine ev_iload_n 60 dX0_hasFault_59 rfl rfl ?_
    refine ev_bipush 62 (nI 10) dX0_hasFault_60 (by decide) rfl ?_
    refine ev_cV2I (M 1 (a * 18 + 10)) M 65 dX0_hasFault_62 mlX0_74 moX2_get rfl imX2_get ⟨_, _, rfl, rfl, rfl⟩ (Nat.le_of_ble_eq_true rfl) (Nat.le_of_ble_eq_true rfl) rfl (s_X2_get (a := a) (b := 10) (by omega) (by omega)) ?_
    refine ev_iconst 66 (nI 5) dX0_hasFault_65 (by decide) rfl ?_
    refine ev_icmp_ne 69 82 dX0_hasFault_66 (by decide) rfl (fun c66 => ?_) (fun c66 => ?_)
    · refine ev_iconst 83 (nI 0) dX0_hasFault_82 (by decide) rfl ?_
      exact ev_zret dX0_hasFault_83 rfl (Or.inl rfl) (⟨by rw [show fltF M n ns as sh a 3 = ((M 1 (a * 18 + 10) == nI 5) && clsF M n sh a) from rfl, beq_eq_false_iff_ne.mpr c66]; rfl, rfl⟩)
    · refine ev_aload_n 70 dX0_hasFault_69 rfl rfl ?_
      refine ev_iload_n 71 dX0_hasFault_70 rfl rfl ?_
      refine ev_iload_n 72 dX0_hasFault_71 rfl rfl ?_
      refine ev_cV2I _ M 75 dX0_hasFault_72 mlX0_78 moX0_isClosed rfl imX0_isClosed ⟨_, _, rfl, rfl, rfl⟩ (Nat.le_of_ble_eq_true rfl) (Nat.le_of_ble_eq_true rfl) rfl (s_X0_isClosed hn hsz ha sh) ?_
      refine ev_if_eqB 78 82 dX0_hasFault_75 (by decide) rfl (fun c75 => ?_) (fun c75 => ?_)
      · refine ev_iconst 83 (nI 0) dX0_hasFault_82 (by decide) rfl ?_
        exact ev_zret dX0_hasFault_83 rfl (Or.inl rfl) (⟨by rw [show fltF M n ns as sh a 3 = ((M 1 (a * 18 + 10) == nI 5) && clsF M n sh a) from rfl, beq_iff_eq.mpr c66, c75]; rfl, rfl⟩)
      · refine ev_iconst 79 (nI 1) dX0_hasFault_78 (by decide) rfl ?_
        refine ev_goto 83 dX0_hasFault_79 (by decide) ?_
        exact ev_zret dX0_hasFault_83 rfl (Or.inr rfl) (⟨by rw [show fltF M n ns as sh a 3 = ((M 1 (a * 18 + 10) == nI 5) && clsF M n sh a) from rfl, beq_iff_eq.mpr c66, c75]; rfl, rfl⟩)
  · refine ev_tabIn 84 dX0_hasFault_1 (by decide) (by decide) rfl (by decide) ?_
    refine ev_aload_n 85 dX0_hasFault_84 rfl rfl ?_
    refine ev_getR 88 dX0_hasFault_85 rfl flX0_26 rfl rfl ?_
    refine ev_getIv 91 as dX0_hasFault_88 rfl flX0_81 rfl rfl has ?_
    refine ev_iload_n 92 dX0_hasFault_91 rfl rfl ?_
    refine ev_cS2I (bI (bt as a)) M 95 dX0_hasFault_92 mlX0_56 moX7_holds rfl smX7_holds (Nat.le_of_ble_eq_true rfl) (Nat.le_of_ble_eq_true rfl) rfl (by have := s_holds (Sh := XSh) (M := M) as (nI a); rwa [hB_nI (by omega)] at this) ?_
    exact ev_zretB dX0_hasFault_95 rfl (⟨rfl, rfl⟩)
  · refine ev_tabOut 96 dX0_hasFault_1 (by decide) (by decide) ?_
    refine ev_aload_n 97 dX0_hasFault_96 rfl rfl ?_
    refine ev_iload_n 98 dX0_hasFault_97 rfl rfl ?_
    refine ev_cV1I _ M 101 dX0_hasFault_98 mlX0_84 moX0_isShort rfl imX0_isShort ⟨_, _, rfl, rfl, rfl⟩ (Nat.le_of_ble_eq_true rfl) (Nat.le_of_ble_eq_true rfl) rfl (s_X0_isShort (by omega)) ?_
    exact ev_zretB dX0_hasFault_101 rfl (⟨rfl, rfl⟩)
def pr1 (l : List (Nat × Nat)) (i : Nat) : Nat := (l.getD i (0, 0)).1
def pr2 (l : List (Nat × Nat)) (i : Nat) : Nat := (l.getD i (0, 0)).2
def wAt (M : Mm) (l : List (Nat × Nat)) : Prop := M 19 5 = nI l.length ∧ l.length ≤ 144 ∧ ∀ i, i < l.length → M 20 i = nI (pr1 l i) ∧ M 21 i = nI (pr2 l i)
def w1F (l : List (Nat × Nat)) (k : Int32) : Int32 := if inB k l.length then nI (pr1 l k.toNatClampNeg) else -1
def w2F (l : List (Nat × Nat)) (k : Int32) : Int32 := if inB k l.length then nI (pr2 l k.toNatClampNeg) else -1
theorem inB_in {k : Int32} {n : Nat} (hn : n < 2 ^ 31) (c1 : ¬ k < 0) (c2 : ¬ nI n ≤ k) : inB k n = true := decide_eq_true (by rw [int_lt0] at c1; rw [Int32.le_iff_toInt_le, nI_toInt hn] at c2; omega)
theorem inB_out {k : Int32} {n : Nat} (hn : n < 2 ^ 31) (c2 : nI n ≤ k) : inB k n = false := decide_eq_false (by rw [Int32.le_iff_toInt_le, nI_toInt hn] at c2; omega)
theorem s_X0_partAt {M : Mm} {l : List (Nat × Nat)} (k : Int32) (hl : wAt M l) : Ct XSh mX0_partAt [.ref 19, .int k] M (RetI (w1F l k) M) := by
  have hle := hl.2.1
  show Ev _ _ 0 [.ref 19, .int k] [] M _
  refine ev_iload_n 1 dX0_partAt_0 rfl rfl ?_
  refine ev_if_lt 4 21 dX0_partAt_1 (by decide) rfl (fun c1 => ?_) (fun c1 => ?_)
  · refine ev_iconst 22 (-1) dX0_partAt_21 (by decide) rfl ?_
    exact ev_iret dX0_partAt_22 rfl (⟨by rw [w1F, if_neg (by rw [inB_lt c1]; decide)], rfl⟩)
  · refine ev_iload_n 5 dX0_partAt_4 rfl rfl ?_
    refine ev_aload_n 6 dX0_partAt_5 rfl rfl ?_
    refine ev_getIv 9 _ dX0_partAt_6 rfl flX0_30 rfl rfl hl.1 ?_
    refine ev_icmp_ge 12 21 dX0_partAt_9 (by decide) rfl (fun c9 => ?_) (fun c9 => ?_)
    · refine ev_iconst 22 (-1) dX0_partAt_21 (by decide) rfl ?_
      exact ev_iret dX0_partAt_22 rfl (⟨by rw [w1F, if_neg (by rw [inB_out (by omega) c9]; decide)], rfl⟩)
    · obtain ⟨j, hj, rfl⟩ := inB_of (x := k) (n := l.length) (inB_in (by omega) c1 c9) (by omega)
      refine ev_aload_n 13 dX0_partAt_12 rfl rfl ?_
      refine ev_getR 16 dX0_partAt_13 rfl flX0_9 rfl rfl ?_
      refine ev_iload_n 17 dX0_partAt_16 rfl rfl ?_
      refine ev_iaN 18 _ dX0_partAt_17 rfl (by omega) (by decide) rfl (hl.2.2 j hj).1 ?_
      refine ev_goto 22 dX0_partAt_18 (by decide) ?_
      exact ev_iret dX0_partAt_22 rfl (⟨by rw [w1F, inB_nI (by omega), if_pos (decide_eq_true hj), nI_clamp (by omega)], rfl⟩)
theorem s_X0_sortAt {M : Mm} {l : List (Nat × Nat)} (k : Int32) (hl : wAt M l) : Ct XSh mX0_sortAt [.ref 19, .int k] M (RetI (w2F l k) M) := by
  have hle := hl.2.1
  show Ev _ _ 0 [.ref 19, .int k] [] M _
  refine ev_iload_n 1 dX0_sortAt_0 rfl rfl ?_
  refine ev_if_lt 4 21 dX0_sortAt_1 (by decide) rfl (fun c1 => ?_) (fun c1 => ?_)
  · refine ev_iconst 22 (-1) dX0_sortAt_21 (by decide) rfl ?_
    exact ev_iret dX0_sortAt_22 rfl (⟨by rw [w2F, if_neg (by rw [inB_lt c1]; decide)], rfl⟩)
  · refine ev_iload_n 5 dX0_sortAt_4 rfl rfl ?_
    refine ev_aload_n 6 dX0_sortAt_5 rfl rfl ?_
    refine ev_getIv 9 _ dX0_sortAt_6 rfl flX0_30 rfl rfl hl.1 ?_
    refine ev_icmp_ge 12 21 dX0_sortAt_9 (by decide) rfl (fun c9 => ?_) (fun c9 => ?_)
    · refine ev_iconst 22 (-1) dX0_sortAt_21 (by decide) rfl ?_
      exact ev_iret dX0_sortAt_22 rfl (⟨by rw [w2F, if_neg (by rw [inB_out (by omega) c9]; decide)], rfl⟩)
    · obtain ⟨j, hj, rfl⟩ := inB_of (x := k) (n := l.length) (inB_in (by omega) c1 c9) (by omega)
      refine ev_aload_n 13 dX0_sortAt_12 rfl rfl ?_
      refine ev_getR 16 dX0_sortAt_13 rfl flX0_15 rfl rfl ?_
      refine ev_iload_n 17 dX0_sortAt_16 rfl rfl ?_
      refine ev_iaN 18 _ dX0_sortAt_17 rfl (by omega) (by decide) rfl (hl.2.2 j hj).2 ?_
      refine ev_goto 22 dX0_sortAt_18 (by decide) ?_
      exact ev_iret dX0_sortAt_22 rfl (⟨by rw [w2F, inB_nI (by omega), if_pos (decide_eq_true hj), nI_clamp (by omega)], rfl⟩)
