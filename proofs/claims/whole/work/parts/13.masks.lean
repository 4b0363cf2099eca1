/-! Parts: masks and what they are made of -/
def mkM (P : Nat → Bool) : Nat → Int32
  | 0 => 0
  | k + 1 => if P k then mkM P k ||| (nI 1 <<< (nI k &&& 31)) else mkM P k
theorem bt_1shl {k i : Nat} (hk : k < 32) (hi : i < 32) : bt (nI 1 <<< (nI k &&& 31)) i = decide (i = k) := by
  rw [b_shl k hk _ hi, show nI 1 = 1 from rfl, bt_one]
  by_cases e : i = k
  · subst e; simp
  · by_cases q : k ≤ i
    · simp [q, e]; omega
    · simp [q, e]
theorem bt_mkM (P : Nat → Bool) {i : Nat} (hi : i < 32) : ∀ {k : Nat}, k ≤ 32 → bt (mkM P k) i = (decide (i < k) && P i)
  | 0, _ => by simp [mkM, b_0]
  | k + 1, hk => by
    have ih := bt_mkM P hi (k := k) (by omega)
    by_cases e : i = k
    · subst e
      cases hp : P i
      · simp [mkM, hp, ih]
      · simp [mkM, hp, ih, b_or, bt_1shl (k := i) (by omega) hi]
    · have e1 : (i < k + 1) = (i < k) := by apply propext; omega
      cases hp : P k
      · simp [mkM, hp, ih, e1]
      · simp [mkM, hp, ih, b_or, bt_1shl (k := k) (by omega) hi, e, e1]
theorem mkM_t {P : Nat → Bool} {k : Nat} (h : P k = true) : mkM P k ||| (nI 1 <<< (nI k &&& 31)) = mkM P (k + 1) := by simp [mkM, h]
theorem mkM_f {P : Nat → Bool} {k : Nat} (h : P k = false) : mkM P (k + 1) = mkM P k := by simp [mkM, h]
theorem nI_one : nI 1 = 1 := rfl
def pm (k : Nat) : Int32 := nI k - 1
theorem pm_s (k : Nat) : pm (k + 1) = nI k := nI_pred k
theorem pm_0 : pm 0 = -1 := by decide +kernel
theorem pm_m (k : Nat) : nI k + Int32.ofInt (-1) = pm k := by unfold pm; rw [Int32.sub_eq_add_neg]; rfl
def lastF (x : Int32) : Nat → Int32
  | 0 => -1
  | k + 1 => if bt x k then nI k else lastF x k
theorem outB {x : Int32} {n : Nat} (h : ¬ inB x (n + 1) = true) : x.toInt < 0 ∨ (n : Int) < x.toInt := by
  by_cases q : x.toInt < 0
  · exact Or.inl q
  · refine Or.inr (Classical.byContradiction fun z => h (decide_eq_true ?_))
    omega

theorem s_lastOf_k {Sh : Shp} {M : Mm} (x : Int32) : ∀ k, k ≤ 24 → Ev Sh mX7_lastOf 3 [.int x, .int (pm k)] [] M (RetI (lastF x k) M)
  | 0, _ => by
    rw [pm_0]
    refine ev_iload_n 4 dX7_lastOf_3 rfl rfl ?_
    refine ev_if_lt 7 23 dX7_lastOf_4 (by decide) rfl (fun c4 => ?_) (fun c4 => ?_)
    · refine ev_iconst 24 (-1) dX7_lastOf_23 (by decide) rfl ?_
      exact ev_iret dX7_lastOf_24 rfl (⟨rfl, rfl⟩)
    · exact absurd (by decide) c4
  | k + 1, hk => by
    have ih := s_lastOf_k (Sh := Sh) (M := M) x k (by omega)
    rw [pm_s]
    refine ev_iload_n 4 dX7_lastOf_3 rfl rfl ?_
    refine ev_if_ltN 7 23 dX7_lastOf_4 (by decide) rfl (by omega) ?_
    refine ev_iload_n 8 dX7_lastOf_7 rfl rfl ?_
    refine ev_iload_n 9 dX7_lastOf_8 rfl rfl ?_
    refine ev_ishr 10 dX7_lastOf_9 rfl ?_
    refine ev_iconst 11 (nI 1) dX7_lastOf_10 (by decide) rfl ?_
    refine ev_iand 12 dX7_lastOf_11 rfl ?_
    refine ev_eqI (bt_bit x (by omega)) ?_
    refine ev_if_eqB 15 17 dX7_lastOf_12 (by decide) rfl (fun c12 => ?_) (fun c12 => ?_)
    · refine ev_iinc 20 _ (pm k) dX7_lastOf_17 rfl (pm_m k) (by decide) rfl rfl rfl ?_
      refine ev_goto 3 dX7_lastOf_20 (by decide) ?_
      rw [show lastF x (k + 1) = lastF x k from by simp [lastF, c12]]
      exact ih
    · refine ev_iload_n 16 dX7_lastOf_15 rfl rfl ?_
      exact ev_iret dX7_lastOf_16 rfl (⟨by simp [lastF, c12], rfl⟩)
theorem s_lastOf {Sh : Shp} {M : Mm} (x : Int32) : Ct Sh mX7_lastOf [.int x] M (RetI (lastF x 24) M) := by
  show Ev _ _ 0 [.int x, .null] [] M _
  refine ev_bipush 2 (nI 23) dX7_lastOf_0 (by decide) rfl ?_
  refine ev_istore_n 3 _ dX7_lastOf_2 (by decide) rfl rfl rfl ?_
  exact s_lastOf_k x 24 (Nat.le_refl _)
def hidP (M : Mm) (i : Nat) : Bool := M 1 (i * 18 + 5) != 0
theorem s_X2_hiddenNow_k {X : Shp} {M : Mm} {n : Nat} (hn : n ≤ 24) (hsz : M 0 5 = nI n) : ∀ d i, i + d = n → Ev (PSh ++ X) mX2_hiddenNow 4 [.ref 0, .int (mkM (hidP M) i), .int (nI i)] [] M (RetI (mkM (hidP M) n) M)
  | 0, i, h => by
    have hi : n = i := by omega
    subst hi
    refine ev_iload_n 5 dX2_hiddenNow_4 rfl rfl ?_
    refine ev_aload_n 6 dX2_hiddenNow_5 rfl rfl ?_
    refine ev_getIv 9 (nI n) dX2_hiddenNow_6 rfl flX2_27 rfl rfl hsz ?_
    refine ev_icmp_geN 12 33 dX2_hiddenNow_9 (by decide) rfl (by omega) (by omega) (fun c9 => ?_) (fun c9 => ?_)
    · refine ev_iload_n 34 dX2_hiddenNow_33 rfl rfl ?_
      exact ev_iret dX2_hiddenNow_34 rfl (⟨rfl, rfl⟩)
    · omega
  | d + 1, i, h => by
    have ih := s_X2_hiddenNow_k (X := X) hn hsz d (i + 1) (by omega)
    refine ev_iload_n 5 dX2_hiddenNow_4 rfl rfl ?_
    refine ev_aload_n 6 dX2_hiddenNow_5 rfl rfl ?_
    refine ev_getIv 9 (nI n) dX2_hiddenNow_6 rfl flX2_27 rfl rfl hsz ?_
    refine ev_icmp_geN 12 33 dX2_hiddenNow_9 (by decide) rfl (by omega) (by omega) (fun c9 => ?_) (fun c9 => ?_)
    · omega
    · refine ev_aload_n 13 dX2_hiddenNow_12 rfl rfl ?_
      refine ev_iload_n 14 dX2_hiddenNow_13 rfl rfl ?_
      refine ev_iconst 15 (nI 5) dX2_hiddenNow_14 (by decide) rfl ?_
      refine ev_cV2I (M 1 (i * 18 + 5)) M 18 dX2_hiddenNow_15 mlX2_70 moX2_get rfl imX2_get ⟨_, _, rfl, rfl, rfl⟩ (Nat.le_of_ble_eq_true rfl) (Nat.le_of_ble_eq_true rfl) rfl (s_X2_get (a := i) (b := 5) (by omega) (by omega)) ?_
      refine ev_if_eq 21 27 dX2_hiddenNow_18 (by decide) rfl (fun c18 => ?_) (fun c18 => ?_)
      · rw [mkM_f (P := hidP M) (by simpa [hidP] using c18)] at ih
        refine ev_iincN 30 _ dX2_hiddenNow_27 rfl (by decide) rfl rfl rfl ?_
        refine ev_goto 4 dX2_hiddenNow_30 (by decide) ?_
        exact ih
      · refine ev_iload_n 22 dX2_hiddenNow_21 rfl rfl ?_
        refine ev_iconst 23 (nI 1) dX2_hiddenNow_22 (by decide) rfl ?_
        refine ev_iload_n 24 dX2_hiddenNow_23 rfl rfl ?_
        refine ev_ishl 25 dX2_hiddenNow_24 rfl ?_
        refine ev_ior 26 dX2_hiddenNow_25 rfl ?_
        refine ev_eqI (mkM_t (P := hidP M) (by simpa [hidP] using c18)) ?_
        refine ev_istore_n 27 _ dX2_hiddenNow_26 (by decide) rfl rfl rfl ?_
        refine ev_iincN 30 _ dX2_hiddenNow_27 rfl (by decide) rfl rfl rfl ?_
        refine ev_goto 4 dX2_hiddenNow_30 (by decide) ?_
        exact ih
theorem s_X2_hiddenNow {X : Shp} {M : Mm} {n : Nat} (hn : n ≤ 24) (hsz : M 0 5 = nI n) : Ct (PSh ++ X) mX2_hiddenNow [.ref 0] M (RetI (mkM (hidP M) n) M) := by
  show Ev _ _ 0 [.ref 0, .null, .null] [] M _
  refine ev_iconst 1 (nI 0) dX2_hiddenNow_0 (by decide) rfl ?_
  refine ev_istore_n 2 _ dX2_hiddenNow_1 (by decide) rfl rfl rfl ?_
  refine ev_iconst 3 (nI 0) dX2_hiddenNow_2 (by decide) rfl ?_
  refine ev_istore_n 4 _ dX2_hiddenNow_3 (by decide) rfl rfl rfl ?_
  exact s_X2_hiddenNow_k hn hsz n 0 (by omega)
def shwP (M : Mm) (hid : Int32) (i : Nat) : Bool := ((M 2 i ||| (nI 1 <<< (nI i &&& 31))) &&& hid) == 0
theorem s_X2_shownUnder_k {X : Shp} {M : Mm} {n : Nat} (hid : Int32) (hn : n ≤ 24) (hsz : M 0 5 = nI n) : ∀ d i (v : Value), i + d = n → Ev (PSh ++ X) mX2_shownUnder 4 [.ref 0, .int hid, .int (mkM (shwP M hid) i), .int (nI i), v] [] M (RetI (mkM (shwP M hid) n) M)
  | 0, i, v, h => by
    have hi : n = i := by omega
    subst hi
    refine ev_iload_n 5 dX2_shownUnder_4 rfl rfl ?_
    refine ev_aload_n 6 dX2_shownUnder_5 rfl rfl ?_
    refine ev_getIv 9 (nI n) dX2_shownUnder_6 rfl flX2_27 rfl rfl hsz ?_
    refine ev_icmp_geN 12 43 dX2_shownUnder_9 (by decide) rfl (by omega) (by omega) (fun c9 => ?_) (fun c9 => ?_)
    · refine ev_iload_n 44 dX2_shownUnder_43 rfl rfl ?_
      exact ev_iret dX2_shownUnder_44 rfl (⟨rfl, rfl⟩)
    · omega
  | d + 1, i, v, h => by
    have ih := fun v => s_X2_shownUnder_k (X := X) hid hn hsz d (i + 1) v (by omega)
    refine ev_iload_n 5 dX2_shownUnder_4 rfl rfl ?_
    refine ev_aload_n 6 dX2_shownUnder_5 rfl rfl ?_
    refine ev_getIv 9 (nI n) dX2_shownUnder_6 rfl flX2_27 rfl rfl hsz ?_
    refine ev_icmp_geN 12 43 dX2_shownUnder_9 (by decide) rfl (by omega) (by omega) (fun c9 => ?_) (fun c9 => ?_)
    · omega
    · refine ev_aload_n 13 dX2_shownUnder_12 rfl rfl ?_
      refine ev_getR 16 dX2_shownUnder_13 rfl flX2_15 rfl rfl ?_
      refine ev_iload_n 17 dX2_shownUnder_16 rfl rfl ?_
      refine ev_iaN 18 _ dX2_shownUnder_17 rfl (by omega) (by decide) rfl rfl ?_
      refine ev_iconst 19 (nI 1) dX2_shownUnder_18 (by decide) rfl ?_
      refine ev_iload_n 20 dX2_shownUnder_19 rfl rfl ?_
      refine ev_ishl 21 dX2_shownUnder_20 rfl ?_
      refine ev_ior 22 dX2_shownUnder_21 rfl ?_
      refine ev_istore 24 _ dX2_shownUnder_22 (by decide) rfl rfl rfl ?_
      refine ev_iload 26 dX2_shownUnder_24 rfl rfl ?_
      refine ev_iload_n 27 dX2_shownUnder_26 rfl rfl ?_
      refine ev_iand 28 dX2_shownUnder_27 rfl ?_
      refine ev_if_ne 31 37 dX2_shownUnder_28 (by decide) rfl (fun c28 => ?_) (fun c28 => ?_)
      · rw [mkM_f (P := shwP M hid) (by simpa [shwP] using c28)] at ih
        refine ev_iincN 40 _ dX2_shownUnder_37 rfl (by decide) rfl rfl rfl ?_
        refine ev_goto 4 dX2_shownUnder_40 (by decide) ?_
        exact ih _
      · refine ev_iload_n 32 dX2_shownUnder_31 rfl rfl ?_
        refine ev_iconst 33 (nI 1) dX2_shownUnder_32 (by decide) rfl ?_
        refine ev_iload_n 34 dX2_shownUnder_33 rfl rfl ?_
        refine ev_ishl 35 dX2_shownUnder_34 rfl ?_
        refine ev_ior 36 dX2_shownUnder_35 rfl ?_
        refine ev_eqI (mkM_t (P := shwP M hid) (by simpa [shwP] using c28)) ?_
        refine ev_istore_n 37 _ dX2_shownUnder_36 (by decide) rfl rfl rfl ?_
        refine ev_iincN 40 _ dX2_shownUnder_37 rfl (by decide) rfl rfl rfl ?_
        refine ev_goto 4 dX2_shownUnder_40 (by decide) ?_
        exact ih _
theorem s_X2_shownUnder {X : Shp} {M : Mm} {n : Nat} (hid : Int32) (hn : n ≤ 24) (hsz : M 0 5 = nI n) : Ct (PSh ++ X) mX2_shownUnder [.ref 0, .int hid] M (RetI (mkM (shwP M hid) n) M) := by
  show Ev _ _ 0 [.ref 0, .int hid, .null, .null, .null] [] M _
  refine ev_iconst 1 (nI 0) dX2_shownUnder_0 (by decide) rfl ?_
  refine ev_istore_n 2 _ dX2_shownUnder_1 (by decide) rfl rfl rfl ?_
  refine ev_iconst 3 (nI 0) dX2_shownUnder_2 (by decide) rfl ?_
  refine ev_istore_n 4 _ dX2_shownUnder_3 (by decide) rfl rfl rfl ?_
  exact s_X2_shownUnder_k hid hn hsz n 0 _ (by omega)
def shN (M : Mm) (n : Nat) : Int32 := mkM (shwP M (mkM (hidP M) n)) n
theorem s_X2_shownNow {X : Shp} {M : Mm} {n : Nat} (hn : n ≤ 24) (hsz : M 0 5 = nI n) : Ct (PSh ++ X) mX2_shownNow [.ref 0] M (RetI (shN M n) M) := by
  show Ev _ _ 0 [.ref 0] [] M _
  refine ev_aload_n 1 dX2_shownNow_0 rfl rfl ?_
  refine ev_aload_n 2 dX2_shownNow_1 rfl rfl ?_
  refine ev_cV0I _ M 5 dX2_shownNow_2 mlX2_73 moX2_hiddenNow rfl imX2_hiddenNow ⟨_, _, rfl, rfl, rfl⟩ (Nat.le_of_ble_eq_true rfl) (Nat.le_of_ble_eq_true rfl) rfl (s_X2_hiddenNow hn hsz) ?_
  refine ev_cV1I _ M 8 dX2_shownNow_5 mlX2_77 moX2_shownUnder rfl imX2_shownUnder ⟨_, _, rfl, rfl, rfl⟩ (Nat.le_of_ble_eq_true rfl) (Nat.le_of_ble_eq_true rfl) rfl (s_X2_shownUnder _ hn hsz) ?_
  exact ev_iret dX2_shownNow_8 rfl (⟨rfl, rfl⟩)
theorem s_X2_stopsAmong {X : Shp} {M : Mm} (x : Int32) : Ct (PSh ++ X) mX2_stopsAmong [.ref 0, .int x] M (RetI (x &&& (M 4 2 ||| M 4 3)) M) := by
  show Ev _ _ 0 [.ref 0, .int x] [] M _
  refine ev_iload_n 1 dX2_stopsAmong_0 rfl rfl ?_
  refine ev_aload_n 2 dX2_stopsAmong_1 rfl rfl ?_
  refine ev_getR 5 dX2_stopsAmong_2 rfl flX2_21 rfl rfl ?_
  refine ev_iconst 6 (nI 2) dX2_stopsAmong_5 (by decide) rfl ?_
  refine ev_iaN 7 _ dX2_stopsAmong_6 rfl (by decide) (by decide) rfl rfl ?_
  refine ev_aload_n 8 dX2_stopsAmong_7 rfl rfl ?_
  refine ev_getR 11 dX2_stopsAmong_8 rfl flX2_21 rfl rfl ?_
  refine ev_iconst 12 (nI 3) dX2_stopsAmong_11 (by decide) rfl ?_
  refine ev_iaN 13 _ dX2_stopsAmong_12 rfl (by decide) (by decide) rfl rfl ?_
  refine ev_ior 14 dX2_stopsAmong_13 rfl ?_
  refine ev_iand 15 dX2_stopsAmong_14 rfl ?_
  exact ev_iret dX2_stopsAmong_15 rfl (⟨rfl, rfl⟩)
theorem s_X2_openedByButton {X : Shp} {M : Mm} (x : Int32) : Ct (PSh ++ X) mX2_openedByButton [.ref 0, .int x] M (RetI (if hB (M 4 2) x then M 1 (x.toNatClampNeg * 18 + 7) else -1) M) := by
  show Ev _ _ 0 [.ref 0, .int x] [] M _
  refine ev_aload_n 1 dX2_openedByButton_0 rfl rfl ?_
  refine ev_getR 4 dX2_openedByButton_1 rfl flX2_21 rfl rfl ?_
  refine ev_iconst 5 (nI 2) dX2_openedByButton_4 (by decide) rfl ?_
  refine ev_iaN 6 _ dX2_openedByButton_5 rfl (by decide) (by decide) rfl rfl ?_
  refine ev_iload_n 7 dX2_openedByButton_6 rfl rfl ?_
  refine ev_cS2I _ M 10 dX2_openedByButton_7 mlX2_47 moX7_holds rfl smX7_holds (Nat.le_of_ble_eq_true rfl) (Nat.le_of_ble_eq_true rfl) rfl (s_holds _ _) ?_
  refine ev_if_eqB 13 23 dX2_openedByButton_10 (by decide) rfl (fun c10 => ?_) (fun c10 => ?_)
  · refine ev_iconst 24 (-1) dX2_openedByButton_23 (by decide) rfl ?_
    exact ev_iret dX2_openedByButton_24 rfl (⟨by first | (rw [if_pos c10, nI_clamp (by omega)]) | (rw [if_neg (by rw [c10]; decide)]), rfl⟩)
  · obtain ⟨a, ha, rfl⟩ := inB_of (x := x) (n := 24) (by simp only [hB, Bool.and_eq_true] at c10; exact c10.1) (by omega)
    refine ev_aload_n 14 dX2_openedByButton_13 rfl rfl ?_
    refine ev_iload_n 15 dX2_openedByButton_14 rfl rfl ?_
    refine ev_bipush 17 (nI 7) dX2_openedByButton_15 (by decide) rfl ?_
    refine ev_cV2I (M 1 (a * 18 + 7)) M 20 dX2_openedByButton_17 mlX2_70 moX2_get rfl imX2_get ⟨_, _, rfl, rfl, rfl⟩ (Nat.le_of_ble_eq_true rfl) (Nat.le_of_ble_eq_true rfl) rfl (s_X2_get (a := a) (b := 7) ha (by omega)) ?_
    refine ev_goto 24 dX2_openedByButton_20 (by decide) ?_
    exact ev_iret dX2_openedByButton_24 rfl (⟨by first | (rw [if_pos c10, nI_clamp (by omega)]) | (rw [if_neg (by rw [c10]; decide)]), rfl⟩)
theorem lastF_0 : ∀ k, lastF 0 k = -1
  | 0 => rfl
  | k + 1 => by rw [lastF, b_0, if_neg (by decide), lastF_0 k]
theorem and_0l (y : Int32) : (0 : Int32) &&& y = 0 := by
  apply b_ext
  intro i hi
  rw [b_and, b_0, Bool.false_and]
theorem s_X2_aroundOf {X : Shp} {M : Mm} {n : Nat} (hn : n ≤ 24) (hsz : M 0 5 = nI n) (x : Int32) : Ct (PSh ++ X) mX2_aroundOf [.ref 0, .int x] M (RetI (if inB x n then M 2 x.toNatClampNeg else 0) M) := by
  show Ev _ _ 0 [.ref 0, .int x] [] M _
  refine ev_iload_n 1 dX2_aroundOf_0 rfl rfl ?_
  refine ev_if_lt 4 21 dX2_aroundOf_1 (by decide) rfl (fun c1 => ?_) (fun c1 => ?_)
  · refine ev_iconst 22 (nI 0) dX2_aroundOf_21 (by decide) rfl ?_
    exact ev_iret dX2_aroundOf_22 rfl (⟨by rw [if_neg (by rw [show inB x n = false from decide_eq_false (by rw [int_lt0] at c1; omega)]; decide)]; rfl, rfl⟩)
  · refine ev_iload_n 5 dX2_aroundOf_4 rfl rfl ?_
    refine ev_aload_n 6 dX2_aroundOf_5 rfl rfl ?_
    refine ev_getIv 9 (nI n) dX2_aroundOf_6 rfl flX2_27 rfl rfl hsz ?_
    refine ev_icmp_ge 12 21 dX2_aroundOf_9 (by decide) rfl (fun c9 => ?_) (fun c9 => ?_)
    · refine ev_iconst 22 (nI 0) dX2_aroundOf_21 (by decide) rfl ?_
      exact ev_iret dX2_aroundOf_22 rfl (⟨by rw [if_neg (by rw [show inB x n = false from decide_eq_false (by rw [Int32.le_iff_toInt_le, nI_toInt (by omega)] at c9; omega)]; decide)]; rfl, rfl⟩)
    · obtain ⟨a, ha, rfl⟩ := inB_of (x := x) (n := n) (decide_eq_true (by rw [int_lt0] at c1; rw [Int32.le_iff_toInt_le, nI_toInt (by omega)] at c9; omega)) (by omega)
      refine ev_aload_n 13 dX2_aroundOf_12 rfl rfl ?_
      refine ev_getR 16 dX2_aroundOf_13 rfl flX2_15 rfl rfl ?_
      refine ev_iload_n 17 dX2_aroundOf_16 rfl rfl ?_
      refine ev_iaN 18 _ dX2_aroundOf_17 rfl (by omega) (by decide) rfl rfl ?_
      refine ev_goto 22 dX2_aroundOf_18 (by decide) ?_
      exact ev_iret dX2_aroundOf_22 rfl (⟨by rw [inB_nI (by omega), if_pos (decide_eq_true ha), nI_clamp (by omega)], rfl⟩)
theorem s_X2_aroundOfN {X : Shp} {M : Mm} {n a : Nat} (hn : n ≤ 24) (hsz : M 0 5 = nI n) (ha : a < n) : Ct (PSh ++ X) mX2_aroundOf [.ref 0, .int (nI a)] M (RetI (M 2 a) M) := by
  have h := s_X2_aroundOf (X := X) hn hsz (nI a)
  rwa [inB_nI (by omega), if_pos (decide_eq_true ha), nI_clamp (by omega)] at h
theorem s_X2_withinOf {X : Shp} {M : Mm} {n : Nat} (hn : n ≤ 24) (hsz : M 0 5 = nI n) (x : Int32) : Ct (PSh ++ X) mX2_withinOf [.ref 0, .int x] M (RetI (if inB x n then M 3 x.toNatClampNeg else 0) M) := by
  show Ev _ _ 0 [.ref 0, .int x] [] M _
  refine ev_iload_n 1 dX2_withinOf_0 rfl rfl ?_
  refine ev_if_lt 4 21 dX2_withinOf_1 (by decide) rfl (fun c1 => ?_) (fun c1 => ?_)
  · refine ev_iconst 22 (nI 0) dX2_withinOf_21 (by decide) rfl ?_
    exact ev_iret dX2_withinOf_22 rfl (⟨by rw [if_neg (by rw [show inB x n = false from decide_eq_false (by rw [int_lt0] at c1; omega)]; decide)]; rfl, rfl⟩)
  · refine ev_iload_n 5 dX2_withinOf_4 rfl rfl ?_
    refine ev_aload_n 6 dX2_withinOf_5 rfl rfl ?_
    refine ev_getIv 9 (nI n) dX2_withinOf_6 rfl flX2_27 rfl rfl hsz ?_
    refine ev_icmp_ge 12 21 dX2_withinOf_9 (by decide) rfl (fun c9 => ?_) (fun c9 => ?_)
    · refine ev_iconst 22 (nI 0) dX2_withinOf_21 (by decide) rfl ?_
      exact ev_iret dX2_withinOf_22 rfl (⟨by rw [if_neg (by rw [show inB x n = false from decide_eq_false (by rw [Int32.le_iff_toInt_le, nI_toInt (by omega)] at c9; omega)]; decide)]; rfl, rfl⟩)
    · obtain ⟨a, ha, rfl⟩ := inB_of (x := x) (n := n) (decide_eq_true (by rw [int_lt0] at c1; rw [Int32.le_iff_toInt_le, nI_toInt (by omega)] at c9; omega)) (by omega)
      refine ev_aload_n 13 dX2_withinOf_12 rfl rfl ?_
      refine ev_getR 16 dX2_withinOf_13 rfl flX2_18 rfl rfl ?_
      refine ev_iload_n 17 dX2_withinOf_16 rfl rfl ?_
      refine ev_iaN 18 _ dX2_withinOf_17 rfl (by omega) (by decide) rfl rfl ?_
      refine ev_goto 22 dX2_withinOf_18 (by decide) ?_
      exact ev_iret dX2_withinOf_22 rfl (⟨by rw [inB_nI (by omega), if_pos (decide_eq_true ha), nI_clamp (by omega)], rfl⟩)
theorem s_X2_withinOfN {X : Shp} {M : Mm} {n a : Nat} (hn : n ≤ 24) (hsz : M 0 5 = nI n) (ha : a < n) : Ct (PSh ++ X) mX2_withinOf [.ref 0, .int (nI a)] M (RetI (M 3 a) M) := by
  have h := s_X2_withinOf (X := X) hn hsz (nI a)
  rwa [inB_nI (by omega), if_pos (decide_eq_true ha), nI_clamp (by omega)] at h
theorem s_X2_trapAround {X : Shp} {M : Mm} {n : Nat} (hn : n ≤ 24) (hsz : M 0 5 = nI n) (x sh : Int32) : Ct (PSh ++ X) mX2_trapAround [.ref 0, .int x, .int sh] M (RetI (if inB x n then lastF ((M 2 x.toNatClampNeg &&& M 4 5) &&& sh) 24 else -1) M) := by
  show Ev _ _ 0 [.ref 0, .int x, .int sh] [] M _
  refine ev_aload_n 1 dX2_trapAround_0 rfl rfl ?_
  refine ev_iload_n 2 dX2_trapAround_1 rfl rfl ?_
  refine ev_cV1I _ M 5 dX2_trapAround_2 mlX2_43 moX2_aroundOf rfl imX2_aroundOf ⟨_, _, rfl, rfl, rfl⟩ (Nat.le_of_ble_eq_true rfl) (Nat.le_of_ble_eq_true rfl) rfl (s_X2_aroundOf hn hsz x) ?_
  refine ev_aload_n 6 dX2_trapAround_5 rfl rfl ?_
  refine ev_getR 9 dX2_trapAround_6 rfl flX2_21 rfl rfl ?_
  refine ev_iconst 10 (nI 5) dX2_trapAround_9 (by decide) rfl ?_
  refine ev_iaN 11 _ dX2_trapAround_10 rfl (by decide) (by decide) rfl rfl ?_
  refine ev_iand 12 dX2_trapAround_11 rfl ?_
  refine ev_iload_n 13 dX2_trapAround_12 rfl rfl ?_
  refine ev_iand 14 dX2_trapAround_13 rfl ?_
  refine ev_cS1I _ M 17 dX2_trapAround_14 mlX2_80 moX7_lastOf rfl smX7_lastOf (Nat.le_of_ble_eq_true rfl) (Nat.le_of_ble_eq_true rfl) rfl (s_lastOf _) ?_
  exact ev_iret dX2_trapAround_17 rfl (⟨by cases inB x n <;> simp [and_0l, lastF_0], rfl⟩)
theorem s_X2_liveAround {X : Shp} {M : Mm} {n : Nat} (hn : n ≤ 24) (hsz : M 0 5 = nI n) (x : Int32) : Ct (PSh ++ X) mX2_liveAround [.ref 0, .int x] M (RetI (if inB x n then lastF (M 2 x.toNatClampNeg &&& M 4 6) 24 else -1) M) := by
  show Ev _ _ 0 [.ref 0, .int x] [] M _
  refine ev_aload_n 1 dX2_liveAround_0 rfl rfl ?_
  refine ev_iload_n 2 dX2_liveAround_1 rfl rfl ?_
  refine ev_cV1I _ M 5 dX2_liveAround_2 mlX2_43 moX2_aroundOf rfl imX2_aroundOf ⟨_, _, rfl, rfl, rfl⟩ (Nat.le_of_ble_eq_true rfl) (Nat.le_of_ble_eq_true rfl) rfl (s_X2_aroundOf hn hsz x) ?_
  refine ev_aload_n 6 dX2_liveAround_5 rfl rfl ?_
  refine ev_getR 9 dX2_liveAround_6 rfl flX2_21 rfl rfl ?_
  refine ev_bipush 11 (nI 6) dX2_liveAround_9 (by decide) rfl ?_
  refine ev_iaN 12 _ dX2_liveAround_11 rfl (by decide) (by decide) rfl rfl ?_
  refine ev_iand 13 dX2_liveAround_12 rfl ?_
  refine ev_cS1I _ M 16 dX2_liveAround_13 mlX2_80 moX7_lastOf rfl smX7_lastOf (Nat.le_of_ble_eq_true rfl) (Nat.le_of_ble_eq_true rfl) rfl (s_lastOf _) ?_
  exact ev_iret dX2_liveAround_16 rfl (⟨by cases inB x n <;> simp [and_0l, lastF_0], rfl⟩)
def opdF (M : Mm) (x : Int32) : Nat → Int32
  | 0 => 0
  | k + 1 => if ¬ nI k = x ∧ ¬ M 1 (k * 18 + 7) = -1 then opdF M x k ||| (nI 1 <<< (M 1 (k * 18 + 7) &&& 31)) else opdF M x k
theorem s_X2_openedBesides_k {X : Shp} {M : Mm} {n : Nat} (x : Int32) (hn : n ≤ 24) (hsz : M 0 5 = nI n) : ∀ d i (v : Value), i + d = n → Ev (PSh ++ X) mX2_openedBesides 4 [.ref 0, .int x, .int (opdF M x i), .int (nI i), v] [] M (RetI (opdF M x n) M)
  | 0, i, v, h => by
    have hi : n = i := by omega
    subst hi
    refine ev_iload_n 5 dX2_openedBesides_4 rfl rfl ?_
    refine ev_aload_n 6 dX2_openedBesides_5 rfl rfl ?_
    refine ev_getIv 9 (nI n) dX2_openedBesides_6 rfl flX2_27 rfl rfl hsz ?_
    refine ev_icmp_geN 12 45 dX2_openedBesides_9 (by decide) rfl (by omega) (by omega) (fun c9 => ?_) (fun c9 => ?_)
    · refine ev_iload_n 46 dX2_openedBesides_45 rfl rfl ?_
      exact ev_iret dX2_openedBesides_46 rfl (⟨rfl, rfl⟩)
    · omega
  | d + 1, i, v, h => by
    have ih := fun v => s_X2_openedBesides_k (X := X) x hn hsz d (i + 1) v (by omega)
    refine ev_iload_n 5 dX2_openedBesides_4 rfl rfl ?_
    refine ev_aload_n 6 dX2_openedBesides_5 rfl rfl ?_
    refine ev_getIv 9 (nI n) dX2_openedBesides_6 rfl flX2_27 rfl rfl hsz ?_
    refine ev_icmp_geN 12 45 dX2_openedBesides_9 (by decide) rfl (by omega) (by omega) (fun c9 => ?_) (fun c9 => ?_)
    · omega
    · refine ev_aload_n 13 dX2_openedBesides_12 rfl rfl ?_
      refine ev_iload_n 14 dX2_openedBesides_13 rfl rfl ?_
      refine ev_bipush 16 (nI 7) dX2_openedBesides_14 (by decide) rfl ?_
      refine ev_cV2I (M 1 (i * 18 + 7)) M 19 dX2_openedBesides_16 mlX2_70 moX2_get rfl imX2_get ⟨_, _, rfl, rfl, rfl⟩ (Nat.le_of_ble_eq_true rfl) (Nat.le_of_ble_eq_true rfl) rfl (s_X2_get (a := i) (b := 7) (by omega) (by omega)) ?_
      refine ev_istore 21 _ dX2_openedBesides_19 (by decide) rfl rfl rfl ?_
      refine ev_iload_n 22 dX2_openedBesides_21 rfl rfl ?_
      refine ev_iload_n 23 dX2_openedBesides_22 rfl rfl ?_
      refine ev_icmp_eq 26 39 dX2_openedBesides_23 (by decide) rfl (fun c23 => ?_) (fun c23 => ?_)
      · rw [show opdF M x (i + 1) = opdF M x i from if_neg (fun z => z.1 c23)] at ih
        refine ev_iincN 42 _ dX2_openedBesides_39 rfl (by decide) rfl rfl rfl ?_
        refine ev_goto 4 dX2_openedBesides_42 (by decide) ?_
        exact ih _
      · refine ev_iload 28 dX2_openedBesides_26 rfl rfl ?_
        refine ev_iconst 29 (-1) dX2_openedBesides_28 (by decide) rfl ?_
        refine ev_icmp_eq 32 39 dX2_openedBesides_29 (by decide) rfl (fun c29 => ?_) (fun c29 => ?_)
        · rw [show opdF M x (i + 1) = opdF M x i from if_neg (fun z => z.2 c29)] at ih
          refine ev_iincN 42 _ dX2_openedBesides_39 rfl (by decide) rfl rfl rfl ?_
          refine ev_goto 4 dX2_openedBesides_42 (by decide) ?_
          exact ih _
        · refine ev_iload_n 33 dX2_openedBesides_32 rfl rfl ?_
          refine ev_iconst 34 (nI 1) dX2_openedBesides_33 (by decide) rfl ?_
          refine ev_iload 36 dX2_openedBesides_34 rfl rfl ?_
          refine ev_ishl 37 dX2_openedBesides_36 rfl ?_
          refine ev_ior 38 dX2_openedBesides_37 rfl ?_
          refine ev_eqI (show _ = opdF M x (i + 1) from (if_pos ⟨c23, c29⟩).symm) ?_
          refine ev_istore_n 39 _ dX2_openedBesides_38 (by decide) rfl rfl rfl ?_
          refine ev_iincN 42 _ dX2_openedBesides_39 rfl (by decide) rfl rfl rfl ?_
          refine ev_goto 4 dX2_openedBesides_42 (by decide) ?_
          exact ih _
theorem s_X2_openedBesides {X : Shp} {M : Mm} {n : Nat} (x : Int32) (hn : n ≤ 24) (hsz : M 0 5 = nI n) : Ct (PSh ++ X) mX2_openedBesides [.ref 0, .int x] M (RetI (opdF M x n) M) := by
  show Ev _ _ 0 [.ref 0, .int x, .null, .null, .null] [] M _
  refine ev_iconst 1 (nI 0) dX2_openedBesides_0 (by decide) rfl ?_
  refine ev_istore_n 2 _ dX2_openedBesides_1 (by decide) rfl rfl rfl ?_
  refine ev_iconst 3 (nI 0) dX2_openedBesides_2 (by decide) rfl ?_
  refine ev_istore_n 4 _ dX2_openedBesides_3 (by decide) rfl rfl rfl ?_
  exact s_X2_openedBesides_k x hn hsz n 0 _ (by omega)
def alw (n : Nat) (w v : Int32) : Bool := if w = nI 0 ∨ w = nI 1 ∨ w = nI 2 then true else if w = nI 3 ∨ w = nI 4 then (v == -1 || inB v n) else if w = nI 5 ∨ w = nI 9 then inB v 2 else if w = nI 6 then inB v 101 else if w = nI 7 then (v == -1 || (v != 0 && inB v n)) else if w = nI 8 then inB v 1001 else false
theorem inB_lt {v : Int32} {n : Nat} (h : v < 0) : inB v n = false := decide_eq_false (by rw [int_lt0] at h; omega)
theorem inB_gt {v : Int32} {k : Nat} (hk : k < 2 ^ 31) (h : nI k < v) : inB v (k + 1) = false := decide_eq_false (by rw [Int32.lt_iff_toInt_lt, nI_toInt hk] at h; omega)
theorem inB_ok {v : Int32} {k : Nat} (hk : k < 2 ^ 31) (h0 : ¬ v < 0) (h : ¬ nI k < v) : inB v (k + 1) = true := decide_eq_true (by rw [int_lt0] at h0; rw [Int32.lt_iff_toInt_lt, nI_toInt hk] at h; omega)
theorem inB_2 {v : Int32} (h0 : ¬ v = 0) (h1 : ¬ v = nI 1) : inB v 2 = false := by
  cases h : inB v 2
  · rfl
  · obtain ⟨j, hj, rfl⟩ := inB_of h (by omega)
    rcases (show j = 0 ∨ j = 1 by omega) with rfl | rfl
    · exact absurd rfl h0
    · exact absurd rfl h1
theorem alw_out {n : Nat} {w v : Int32} (h : ¬ inB w 10 = true) : alw n w v = false := by
  have e : ∀ j, j < 10 → w ≠ nI j := fun j hj z => h (by rw [z, inB_nI (by omega)]; exact decide_eq_true hj)
  simp only [alw, e 0 (by omega), e 1 (by omega), e 2 (by omega), e 3 (by omega), e 4 (by omega), e 5 (by omega), e 6 (by omega), e 7 (by omega), e 8 (by omega), e 9 (by omega), if_false, or_self]

theorem s_X2_allows {X : Shp} {M : Mm} {n : Nat} (hn : n ≤ 24) (hsz : M 0 5 = nI n) (w v : Int32) : Ct (PSh ++ X) mX2_allows [.ref 0, .int w, .int v] M (RetI (bI (alw n w v)) M) := by
  show Ev _ _ 0 [.ref 0, .int w, .int v] [] M _
  refine ev_iload_n 1 dX2_allows_0 rfl rfl ?_
  by_cases hsw : inB w 10 = true
  · obtain ⟨jsw, hjsw, rfl⟩ := inB_of hsw (by omega)
    rcases (show jsw = 0 ∨ jsw = 1 ∨ jsw = 2 ∨ jsw = 3 ∨ jsw = 4 ∨ jsw = 5 ∨ jsw = 6 ∨ jsw = 7 ∨ jsw = 8 ∨ jsw = 9 by omega) with rfl | rfl | rfl | rfl | rfl | rfl | rfl | rfl | rfl | rfl
    · refine ev_tabIn 56 dX2_allows_1 (by decide) (by decide) rfl (by decide) ?_
      refine ev_iconst 57 (nI 1) dX2_allows_56 (by decide) rfl ?_
      exact ev_zret dX2_allows_57 rfl (Or.inr rfl) (⟨by rw [show alw n (nI 0) v = true from rfl]; rfl, rfl⟩)
    · refine ev_tabIn 56 dX2_allows_1 (by decide) (by decide) rfl (by decide) ?_
      refine ev_iconst 57 (nI 1) dX2_allows_56 (by decide) rfl ?_
      exact ev_zret dX2_allows_57 rfl (Or.inr rfl) (⟨by rw [show alw n (nI 1) v = true from rfl]; rfl, rfl⟩)
    · refine ev_tabIn 56 dX2_allows_1 (by decide) (by decide) rfl (by decide) ?_
      refine ev_iconst 57 (nI 1) dX2_allows_56 (by decide) rfl ?_
      exact ev_zret dX2_allows_57 rfl (Or.inr rfl) (⟨by rw [show alw n (nI 2) v = true from rfl]; rfl, rfl⟩)
    · refine ev_tabIn 58 dX2_allows_1 (by decide) (by decide) rfl (by decide) ?_
      refine ev_iload_n 59 dX2_allows_58 rfl rfl ?_
      refine ev_iconst 60 (-1) dX2_allows_59 (by decide) rfl ?_
      refine ev_icmp_eq 63 71 dX2_allows_60 (by decide) rfl (fun c60 => ?_) (fun c60 => ?_)
      · refine ev_iconst 72 (nI 1) dX2_allows_71 (by decide) rfl ?_
        refine ev_goto 76 dX2_allows_72 (by decide) ?_
        exact ev_zret dX2_allows_76 rfl (Or.inr rfl) (⟨by rw [show alw n (nI 3) v = (v == -1 || inB v n) from rfl]; first | (rw [c60]; rfl) | (simp [c60, c68, bI, nI_0, nI_one]), rfl⟩)
      · refine ev_aload_n 64 dX2_allows_63 rfl rfl ?_
        refine ev_iload_n 65 dX2_allows_64 rfl rfl ?_
        refine ev_cV1I _ M 68 dX2_allows_65 mlX2_39 moX2_has rfl imX2_has ⟨_, _, rfl, rfl, rfl⟩ (Nat.le_of_ble_eq_true rfl) (Nat.le_of_ble_eq_true rfl) rfl (s_X2_has hn hsz v) ?_
        refine ev_if_eqB 71 75 dX2_allows_68 (by decide) rfl (fun c68 => ?_) (fun c68 => ?_)
        · refine ev_iconst 76 (nI 0) dX2_allows_75 (by decide) rfl ?_
          exact ev_zret dX2_allows_76 rfl (Or.inl rfl) (⟨by rw [show alw n (nI 3) v = (v == -1 || inB v n) from rfl]; first | (rw [c60]; rfl) | (simp [c60, c68, bI, nI_0, nI_one]), rfl⟩)
        · refine ev_iconst 72 (nI 1) dX2_allows_71 (by decide) rfl ?_
          refine ev_goto 76 dX2_allows_72 (by decide) ?_
          exact ev_zret dX2_allows_76 rfl (Or.inr rfl) (⟨by rw [show alw n (nI 3) v = (v == -1 || inB v n) from rfl]; first | (rw [c60]; rfl) | (simp [c60, c68, bI, nI_0, nI_one]), rfl⟩)
    · refine ev_tabIn 58 dX2_allows_1 (by decide) (by decide) rfl (by decide) ?_
      refine ev_iload_n 59 dX2_allows_58 rfl rfl ?_
      refine ev_iconst 60 (-1) dX2_allows_59 (by decide) rfl ?_
      refine ev_icmp_eq 63 71 dX2_allows_60 (by decide) rfl (fun c60 => ?_) (fun c60 => ?_)
      · refine ev_iconst 72 (nI 1) dX2_allows_71 (by decide) rfl ?_
        refine ev_goto 76 dX2_allows_72 (by decide) ?_
        exact ev_zret dX2_allows_76 rfl (Or.inr rfl) (⟨by rw [show alw n (nI 4) v = (v == -1 || inB v n) from rfl]; first | (rw [c60]; rfl) | (simp [c60, c68, bI, nI_0, nI_one]), rfl⟩)
      · refine ev_aload_n 64 dX2_allows_63 rfl rfl ?_
        refine ev_iload_n 65 dX2_allows_64 rfl rfl ?_
        refine ev_cV1I _ M 68 dX2_allows_65 mlX2_39 moX2_has rfl imX2_has ⟨_, _, rfl, rfl, rfl⟩ (Nat.le_of_ble_eq_true rfl) (Nat.le_of_ble_eq_true rfl) rfl (s_X2_has hn hsz v) ?_
        refine ev_if_eqB 71 75 dX2_allows_68 (by decide) rfl (fun c68 => ?_) (fun c68 => ?_)
        · refine ev_iconst 76 (nI 0) dX2_allows_75 (by decide) rfl ?_
          exact ev_zret dX2_allows_76 rfl (Or.inl rfl) (⟨by rw [show alw n (nI 4) v = (v == -1 || inB v n) from rfl]; first | (rw [c60]; rfl) | (simp [c60, c68, bI, nI_0, nI_one]), rfl⟩)
        · refine ev_iconst 72 (nI 1) dX2_allows_71 (by decide) rfl ?_
          refine ev_goto 76 dX2_allows_72 (by decide) ?_
          exact ev_zret dX2_allows_76 rfl (Or.inr rfl) (⟨by rw [show alw n (nI 4) v = (v == -1 || inB v n) from rfl]; first | (rw [c60]; rfl) | (simp [c60, c68, bI, nI_0, nI_one]), rfl⟩)
    · refine ev_tabIn 100 dX2_allows_1 (by decide) (by decide) rfl (by decide) ?_
      refine ev_iload_n 101 dX2_allows_100 rfl rfl ?_
      refine ev_if_eq 104 109 dX2_allows_101 (by decide) rfl (fun c101 => ?_) (fun c101 => ?_)
      · refine ev_iconst 110 (nI 1) dX2_allows_109 (by decide) rfl ?_
        refine ev_goto 114 dX2_allows_110 (by decide) ?_
        exact ev_zret dX2_allows_114 rfl (Or.inr rfl) (⟨by rw [show alw n (nI 5) v = inB v 2 from rfl]; first | (rw [c101]; rfl) | (rw [inB_2 c101 c106]; rfl) | (rw [c106]; rfl), rfl⟩)
      · refine ev_iload_n 105 dX2_allows_104 rfl rfl ?_
        refine ev_iconst 106 (nI 1) dX2_allows_105 (by decide) rfl ?_
        refine ev_icmp_ne 109 113 dX2_allows_106 (by decide) rfl (fun c106 => ?_) (fun c106 => ?_)
        · refine ev_iconst 114 (nI 0) dX2_allows_113 (by decide) rfl ?_
          exact ev_zret dX2_allows_114 rfl (Or.inl rfl) (⟨by rw [show alw n (nI 5) v = inB v 2 from rfl]; first | (rw [c101]; rfl) | (rw [inB_2 c101 c106]; rfl) | (rw [c106]; rfl), rfl⟩)
        · refine ev_iconst 110 (nI 1) dX2_allows_109 (by decide) rfl ?_
          refine ev_goto 114 dX2_allows_110 (by decide) ?_
          exact ev_zret dX2_allows_114 rfl (Or.inr rfl) (⟨by rw [show alw n (nI 5) v = inB v 2 from rfl]; first | (rw [c101]; rfl) | (rw [inB_2 c101 c106]; rfl) | (rw [c106]; rfl), rfl⟩)
    · refine ev_tabIn 115 dX2_allows_1 (by decide) (by decide) rfl (by decide) ?_
      refine ev_iload_n 116 dX2_allows_115 rfl rfl ?_
      refine ev_if_lt 119 129 dX2_allows_116 (by decide) rfl (fun c116 => ?_) (fun c116 => ?_)
      · refine ev_iconst 130 (nI 0) dX2_allows_129 (by decide) rfl ?_
        exact ev_zret dX2_allows_130 rfl (Or.inl rfl) (⟨by rw [show alw n (nI 6) v = inB v 101 from rfl]; first | (rw [inB_lt c116]; rfl) | (rw [inB_gt (by omega) c122]; rfl) | (rw [inB_ok (k := 100) (by omega) c116 c122]; rfl), rfl⟩)
      · refine ev_iload_n 120 dX2_allows_119 rfl rfl ?_
        refine ev_bipush 122 (nI 100) dX2_allows_120 (by decide) rfl ?_
        refine ev_icmp_gt 125 129 dX2_allows_122 (by decide) rfl (fun c122 => ?_) (fun c122 => ?_)
        · refine ev_iconst 130 (nI 0) dX2_allows_129 (by decide) rfl ?_
          exact ev_zret dX2_allows_130 rfl (Or.inl rfl) (⟨by rw [show alw n (nI 6) v = inB v 101 from rfl]; first | (rw [inB_lt c116]; rfl) | (rw [inB_gt (by omega) c122]; rfl) | (rw [inB_ok (k := 100) (by omega) c116 c122]; rfl), rfl⟩)
        · refine ev_iconst 126 (nI 1) dX2_allows_125 (by decide) rfl ?_
          refine ev_goto 130 dX2_allows_126 (by decide) ?_
          exact ev_zret dX2_allows_130 rfl (Or.inr rfl) (⟨by rw [show alw n (nI 6) v = inB v 101 from rfl]; first | (rw [inB_lt c116]; rfl) | (rw [inB_gt (by omega) c122]; rfl) | (rw [inB_ok (k := 100) (by omega) c116 c122]; rfl), rfl⟩)
    · refine ev_tabIn 77 dX2_allows_1 (by decide) (by decide) rfl (by decide) ?_
      refine ev_iload_n 78 dX2_allows_77 rfl rfl ?_
      refine ev_iconst 79 (-1) dX2_allows_78 (by decide) rfl ?_
      refine ev_icmp_eq 82 94 dX2_allows_79 (by decide) rfl (fun c79 => ?_) (fun c79 => ?_)
      · refine ev_iconst 95 (nI 1) dX2_allows_94 (by decide) rfl ?_
        refine ev_goto 99 dX2_allows_95 (by decide) ?_
        exact ev_zret dX2_allows_99 rfl (Or.inr rfl) (⟨by rw [show alw n (nI 7) v = (v == -1 || (v != 0 && inB v n)) from rfl]; first | (rw [c79]; rfl) | (simp [c79, c83, bI, nI_0, nI_one]; done) | (simp [c79, c83, c91, bI, nI_0, nI_one]), rfl⟩)
      · refine ev_iload_n 83 dX2_allows_82 rfl rfl ?_
        refine ev_if_eq 86 98 dX2_allows_83 (by decide) rfl (fun c83 => ?_) (fun c83 => ?_)
        · refine ev_iconst 99 (nI 0) dX2_allows_98 (by decide) rfl ?_
          exact ev_zret dX2_allows_99 rfl (Or.inl rfl) (⟨by rw [show alw n (nI 7) v = (v == -1 || (v != 0 && inB v n)) from rfl]; first | (rw [c79]; rfl) | (simp [c79, c83, bI, nI_0, nI_one]; done) | (simp [c79, c83, c91, bI, nI_0, nI_one]), rfl⟩)
        · refine ev_aload_n 87 dX2_allows_86 rfl rfl ?_
          refine ev_iload_n 88 dX2_allows_87 rfl rfl ?_
          refine ev_cV1I _ M 91 dX2_allows_88 mlX2_39 moX2_has rfl imX2_has ⟨_, _, rfl, rfl, rfl⟩ (Nat.le_of_ble_eq_true rfl) (Nat.le_of_ble_eq_true rfl) rfl (s_X2_has hn hsz v) ?_
          refine ev_if_eqB 94 98 dX2_allows_91 (by decide) rfl (fun c91 => ?_) (fun c91 => ?_)
          · refine ev_iconst 99 (nI 0) dX2_allows_98 (by decide) rfl ?_
            exact ev_zret dX2_allows_99 rfl (Or.inl rfl) (⟨by rw [show alw n (nI 7) v = (v == -1 || (v != 0 && inB v n)) from rfl]; first | (rw [c79]; rfl) | (simp [c79, c83, bI, nI_0, nI_one]; done) | (simp [c79, c83, c91, bI, nI_0, nI_one]), rfl⟩)
          · refine ev_iconst 95 (nI 1) dX2_allows_94 (by decide) rfl ?_
            refine ev_goto 99 dX2_allows_95 (by decide) ?_
            exact ev_zret dX2_allows_99 rfl (Or.inr rfl) (⟨by rw [show alw n (nI 7) v = (v == -1 || (v != 0 && inB v n)) from rfl]; first | (rw [c79]; rfl) | (simp [c79, c83, bI, nI_0, nI_one]; done) | (simp [c79, c83, c91, bI, nI_0, nI_one]), rfl⟩)
    · refine ev_tabIn 131 dX2_allows_1 (by decide) (by decide) rfl (by decide) ?_
      refine ev_iload_n 132 dX2_allows_131 rfl rfl ?_
      refine ev_if_lt 135 146 dX2_allows_132 (by decide) rfl (fun c132 => ?_) (fun c132 => ?_)
      · refine ev_iconst 147 (nI 0) dX2_allows_146 (by decide) rfl ?_
        exact ev_zret dX2_allows_147 rfl (Or.inl rfl) (⟨by rw [show alw n (nI 8) v = inB v 1001 from rfl]; first | (rw [inB_lt c132]; rfl) | (rw [inB_gt (by omega) c139]; rfl) | (rw [inB_ok (k := 1000) (by omega) c132 c139]; rfl), rfl⟩)
      · refine ev_iload_n 136 dX2_allows_135 rfl rfl ?_
        refine ev_sipush 139 (nI 1000) dX2_allows_136 (by decide) rfl ?_
        refine ev_icmp_gt 142 146 dX2_allows_139 (by decide) rfl (fun c139 => ?_) (fun c139 => ?_)
        · refine ev_iconst 147 (nI 0) dX2_allows_146 (by decide) rfl ?_
          exact ev_zret dX2_allows_147 rfl (Or.inl rfl) (⟨by rw [show alw n (nI 8) v = inB v 1001 from rfl]; first | (rw [inB_lt c132]; rfl) | (rw [inB_gt (by omega) c139]; rfl) | (rw [inB_ok (k := 1000) (by omega) c132 c139]; rfl), rfl⟩)
        · refine ev_iconst 143 (nI 1) dX2_allows_142 (by decide) rfl ?_
          refine ev_goto 147 dX2_allows_143 (by decide) ?_
          exact ev_zret dX2_allows_147 rfl (Or.inr rfl) (⟨by rw [show alw n (nI 8) v = inB v 1001 from rfl]; first | (rw [inB_lt c132]; rfl) | (rw [inB_gt (by omega) c139]; rfl) | (rw [inB_ok (k := 1000) (by omega) c132 c139]; rfl), rfl⟩)
    · refine ev_tabIn 100 dX2_allows_1 (by decide) (by decide) rfl (by decide) ?_
      refine ev_iload_n 101 dX2_allows_100 rfl rfl ?_
      refine ev_if_eq 104 109 dX2_allows_101 (by decide) rfl (fun c101 => ?_) (fun c101 => ?_)
      · refine ev_iconst 110 (nI 1) dX2_allows_109 (by decide) rfl ?_
        refine ev_goto 114 dX2_allows_110 (by decide) ?_
        exact ev_zret dX2_allows_114 rfl (Or.inr rfl) (⟨by rw [show alw n (nI 9) v = inB v 2 from rfl]; first | (rw [c101]; rfl) | (rw [inB_2 c101 c106]; rfl) | (rw [c106]; rfl), rfl⟩)
      · refine ev_iload_n 105 dX2_allows_104 rfl rfl ?_
        refine ev_iconst 106 (nI 1) dX2_allows_105 (by decide) rfl ?_
        refine ev_icmp_ne 109 113 dX2_allows_106 (by decide) rfl (fun c106 => ?_) (fun c106 => ?_)
        · refine ev_iconst 114 (nI 0) dX2_allows_113 (by decide) rfl ?_
          exact ev_zret dX2_allows_114 rfl (Or.inl rfl) (⟨by rw [show alw n (nI 9) v = inB v 2 from rfl]; first | (rw [c101]; rfl) | (rw [inB_2 c101 c106]; rfl) | (rw [c106]; rfl), rfl⟩)
        · refine ev_iconst 110 (nI 1) dX2_allows_109 (by decide) rfl ?_
          refine ev_goto 114 dX2_allows_110 (by decide) ?_
          exact ev_zret dX2_allows_114 rfl (Or.inr rfl) (⟨by rw [show alw n (nI 9) v = inB v 2 from rfl]; first | (rw [c101]; rfl) | (rw [inB_2 c101 c106]; rfl) | (rw [c106]; rfl), rfl⟩)
  · refine ev_tabOut 148 dX2_allows_1 (outB hsw) (by decide) ?_
    refine ev_iconst 149 (nI 0) dX2_allows_148 (by decide) rfl ?_
    exact ev_zret dX2_allows_149 rfl (Or.inl rfl) (⟨by rw [alw_out hsw]; rfl, rfl⟩)
