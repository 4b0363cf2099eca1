/-! turn; contrast -/
theorem lastF_form (x : Int32) : ∀ k, lastF x k = -1 ∨ ∃ j, j < k ∧ lastF x k = nI j
  | 0 => Or.inl rfl
  | k + 1 => by
    unfold lastF
    split
    · exact Or.inr ⟨k, by omega, rfl⟩
    · rcases lastF_form x k with h | ⟨j, hj, h⟩
      · exact Or.inl h
      · exact Or.inr ⟨j, by omega, h⟩
def trpF (M : Mm) (n : Nat) (sh x : Int32) : Int32 := if inB x n then lastF ((M 2 x.toNatClampNeg &&& M 4 5) &&& sh) 24 else -1
theorem trpF_form (M : Mm) (n : Nat) (sh x : Int32) : trpF M n sh x = -1 ∨ ∃ j, j < 24 ∧ trpF M n sh x = nI j := by
  unfold trpF
  split
  · exact lastF_form _ 24
  · exact Or.inl rfl
def amF (M : Mm) (n : Nat) (sh tr : Int32) : Int32 := if tr = -1 then sh else sh &&& (if inB tr n then M 3 tr.toNatClampNeg else 0)
def spK (l : List Nat) (x : Int32) : Nat → Nat
  | 0 => 0
  | d + 1 => if nI (nth l (l.length - (d + 1))) = x then (l.length - (d + 1)) + 1 else spK l x d
theorem spF_pm (l : List Nat) (x : Int32) : ∀ d, spF l x d = pm (spK l x d)
  | 0 => pm_0.symm
  | d + 1 => by
    rw [spF, spK]
    split
    · rw [pm_s]
    · exact spF_pm l x d
theorem spK_le (l : List Nat) (x : Int32) : ∀ d, d ≤ l.length → spK l x d ≤ l.length
  | 0, _ => Nat.zero_le _
  | d + 1, h => by
    rw [spK]
    split
    · omega
    · exact spK_le l x d (by omega)
def nxK (len : Nat) (key : Int32) (k : Nat) : Nat := if key = 0 then nxB len k else nxA len k
theorem nxK_lt {len : Nat} (key : Int32) {k : Nat} (h : 0 < len) (hk : k ≤ len) : nxK len key k < len := by
  unfold nxK nxB nxA
  split <;> split <;> omega
def trnF (l : List Nat) (am key x : Int32) : Nat → Nat → Int32
  | 0, _ => x
  | d + 1, k => if hB am (nI (nth l (nxK l.length key k))) then nI (nth l (nxK l.length key k)) else trnF l am key x d (nxK l.length key k + 1)
def turnF (M : Mm) (n : Nat) (l : List Nat) (sh key x : Int32) : Int32 := trnF l (amF M n sh (trpF M n sh x)) key x l.length (if hB (amF M n sh (trpF M n sh x)) x then spK l x l.length else 0)

theorem s_X5_turn_k {M : Mm} {l : List Nat} (hl : rowAt M 12 11 2 l) (x key sh tr am : Int32) : ∀ d i k, i + d = l.length → k ≤ l.length → Ev XSh mX5_turn 57 [.ref 11, .int x, .int key, .int sh, .int tr, .int am, .int (pm k), .int (nI i)] [] M (RetI (trnF l am key x d k) M)
  | 0, i, k, h, hk => by
    have hle := hl.2.1
    refine ev_iload 59 dX5_turn_57 rfl rfl ?_
    refine ev_aload_n 60 dX5_turn_59 rfl rfl ?_
    refine ev_getIv 63 (nI l.length) dX5_turn_60 rfl flX5_19 rfl rfl hl.1 ?_
    refine ev_icmp_geN 66 116 dX5_turn_63 (by decide) rfl (by omega) (by omega) (fun c63 => ?_) (fun c63 => ?_)
    · refine ev_iload_n 117 dX5_turn_116 rfl rfl ?_
      exact ev_iret dX5_turn_117 rfl (⟨rfl, rfl⟩)
    · omega
  | d + 1, i, k, h, hk => by
    have hle := hl.2.1
    have hj : nxK l.length key k < l.length := nxK_lt key (by omega) hk
    have hnxA : ¬ key = 0 → nI (nxA l.length k) = nI (nxK l.length key k) := fun c => by rw [nxK, if_neg c]
    have hnxB : key = 0 → nI (nxB l.length k) = nI (nxK l.length key k) := fun c => by rw [nxK, if_pos c]
    refine ev_iload 59 dX5_turn_57 rfl rfl ?_
    refine ev_aload_n 60 dX5_turn_59 rfl rfl ?_
    refine ev_getIv 63 (nI l.length) dX5_turn_60 rfl flX5_19 rfl rfl hl.1 ?_
    refine ev_icmp_geN 66 116 dX5_turn_63 (by decide) rfl (by omega) (by omega) (fun c63 => ?_) (fun c63 => ?_)
    · omega
    · refine ev_iload_n 67 dX5_turn_66 rfl rfl ?_
      refine ev_if_ne 70 79 dX5_turn_67 (by decide) rfl (fun c67 => ?_) (fun c67 => ?_)
      · refine ev_aload_n 80 dX5_turn_79 rfl rfl ?_
        refine ev_iload 82 dX5_turn_80 rfl rfl ?_
        refine ev_cV1I _ M 85 dX5_turn_82 mlX5_57 moX5_spotAhead rfl imX5_spotAhead ⟨_, _, rfl, rfl, rfl⟩ (Nat.le_of_ble_eq_true rfl) (Nat.le_of_ble_eq_true rfl) rfl (s_X5_spotAhead hl (by omega) (by omega)) ?_
        refine ev_eqI (hnxA c67) ?_
        refine ev_istore 87 _ dX5_turn_85 (by decide) rfl rfl rfl ?_
        refine ev_iload 89 dX5_turn_87 rfl rfl ?_
        refine ev_aload_n 90 dX5_turn_89 rfl rfl ?_
        refine ev_getR 93 dX5_turn_90 rfl flX5_9 rfl rfl ?_
        refine ev_iload 95 dX5_turn_93 rfl rfl ?_
        refine ev_iaN 96 (nI (nth l (nxK l.length key k))) dX5_turn_95 rfl (by omega) (by decide) rfl (hl.2.2 _ hj) ?_
        refine ev_cS2I _ M 99 dX5_turn_96 mlX5_41 moX7_holds rfl smX7_holds (Nat.le_of_ble_eq_true rfl) (Nat.le_of_ble_eq_true rfl) rfl (s_holds _ _) ?_
        refine ev_if_eqB 102 110 dX5_turn_99 (by decide) rfl (fun c99 => ?_) (fun c99 => ?_)
        · refine ev_iincN 113 _ dX5_turn_110 rfl (by decide) rfl rfl rfl ?_
          refine ev_goto 57 dX5_turn_113 (by decide) ?_
          rw [trnF, if_neg (by rw [c99]; decide)]
          rw [← pm_s (nxK l.length key k)]
          exact s_X5_turn_k hl x key sh tr am d (i + 1) _ (by omega) (by omega)
        · refine ev_aload_n 103 dX5_turn_102 rfl rfl ?_
          refine ev_getR 106 dX5_turn_103 rfl flX5_9 rfl rfl ?_
          refine ev_iload 108 dX5_turn_106 rfl rfl ?_
          refine ev_iaN 109 (nI (nth l (nxK l.length key k))) dX5_turn_108 rfl (by omega) (by decide) rfl (hl.2.2 _ hj) ?_
          exact ev_iret dX5_turn_109 rfl (⟨by rw [trnF, if_pos c99], rfl⟩)
      · refine ev_aload_n 71 dX5_turn_70 rfl rfl ?_
        refine ev_iload 73 dX5_turn_71 rfl rfl ?_
        refine ev_cV1I _ M 76 dX5_turn_73 mlX5_54 moX5_spotBehind rfl imX5_spotBehind ⟨_, _, rfl, rfl, rfl⟩ (Nat.le_of_ble_eq_true rfl) (Nat.le_of_ble_eq_true rfl) rfl (s_X5_spotBehind hl (by omega)) ?_
        refine ev_goto 85 dX5_turn_76 (by decide) ?_
        refine ev_eqI (hnxB c67) ?_
        refine ev_istore 87 _ dX5_turn_85 (by decide) rfl rfl rfl ?_
        refine ev_iload 89 dX5_turn_87 rfl rfl ?_
        refine ev_aload_n 90 dX5_turn_89 rfl rfl ?_
        refine ev_getR 93 dX5_turn_90 rfl flX5_9 rfl rfl ?_
        refine ev_iload 95 dX5_turn_93 rfl rfl ?_
        refine ev_iaN 96 (nI (nth l (nxK l.length key k))) dX5_turn_95 rfl (by omega) (by decide) rfl (hl.2.2 _ hj) ?_
        refine ev_cS2I _ M 99 dX5_turn_96 mlX5_41 moX7_holds rfl smX7_holds (Nat.le_of_ble_eq_true rfl) (Nat.le_of_ble_eq_true rfl) rfl (s_holds _ _) ?_
        refine ev_if_eqB 102 110 dX5_turn_99 (by decide) rfl (fun c99 => ?_) (fun c99 => ?_)
        · refine ev_iincN 113 _ dX5_turn_110 rfl (by decide) rfl rfl rfl ?_
          refine ev_goto 57 dX5_turn_113 (by decide) ?_
          rw [trnF, if_neg (by rw [c99]; decide)]
          rw [← pm_s (nxK l.length key k)]
          exact s_X5_turn_k hl x key sh tr am d (i + 1) _ (by omega) (by omega)
        · refine ev_aload_n 103 dX5_turn_102 rfl rfl ?_
          refine ev_getR 106 dX5_turn_103 rfl flX5_9 rfl rfl ?_
          refine ev_iload 108 dX5_turn_106 rfl rfl ?_
          refine ev_iaN 109 (nI (nth l (nxK l.length key k))) dX5_turn_108 rfl (by omega) (by decide) rfl (hl.2.2 _ hj) ?_
          exact ev_iret dX5_turn_109 rfl (⟨by rw [trnF, if_pos c99], rfl⟩)
theorem s_X5_turn {M : Mm} {n : Nat} {l : List Nat} (hn : n ≤ 24) (hsz : M 0 5 = nI n) (hl : rowAt M 12 11 2 l) (x key sh : Int32) : Ct XSh mX5_turn [.ref 11, .int x, .int key, .int sh] M (RetI (turnF M n l sh key x) M) := by
  have hle := hl.2.1
  unfold turnF
  show Ev _ _ 0 [.ref 11, .int x, .int key, .int sh, .null, .null, .null, .null] [] M _
  refine ev_aload_n 1 dX5_turn_0 rfl rfl ?_
  refine ev_getR 4 dX5_turn_1 rfl flX5_15 rfl rfl ?_
  refine ev_iload_n 5 dX5_turn_4 rfl rfl ?_
  refine ev_iload_n 6 dX5_turn_5 rfl rfl ?_
  refine ev_cV2I (trpF M n sh x) M 9 dX5_turn_6 mlX5_45 moX2_trapAround rfl imX2_trapAround ⟨_, _, rfl, rfl, rfl⟩ (Nat.le_of_ble_eq_true rfl) (Nat.le_of_ble_eq_true rfl) rfl (s_X2_trapAround hn hsz x sh) ?_
  refine ev_istore 11 _ dX5_turn_9 (by decide) rfl rfl rfl ?_
  refine ev_iload 13 dX5_turn_11 rfl rfl ?_
  refine ev_iconst 14 (-1) dX5_turn_13 (by decide) rfl ?_
  refine ev_icmp_ne 17 21 dX5_turn_14 (by decide) rfl (fun c14 => ?_) (fun c14 => ?_)
  · refine ev_iload_n 22 dX5_turn_21 rfl rfl ?_
    refine ev_aload_n 23 dX5_turn_22 rfl rfl ?_
    refine ev_getR 26 dX5_turn_23 rfl flX5_15 rfl rfl ?_
    refine ev_iload 28 dX5_turn_26 rfl rfl ?_
    refine ev_cV1I _ M 31 dX5_turn_28 mlX5_48 moX2_withinOf rfl imX2_withinOf ⟨_, _, rfl, rfl, rfl⟩ (Nat.le_of_ble_eq_true rfl) (Nat.le_of_ble_eq_true rfl) rfl (s_X2_withinOf hn hsz _) ?_
    refine ev_iand 32 dX5_turn_31 rfl ?_
    refine ev_eqI (show (sh &&& if inB (trpF M n sh x) n then M 3 (trpF M n sh x).toNatClampNeg else 0) = amF M n sh (trpF M n sh x) from by rw [amF, if_neg c14]) ?_
    refine ev_istore 34 _ dX5_turn_32 (by decide) rfl rfl rfl ?_
    refine ev_iload 36 dX5_turn_34 rfl rfl ?_
    refine ev_iload_n 37 dX5_turn_36 rfl rfl ?_
    refine ev_cS2I _ M 40 dX5_turn_37 mlX5_41 moX7_holds rfl smX7_holds (Nat.le_of_ble_eq_true rfl) (Nat.le_of_ble_eq_true rfl) rfl (s_holds _ _) ?_
    refine ev_if_eqB 43 51 dX5_turn_40 (by decide) rfl (fun c40 => ?_) (fun c40 => ?_)
    · refine ev_iconst 52 (-1) dX5_turn_51 (by decide) rfl ?_
      refine ev_eqI (show (-1 : Int32) = pm (if hB (amF M n sh (trpF M n sh x)) x then spK l x l.length else 0) from by rw [if_neg (by rw [c40]; decide), pm_0]) ?_
      refine ev_istore 54 _ dX5_turn_52 (by decide) rfl rfl rfl ?_
      refine ev_iconst 55 (nI 0) dX5_turn_54 (by decide) rfl ?_
      refine ev_istore 57 _ dX5_turn_55 (by decide) rfl rfl rfl ?_
      exact s_X5_turn_k hl x key sh _ _ l.length 0 _ (by omega) (by split <;> first | exact spK_le l x _ (Nat.le_refl _) | exact Nat.zero_le _)
    · refine ev_aload_n 44 dX5_turn_43 rfl rfl ?_
      refine ev_iload_n 45 dX5_turn_44 rfl rfl ?_
      refine ev_cV1I _ M 48 dX5_turn_45 mlX5_51 moX5_spotOf rfl imX5_spotOf ⟨_, _, rfl, rfl, rfl⟩ (Nat.le_of_ble_eq_true rfl) (Nat.le_of_ble_eq_true rfl) rfl (s_X5_spotOf hl x) ?_
      refine ev_goto 52 dX5_turn_48 (by decide) ?_
      refine ev_eqI (show spF l x l.length = pm (if hB (amF M n sh (trpF M n sh x)) x then spK l x l.length else 0) from by rw [if_pos c40, spF_pm]) ?_
      refine ev_istore 54 _ dX5_turn_52 (by decide) rfl rfl rfl ?_
      refine ev_iconst 55 (nI 0) dX5_turn_54 (by decide) rfl ?_
      refine ev_istore 57 _ dX5_turn_55 (by decide) rfl rfl rfl ?_
      exact s_X5_turn_k hl x key sh _ _ l.length 0 _ (by omega) (by split <;> first | exact spK_le l x _ (Nat.le_refl _) | exact Nat.zero_le _)
  · refine ev_iload_n 18 dX5_turn_17 rfl rfl ?_
    refine ev_goto 32 dX5_turn_18 (by decide) ?_
    refine ev_eqI (show sh = amF M n sh (trpF M n sh x) from by rw [amF, if_pos c14]) ?_
    refine ev_istore 34 _ dX5_turn_32 (by decide) rfl rfl rfl ?_
    refine ev_iload 36 dX5_turn_34 rfl rfl ?_
    refine ev_iload_n 37 dX5_turn_36 rfl rfl ?_
    refine ev_cS2I _ M 40 dX5_turn_37 mlX5_41 moX7_holds rfl smX7_holds (Nat.le_of_ble_eq_true rfl) (Nat.le_of_ble_eq_true rfl) rfl (s_holds _ _) ?_
    refine ev_if_eqB 43 51 dX5_turn_40 (by decide) rfl (fun c40 => ?_) (fun c40 => ?_)
    · refine ev_iconst 52 (-1) dX5_turn_51 (by decide) rfl ?_
      refine ev_eqI (show (-1 : Int32) = pm (if hB (amF M n sh (trpF M n sh x)) x then spK l x l.length else 0) from by rw [if_neg (by rw [c40]; decide), pm_0]) ?_
      refine ev_istore 54 _ dX5_turn_52 (by decide) rfl rfl rfl ?_
      refine ev_iconst 55 (nI 0) dX5_turn_54 (by decide) rfl ?_
      refine ev_istore 57 _ dX5_turn_55 (by decide) rfl rfl rfl ?_
      exact s_X5_turn_k hl x key sh _ _ l.length 0 _ (by omega) (by split <;> first | exact spK_le l x _ (Nat.le_refl _) | exact Nat.zero_le _)
    · refine ev_aload_n 44 dX5_turn_43 rfl rfl ?_
      refine ev_iload_n 45 dX5_turn_44 rfl rfl ?_
      refine ev_cV1I _ M 48 dX5_turn_45 mlX5_51 moX5_spotOf rfl imX5_spotOf ⟨_, _, rfl, rfl, rfl⟩ (Nat.le_of_ble_eq_true rfl) (Nat.le_of_ble_eq_true rfl) rfl (s_X5_spotOf hl x) ?_
      refine ev_goto 52 dX5_turn_48 (by decide) ?_
      refine ev_eqI (show spF l x l.length = pm (if hB (amF M n sh (trpF M n sh x)) x then spK l x l.length else 0) from by rw [if_pos c40, spF_pm]) ?_
      refine ev_istore 54 _ dX5_turn_52 (by decide) rfl rfl rfl ?_
      refine ev_iconst 55 (nI 0) dX5_turn_54 (by decide) rfl ?_
      refine ev_istore 57 _ dX5_turn_55 (by decide) rfl rfl rfl ?_
      exact s_X5_turn_k hl x key sh _ _ l.length 0 _ (by omega) (by split <;> first | exact spK_le l x _ (Nat.le_refl _) | exact Nat.zero_le _)
def litV (v : Nat) : Nat := 2126 * (v / 65536 % 256) + 7152 * (v / 256 % 256) + 722 * (v % 256)
theorem litV_le (v : Nat) : litV v ≤ 2550000 := by unfold litV; omega
theorem cl_16 {v : Nat} (h : v < 2 ^ 24) : (nI v >>> (nI 16 &&& 31)) &&& nI 255 = nI (v / 65536 % 256) := by
  rw [pk_shrN (by omega) _ 16 (by decide), pk_andN (by omega) 8 (by decide)]
theorem cl_8 {v : Nat} (h : v < 2 ^ 24) : (nI v >>> (nI 8 &&& 31)) &&& nI 255 = nI (v / 256 % 256) := by
  rw [pk_shrN (by omega) _ 8 (by decide), pk_andN (by omega) 8 (by decide)]
theorem cl_0 {v : Nat} (h : v < 2 ^ 24) : nI v &&& nI 255 = nI (v % 256) := by
  rw [pk_andN (by omega) 8 (by decide)]
def ctN (a b : Nat) : Nat := 1000 * (max (litV a) (litV b) + 127500) / (min (litV a) (litV b) + 127500)
theorem s_light {Sh : Shp} {M : Mm} {v : Nat} (hv : v < 2 ^ 24) : Ct Sh mX7_light [.int (nI v)] M (RetI (nI (litV v)) M) := by
  show Ev _ _ 0 [.int (nI v)] [] M _
  refine ev_sipush 3 (nI 2126) dX7_light_0 (by decide) rfl ?_
  refine ev_iload_n 4 dX7_light_3 rfl rfl ?_
  refine ev_bipush 6 (nI 16) dX7_light_4 (by decide) rfl ?_
  refine ev_ishr 7 dX7_light_6 rfl ?_
  refine ev_sipush 10 (nI 255) dX7_light_7 (by decide) rfl ?_
  refine ev_iand 11 dX7_light_10 rfl ?_
  refine ev_eqI (cl_16 hv) ?_
  refine ev_imulN 12 dX7_light_11 rfl ?_
  refine ev_sipush 15 (nI 7152) dX7_light_12 (by decide) rfl ?_
  refine ev_iload_n 16 dX7_light_15 rfl rfl ?_
  refine ev_bipush 18 (nI 8) dX7_light_16 (by decide) rfl ?_
  refine ev_ishr 19 dX7_light_18 rfl ?_
  refine ev_sipush 22 (nI 255) dX7_light_19 (by decide) rfl ?_
  refine ev_iand 23 dX7_light_22 rfl ?_
  refine ev_eqI (cl_8 hv) ?_
  refine ev_imulN 24 dX7_light_23 rfl ?_
  refine ev_iaddN 25 dX7_light_24 rfl ?_
  refine ev_sipush 28 (nI 722) dX7_light_25 (by decide) rfl ?_
  refine ev_iload_n 29 dX7_light_28 rfl rfl ?_
  refine ev_sipush 32 (nI 255) dX7_light_29 (by decide) rfl ?_
  refine ev_iand 33 dX7_light_32 rfl ?_
  refine ev_eqI (cl_0 hv) ?_
  refine ev_imulN 34 dX7_light_33 rfl ?_
  refine ev_iaddN 35 dX7_light_34 rfl ?_
  exact ev_iret dX7_light_35 rfl (⟨rfl, rfl⟩)
theorem s_contrastBetween {Sh : Shp} {M : Mm} {a b : Nat} (ha : a < 2 ^ 24) (hb : b < 2 ^ 24) : Ct Sh mX7_contrastBetween [.int (nI a), .int (nI b)] M (RetI (nI (ctN a b)) M) := by
  have h1 := litV_le a
  have h2 := litV_le b
  have h3 : max (litV a) (litV b) ≤ 2550000 := Nat.max_le.mpr ⟨h1, h2⟩
  have h4 : min (litV a) (litV b) ≤ 2550000 := Nat.le_trans (Nat.min_le_left _ _) h1
  show Ev _ _ 0 [.int (nI a), .int (nI b), .null, .null, .null, .null] [] M _
  refine ev_iload_n 1 dX7_contrastBetween_0 rfl rfl ?_
  refine ev_cS1I _ M 4 dX7_contrastBetween_1 mlX7_212 moX7_light rfl smX7_light (Nat.le_of_ble_eq_true rfl) (Nat.le_of_ble_eq_true rfl) rfl (s_light ha) ?_
  refine ev_iload_n 5 dX7_contrastBetween_4 rfl rfl ?_
  refine ev_cS1I _ M 8 dX7_contrastBetween_5 mlX7_212 moX7_light rfl smX7_light (Nat.le_of_ble_eq_true rfl) (Nat.le_of_ble_eq_true rfl) rfl (s_light hb) ?_
  refine ev_imax 11 dX7_contrastBetween_8 mq_max.1 mq_max.2.1 mq_max.2.2.1 mq_max.2.2.2 (by decide) (by decide) rfl ?_
  refine ev_eqI (show _ = nI (max (litV a) (litV b)) from by
    by_cases q : litV a < litV b
    · rw [if_pos ((nI_ltI (by omega) (by omega)).mpr q), Nat.max_eq_right (by omega)]
    · rw [if_neg (mt (nI_ltI (by omega) (by omega)).mp q), Nat.max_eq_left (by omega)]) ?_
  refine ev_ldc 13 (nI 127500) dX7_contrastBetween_11 kX7_220 rfl ?_
  refine ev_iaddN 14 dX7_contrastBetween_13 rfl ?_
  refine ev_i2l 15 dX7_contrastBetween_14 rfl ?_
  refine ev_eqL (nI_l (by omega)) ?_
  refine ev_lstore_n 16 _ dX7_contrastBetween_15 (by decide) rfl rfl rfl ?_
  refine ev_iload_n 17 dX7_contrastBetween_16 rfl rfl ?_
  refine ev_cS1I _ M 20 dX7_contrastBetween_17 mlX7_212 moX7_light rfl smX7_light (Nat.le_of_ble_eq_true rfl) (Nat.le_of_ble_eq_true rfl) rfl (s_light ha) ?_
  refine ev_iload_n 21 dX7_contrastBetween_20 rfl rfl ?_
  refine ev_cS1I _ M 24 dX7_contrastBetween_21 mlX7_212 moX7_light rfl smX7_light (Nat.le_of_ble_eq_true rfl) (Nat.le_of_ble_eq_true rfl) rfl (s_light hb) ?_
  refine ev_imin 27 dX7_contrastBetween_24 mq_min.1 mq_min.2.1 mq_min.2.2.1 mq_min.2.2.2 (by decide) (by decide) rfl ?_
  refine ev_eqI (show _ = nI (min (litV a) (litV b)) from by
    by_cases q : litV b < litV a
    · rw [if_pos ((nI_ltI (by omega) (by omega)).mpr q), Nat.min_eq_right (by omega)]
    · rw [if_neg (mt (nI_ltI (by omega) (by omega)).mp q), Nat.min_eq_left (by omega)]) ?_
  refine ev_ldc 29 (nI 127500) dX7_contrastBetween_27 kX7_220 rfl ?_
  refine ev_iaddN 30 dX7_contrastBetween_29 rfl ?_
  refine ev_i2l 31 dX7_contrastBetween_30 rfl ?_
  refine ev_eqL (nI_l (by omega)) ?_
  refine ev_lstore 33 _ dX7_contrastBetween_31 (by decide) rfl rfl rfl ?_
  refine ev_lload 35 dX7_contrastBetween_33 rfl rfl ?_
  refine ev_lconst 36 (lN 0) dX7_contrastBetween_35 rfl rfl ?_
  refine ev_lcmp 37 dX7_contrastBetween_36 rfl ?_
  refine ev_if_le 40 52 dX7_contrastBetween_37 (by decide) rfl (fun c37 => ?_) (fun c37 => ?_)
  · exact absurd ((pk_lLE (by omega) (by omega)).mp ((lg_cmp_le _ _).mp c37)) (by omega)
  · refine ev_ldc2 43 (lN 1000) dX7_contrastBetween_40 kX7_224 rfl ?_
    refine ev_lload_n 44 dX7_contrastBetween_43 rfl rfl ?_
    refine ev_lmul 45 dX7_contrastBetween_44 rfl ?_
    refine ev_eqL (lN_mul _ _) ?_
    refine ev_lload 47 dX7_contrastBetween_45 rfl rfl ?_
    refine ev_ldiv 48 dX7_contrastBetween_47 (fun z => absurd ((pk_lEQ (a := min (litV a) (litV b) + 127500) (b := 0) (by omega) (by omega)).mp z) (by omega)) rfl ?_
    refine ev_eqL (pk_lDiv (by omega) (by omega) (by omega)) ?_
    refine ev_l2i 49 dX7_contrastBetween_48 rfl ?_
    refine ev_eqI (lN_i _) ?_
    refine ev_goto 53 dX7_contrastBetween_49 (by decide) ?_
    exact ev_iret dX7_contrastBetween_53 rfl (⟨rfl, rfl⟩)
def colOK (h : Nat → Int32) (a : Nat) : Prop := (∃ v, v < 2 ^ 24 ∧ h (a * 18 + 16) = nI v) ∧ ∃ v, v < 2 ^ 24 ∧ h (a * 18 + 17) = nI v
def ctH (h : Nat → Int32) (a : Nat) : Nat := ctN (h (a * 18 + 16)).toNatClampNeg (h (a * 18 + 17)).toNatClampNeg
theorem s_X2_contrastOf {X : Shp} {M : Mm} {a : Nat} (ha : a < 24) (hc : colOK (M 1) a) : Ct (PSh ++ X) mX2_contrastOf [.ref 0, .int (nI a)] M (RetI (nI (ctH (M 1) a)) M) := by
  obtain ⟨⟨v, hv, ev⟩, w, hw, ew⟩ := hc
  show Ev _ _ 0 [.ref 0, .int (nI a)] [] M _
  refine ev_aload_n 1 dX2_contrastOf_0 rfl rfl ?_
  refine ev_iload_n 2 dX2_contrastOf_1 rfl rfl ?_
  refine ev_bipush 4 (nI 16) dX2_contrastOf_2 (by decide) rfl ?_
  refine ev_cV2I (nI v) M 7 dX2_contrastOf_4 mlX2_70 moX2_get rfl imX2_get ⟨_, _, rfl, rfl, rfl⟩ (Nat.le_of_ble_eq_true rfl) (Nat.le_of_ble_eq_true rfl) rfl (by rw [← ev]; exact s_X2_get ha (by omega)) ?_
  refine ev_aload_n 8 dX2_contrastOf_7 rfl rfl ?_
  refine ev_iload_n 9 dX2_contrastOf_8 rfl rfl ?_
  refine ev_bipush 11 (nI 17) dX2_contrastOf_9 (by decide) rfl ?_
  refine ev_cV2I (nI w) M 14 dX2_contrastOf_11 mlX2_70 moX2_get rfl imX2_get ⟨_, _, rfl, rfl, rfl⟩ (Nat.le_of_ble_eq_true rfl) (Nat.le_of_ble_eq_true rfl) rfl (by rw [← ew]; exact s_X2_get ha (by omega)) ?_
  refine ev_cS2I _ M 17 dX2_contrastOf_14 mlX2_83 moX7_contrastBetween rfl smX7_contrastBetween (Nat.le_of_ble_eq_true rfl) (Nat.le_of_ble_eq_true rfl) rfl (s_contrastBetween hv hw) ?_
  exact ev_iret dX2_contrastOf_17 rfl (⟨by rw [ctH, ev, ew, nI_clamp (by omega), nI_clamp (by omega)], rfl⟩)
