/-! Parts.add -/
def uqA (ol : List Nat) (c kc : Nat) : Prop := kc < ol.length ∧ nth ol kc = c ∧ ∀ i, i < ol.length → nth ol i = c → i = kc
def inK (M : Mm) (ol : List Nat) (x : Int32) (kk : Nat) : Prop := (∃ c kc, x = nI c ∧ c < ol.length ∧ uqA ol c kc ∧ kk = kc + 1 + popN (M 3 c) ∧ kk ≤ ol.length) ∨ (inB x ol.length = false ∧ kk = 0)

theorem s_X2_spotInOrder_k {X : Shp} {M : Mm} {ol : List Nat} {c kc : Nat} (ho : rowAt M 5 0 5 ol) (hb : ∀ x ∈ ol, x < 24) (hc : c < 24) (hu : uqA ol c kc) : ∀ d i, i + d = ol.length → Ev (PSh ++ X) mX2_spotInOrder 4 [.ref 0, .int (nI c), .int (nI (if kc < i then kc else 0)), .int (nI i)] [] M (RetI (nI kc) M)
  | 0, i, h => by
    have hle := ho.2.1
    have hk := hu.1
    refine ev_iload_n 5 dX2_spotInOrder_4 rfl rfl ?_
    refine ev_aload_n 6 dX2_spotInOrder_5 rfl rfl ?_
    refine ev_getIv 9 (nI ol.length) dX2_spotInOrder_6 rfl flX2_27 rfl rfl ho.1 ?_
    refine ev_icmp_geN 12 30 dX2_spotInOrder_9 (by decide) rfl (by omega) (by omega) (fun c9 => ?_) (fun c9 => ?_)
    · refine ev_iload_n 31 dX2_spotInOrder_30 rfl rfl ?_
      exact ev_iret dX2_spotInOrder_31 rfl (⟨by rw [if_pos (by omega)], rfl⟩)
    · omega
  | d + 1, i, h => by
    have hle := ho.2.1
    refine ev_iload_n 5 dX2_spotInOrder_4 rfl rfl ?_
    refine ev_aload_n 6 dX2_spotInOrder_5 rfl rfl ?_
    refine ev_getIv 9 (nI ol.length) dX2_spotInOrder_6 rfl flX2_27 rfl rfl ho.1 ?_
    refine ev_icmp_geN 12 30 dX2_spotInOrder_9 (by decide) rfl (by omega) (by omega) (fun c9 => ?_) (fun c9 => ?_)
    · omega
    · refine ev_aload_n 13 dX2_spotInOrder_12 rfl rfl ?_
      refine ev_getR 16 dX2_spotInOrder_13 rfl flX2_24 rfl rfl ?_
      refine ev_iload_n 17 dX2_spotInOrder_16 rfl rfl ?_
      refine ev_iaN 18 (nI (nth ol i)) dX2_spotInOrder_17 rfl (by omega) (by decide) rfl (ho.2.2 i (by omega)) ?_
      refine ev_iload_n 19 dX2_spotInOrder_18 rfl rfl ?_
      refine ev_icmp_neN 22 24 dX2_spotInOrder_19 (by decide) rfl (Nat.lt_trans (hb _ (getD_mem (by omega))) (by omega)) (by omega) (fun c19 => ?_) (fun c19 => ?_)
      · refine ev_iincN 27 _ dX2_spotInOrder_24 rfl (by decide) rfl rfl rfl ?_
        refine ev_goto 4 dX2_spotInOrder_27 (by decide) ?_
        have ih := s_X2_spotInOrder_k (X := X) ho hb hc hu d (i + 1) (by omega)
        rw [show (if kc < i + 1 then kc else 0) = (if kc < i then kc else 0) from by
          have : kc ≠ i := fun e => c19 (by rw [← e]; exact hu.2.1)
          by_cases q : kc < i
          · rw [if_pos q, if_pos (by omega)]
          · rw [if_neg q, if_neg (by omega)]] at ih
        exact ih
      · refine ev_iload_n 23 dX2_spotInOrder_22 rfl rfl ?_
        refine ev_istore_n 24 _ dX2_spotInOrder_23 (by decide) rfl rfl rfl ?_
        refine ev_iincN 27 _ dX2_spotInOrder_24 rfl (by decide) rfl rfl rfl ?_
        refine ev_goto 4 dX2_spotInOrder_27 (by decide) ?_
        have ih := s_X2_spotInOrder_k (X := X) ho hb hc hu d (i + 1) (by omega)
        have hki : kc = i := (hu.2.2 i (by omega) c19).symm
        rw [if_pos (by omega), hki] at ih
        rw [hki]
        exact ih
theorem s_X2_spotInOrder {X : Shp} {M : Mm} {ol : List Nat} {c kc : Nat} (ho : rowAt M 5 0 5 ol) (hb : ∀ x ∈ ol, x < 24) (hc : c < 24) (hu : uqA ol c kc) : Ct (PSh ++ X) mX2_spotInOrder [.ref 0, .int (nI c)] M (RetI (nI kc) M) := by
  show Ev _ _ 0 [.ref 0, .int (nI c), .null, .null] [] M _
  refine ev_iconst 1 (nI 0) dX2_spotInOrder_0 (by decide) rfl ?_
  refine ev_istore_n 2 _ dX2_spotInOrder_1 (by decide) rfl rfl rfl ?_
  refine ev_iconst 3 (nI 0) dX2_spotInOrder_2 (by decide) rfl ?_
  refine ev_istore_n 4 _ dX2_spotInOrder_3 (by decide) rfl rfl rfl ?_
  have := s_X2_spotInOrder_k (X := X) ho hb hc hu ol.length 0 (by omega)
  rw [if_neg (by omega)] at this
  exact this
def InsO (M M1 : Mm) (l : List Nat) (k : Nat) : Prop := (∀ q, q ≠ 5 → M1 q = M q) ∧ (∀ j, j < k → M1 5 j = nI (nth l j)) ∧ ∀ j, k ≤ j → j < l.length → M1 5 (j + 1) = nI (nth l j)
def insQ (M M2 : Mm) (ol : List Nat) (kk : Nat) : Prop := (∀ q, q ≠ 5 → M2 q = M q) ∧ ∀ i, i < ol.length + 1 → M2 5 i = nI (nth (ol.take kk ++ ol.length :: ol.drop kk) i)
theorem s_X2_insertInOrder_k {X : Shp} {M : Mm} {ol : List Nat} {kk : Nat} (ho : rowAt M 5 0 5 ol) (hlen : ol.length < 24) (hk : kk ≤ ol.length) (x : Int32) : ∀ d (M1 : Mm), kk + d ≤ ol.length → InsO M M1 ol (kk + d) → Ev (PSh ++ X) mX2_insertInOrder 52 [.ref 0, .int x, .int (nI kk), .int (nI (kk + d))] [] M1 (fun r M2 => r = none ∧ insQ M M2 ol kk)
  | 0, M1, h, hs => by
    rw [Nat.add_zero] at hs ⊢
    refine ev_iload_n 53 dX2_insertInOrder_52 rfl rfl ?_
    refine ev_iload_n 54 dX2_insertInOrder_53 rfl rfl ?_
    refine ev_icmp_leN 57 77 dX2_insertInOrder_54 (by decide) rfl (by omega) (by omega) (fun c54 => ?_) (fun c54 => ?_)
    · refine ev_aload_n 78 dX2_insertInOrder_77 rfl rfl ?_
      refine ev_getR 81 dX2_insertInOrder_78 rfl flX2_24 rfl rfl ?_
      refine ev_iload_n 82 dX2_insertInOrder_81 rfl rfl ?_
      refine ev_aload_n 83 dX2_insertInOrder_82 rfl rfl ?_
      refine ev_getIv 86 (nI ol.length) dX2_insertInOrder_83 rfl flX2_27 rfl rfl (by rw [hs.1 0 (by decide)]; exact ho.1) ?_
      refine ev_iaS 87 dX2_insertInOrder_86 rfl (by omega) (by decide) rfl ?_
      exact ev_vret dX2_insertInOrder_87 rfl (⟨rfl, fun q h1 => by rw [mst_other _ _ _ h1]; exact hs.1 q h1, fun i hi => by
      rw [mst_same, upd, nth_ins hk]
      rcases Nat.lt_trichotomy i kk with q | q | q
      · rw [if_neg (by omega), if_pos q]; exact hs.2.1 i (by omega)
      · rw [if_pos q, if_neg (by omega), if_pos q]
      · rw [if_neg (by omega), if_neg (by omega), if_neg (by omega)]
        have := hs.2.2 (i - 1) (by omega) (by omega)
        rwa [show i - 1 + 1 = i by omega] at this⟩)
    · omega
  | d + 1, M1, h, hs => by
    rw [← Nat.add_assoc] at hs ⊢
    refine ev_iload_n 53 dX2_insertInOrder_52 rfl rfl ?_
    refine ev_iload_n 54 dX2_insertInOrder_53 rfl rfl ?_
    refine ev_icmp_leN 57 77 dX2_insertInOrder_54 (by decide) rfl (by omega) (by omega) (fun c54 => ?_) (fun c54 => ?_)
    · omega
    · refine ev_aload_n 58 dX2_insertInOrder_57 rfl rfl ?_
      refine ev_getR 61 dX2_insertInOrder_58 rfl flX2_24 rfl rfl ?_
      refine ev_iload_n 62 dX2_insertInOrder_61 rfl rfl ?_
      refine ev_aload_n 63 dX2_insertInOrder_62 rfl rfl ?_
      refine ev_getR 66 dX2_insertInOrder_63 rfl flX2_24 rfl rfl ?_
      refine ev_iload_n 67 dX2_insertInOrder_66 rfl rfl ?_
      refine ev_iconst 68 (nI 1) dX2_insertInOrder_67 (by decide) rfl ?_
      refine ev_isubN 69 dX2_insertInOrder_68 (by omega) rfl ?_
      refine ev_iaN 70 (nI (nth ol (kk + d))) dX2_insertInOrder_69 rfl (by omega) (by decide) rfl (hs.2.1 (kk + d) (by omega)) ?_
      refine ev_iaS 71 dX2_insertInOrder_70 rfl (by omega) (by decide) rfl ?_
      refine ev_iincD 74 _ dX2_insertInOrder_71 rfl (by decide) rfl rfl rfl ?_
      refine ev_goto 52 dX2_insertInOrder_74 (by decide) ?_
      refine s_X2_insertInOrder_k ho hlen hk x d _ (by omega) ⟨fun q h1 => by rw [mst_other _ _ _ h1]; exact hs.1 q h1, fun j hj => ?_, fun j h1 h2 => ?_⟩
      · rw [mst_same, upd, if_neg (by omega)]; exact hs.2.1 j (by omega)
      · rw [mst_same, upd]
        by_cases e : j = kk + d
        · rw [if_pos (by omega), e]
        · rw [if_neg (by omega)]; exact hs.2.2 j (by omega) h2
theorem s_X2_insertInOrder {X : Shp} {M : Mm} {ol : List Nat} {kk : Nat} {x : Int32} (ho : rowAt M 5 0 5 ol) (hb : ∀ y ∈ ol, y < 24) (hlen : ol.length < 24) (hk : inK M ol x kk) : Ct (PSh ++ X) mX2_insertInOrder [.ref 0, .int x] M (fun r M2 => r = none ∧ insQ M M2 ol kk) := by
  have hle := ho.2.1
  show Ev _ _ 0 [.ref 0, .int x, .null, .null] [] M _
  refine ev_aload_n 1 dX2_insertInOrder_0 rfl rfl ?_
  refine ev_iload_n 2 dX2_insertInOrder_1 rfl rfl ?_
  refine ev_cV1I _ M 5 dX2_insertInOrder_2 mlX2_39 moX2_has rfl imX2_has ⟨_, _, rfl, rfl, rfl⟩ (Nat.le_of_ble_eq_true rfl) (Nat.le_of_ble_eq_true rfl) rfl (s_X2_has hle ho.1 x) ?_
  refine ev_if_eqB 8 27 dX2_insertInOrder_5 (by decide) rfl (fun c5 => ?_) (fun c5 => ?_)
  · refine ev_iconst 28 (nI 0) dX2_insertInOrder_27 (by decide) rfl ?_
    refine ev_eqI (show nI 0 = nI kk from by
      rcases hk with ⟨c, kc, rfl, hc, _⟩ | ⟨_, h⟩
      · rw [inB_nI (by omega), decide_eq_true hc] at c5; cases c5
      · rw [h]) ?_
    refine ev_istore_n 29 _ dX2_insertInOrder_28 (by decide) rfl rfl rfl ?_
    have hkk : kk ≤ ol.length := by rcases hk with ⟨_, _, _, _, _, _, h⟩ | ⟨_, h⟩ <;> omega
    refine ev_aload_n 30 dX2_insertInOrder_29 rfl rfl ?_
    refine ev_getIv 33 (nI ol.length) dX2_insertInOrder_30 rfl flX2_27 rfl rfl ho.1 ?_
    refine ev_bipush 35 (nI 24) dX2_insertInOrder_33 (by decide) rfl ?_
    refine ev_icmp_geN 38 46 dX2_insertInOrder_35 (by decide) rfl (by omega) (by omega) (fun c35 => ?_) (fun c35 => ?_)
    · omega
    · refine ev_iload_n 39 dX2_insertInOrder_38 rfl rfl ?_
      refine ev_aload_n 40 dX2_insertInOrder_39 rfl rfl ?_
      refine ev_getIv 43 (nI ol.length) dX2_insertInOrder_40 rfl flX2_27 rfl rfl ho.1 ?_
      refine ev_icmp_leN 46 47 dX2_insertInOrder_43 (by decide) rfl (by omega) (by omega) (fun c43 => ?_) (fun c43 => ?_)
      · refine ev_aload_n 48 dX2_insertInOrder_47 rfl rfl ?_
        refine ev_getIv 51 (nI ol.length) dX2_insertInOrder_48 rfl flX2_27 rfl rfl ho.1 ?_
        refine ev_istore_n 52 _ dX2_insertInOrder_51 (by decide) rfl rfl rfl ?_
        have hkd : kk + (ol.length - kk) = ol.length := by omega
        have := s_X2_insertInOrder_k (X := X) (kk := kk) ho hlen hkk x (ol.length - kk) M (by omega) ⟨fun _ _ => rfl, fun j hj => ho.2.2 j (by omega), fun j h1 h2 => by omega⟩
        rw [hkd] at this
        exact this
      · omega
  · obtain ⟨c, kc, rfl, hc, hu, hke, hkl⟩ : ∃ c kc, x = nI c ∧ c < ol.length ∧ uqA ol c kc ∧ kk = kc + 1 + popN (M 3 c) ∧ kk ≤ ol.length := hk.resolve_right (fun z => by rw [z.1] at c5; cases c5)
    refine ev_aload_n 9 dX2_insertInOrder_8 rfl rfl ?_
    refine ev_iload_n 10 dX2_insertInOrder_9 rfl rfl ?_
    refine ev_cV1I _ M 13 dX2_insertInOrder_10 mlX2_55 moX2_spotInOrder rfl imX2_spotInOrder ⟨_, _, rfl, rfl, rfl⟩ (Nat.le_of_ble_eq_true rfl) (Nat.le_of_ble_eq_true rfl) rfl (s_X2_spotInOrder ho hb (by omega) hu) ?_
    refine ev_iconst 14 (nI 1) dX2_insertInOrder_13 (by decide) rfl ?_
    refine ev_iaddN 15 dX2_insertInOrder_14 rfl ?_
    refine ev_aload_n 16 dX2_insertInOrder_15 rfl rfl ?_
    refine ev_iload_n 17 dX2_insertInOrder_16 rfl rfl ?_
    refine ev_cV1I (M 3 c) M 20 dX2_insertInOrder_17 mlX2_58 moX2_withinOf rfl imX2_withinOf ⟨_, _, rfl, rfl, rfl⟩ (Nat.le_of_ble_eq_true rfl) (Nat.le_of_ble_eq_true rfl) rfl (s_X2_withinOfN hle ho.1 hc) ?_
    refine ev_cS1I _ M 23 dX2_insertInOrder_20 mlX2_61 moJ6_bitCount_0f7a4 rfl smJ6_bitCount_0f7a4 (Nat.le_of_ble_eq_true rfl) (Nat.le_of_ble_eq_true rfl) rfl (s_bitCount _) ?_
    refine ev_iaddN 24 dX2_insertInOrder_23 rfl ?_
    refine ev_goto 28 dX2_insertInOrder_24 (by decide) ?_
    refine ev_eqI (show nI (kc + 1 + popN (M 3 c)) = nI kk from by rw [hke]) ?_
    refine ev_istore_n 29 _ dX2_insertInOrder_28 (by decide) rfl rfl rfl ?_
    have hkk : kk ≤ ol.length := by rcases hk with ⟨_, _, _, _, _, _, h⟩ | ⟨_, h⟩ <;> omega
    refine ev_aload_n 30 dX2_insertInOrder_29 rfl rfl ?_
    refine ev_getIv 33 (nI ol.length) dX2_insertInOrder_30 rfl flX2_27 rfl rfl ho.1 ?_
    refine ev_bipush 35 (nI 24) dX2_insertInOrder_33 (by decide) rfl ?_
    refine ev_icmp_geN 38 46 dX2_insertInOrder_35 (by decide) rfl (by omega) (by omega) (fun c35 => ?_) (fun c35 => ?_)
    · omega
    · refine ev_iload_n 39 dX2_insertInOrder_38 rfl rfl ?_
      refine ev_aload_n 40 dX2_insertInOrder_39 rfl rfl ?_
      refine ev_getIv 43 (nI ol.length) dX2_insertInOrder_40 rfl flX2_27 rfl rfl ho.1 ?_
      refine ev_icmp_leN 46 47 dX2_insertInOrder_43 (by decide) rfl (by omega) (by omega) (fun c43 => ?_) (fun c43 => ?_)
      · refine ev_aload_n 48 dX2_insertInOrder_47 rfl rfl ?_
        refine ev_getIv 51 (nI ol.length) dX2_insertInOrder_48 rfl flX2_27 rfl rfl ho.1 ?_
        refine ev_istore_n 52 _ dX2_insertInOrder_51 (by decide) rfl rfl rfl ?_
        have hkd : kk + (ol.length - kk) = ol.length := by omega
        have := s_X2_insertInOrder_k (X := X) (kk := kk) ho hlen hkk (nI c) (ol.length - kk) M (by omega) ⟨fun _ _ => rfl, fun j hj => ho.2.2 j (by omega), fun j h1 h2 => by omega⟩
        rw [hkd] at this
        exact this
      · omega
def pfH (h : Nat → Int32) (a : Nat) (x : Int32) (k : Nat) : Nat → Int32 := upd (upd (upd (upd (upd (upd h (a * 18 + 3) (-1)) (a * 18 + 4) (-1)) (a * 18 + 7) (-1)) (a * 18 + 10) (nI k)) (a * 18 + 11) x) (a * 18 + 17) (nI 16777215)
theorem mst_mst (M : Mm) (k j i : Nat) (x y : Int32) : mst (mst M k j x) k i y = fun a => if a = k then upd (upd (M k) j x) i y else M a := by
  funext a
  by_cases e : a = k
  · subst e; rw [mst_same, mst_same, if_pos rfl]
  · rw [mst_other _ _ _ e, mst_other _ _ _ e, if_neg e]
theorem s_X2_putFirstValues {X : Shp} {M : Mm} {a k : Nat} {x : Int32} (ha : a < 24) : Ct (PSh ++ X) mX2_putFirstValues [.ref 0, .int (nI a), .int x, .int (nI k)] M (fun r M2 => r = none ∧ (∀ q, q ≠ 1 → M2 q = M q) ∧ M2 1 = pfH (M 1) a x k) := by
  show Ev _ _ 0 [.ref 0, .int (nI a), .int x, .int (nI k)] [] M _
  refine ev_aload_n 1 dX2_putFirstValues_0 rfl rfl ?_
  refine ev_iload_n 2 dX2_putFirstValues_1 rfl rfl ?_
  refine ev_iconst 3 (nI 3) dX2_putFirstValues_2 (by decide) rfl ?_
  refine ev_iconst 4 (-1) dX2_putFirstValues_3 (by decide) rfl ?_
  refine ev_cV3V _ 7 dX2_putFirstValues_4 mlX2_66 moX2_put rfl imX2_put ⟨_, _, rfl, rfl, rfl⟩ (Nat.le_of_ble_eq_true rfl) (Nat.le_of_ble_eq_true rfl) rfl (s_X2_put (b := 3) ha (by omega)) ?_
  refine ev_aload_n 8 dX2_putFirstValues_7 rfl rfl ?_
  refine ev_iload_n 9 dX2_putFirstValues_8 rfl rfl ?_
  refine ev_iconst 10 (nI 4) dX2_putFirstValues_9 (by decide) rfl ?_
  refine ev_iconst 11 (-1) dX2_putFirstValues_10 (by decide) rfl ?_
  refine ev_cV3V _ 14 dX2_putFirstValues_11 mlX2_66 moX2_put rfl imX2_put ⟨_, _, rfl, rfl, rfl⟩ (Nat.le_of_ble_eq_true rfl) (Nat.le_of_ble_eq_true rfl) rfl (s_X2_put (b := 4) ha (by omega)) ?_
  refine ev_aload_n 15 dX2_putFirstValues_14 rfl rfl ?_
  refine ev_iload_n 16 dX2_putFirstValues_15 rfl rfl ?_
  refine ev_bipush 18 (nI 7) dX2_putFirstValues_16 (by decide) rfl ?_
  refine ev_iconst 19 (-1) dX2_putFirstValues_18 (by decide) rfl ?_
  refine ev_cV3V _ 22 dX2_putFirstValues_19 mlX2_66 moX2_put rfl imX2_put ⟨_, _, rfl, rfl, rfl⟩ (Nat.le_of_ble_eq_true rfl) (Nat.le_of_ble_eq_true rfl) rfl (s_X2_put (b := 7) ha (by omega)) ?_
  refine ev_aload_n 23 dX2_putFirstValues_22 rfl rfl ?_
  refine ev_iload_n 24 dX2_putFirstValues_23 rfl rfl ?_
  refine ev_bipush 26 (nI 10) dX2_putFirstValues_24 (by decide) rfl ?_
  refine ev_iload_n 27 dX2_putFirstValues_26 rfl rfl ?_
  refine ev_cV3V _ 30 dX2_putFirstValues_27 mlX2_66 moX2_put rfl imX2_put ⟨_, _, rfl, rfl, rfl⟩ (Nat.le_of_ble_eq_true rfl) (Nat.le_of_ble_eq_true rfl) rfl (s_X2_put (b := 10) ha (by omega)) ?_
  refine ev_aload_n 31 dX2_putFirstValues_30 rfl rfl ?_
  refine ev_iload_n 32 dX2_putFirstValues_31 rfl rfl ?_
  refine ev_bipush 34 (nI 11) dX2_putFirstValues_32 (by decide) rfl ?_
  refine ev_iload_n 35 dX2_putFirstValues_34 rfl rfl ?_
  refine ev_cV3V _ 38 dX2_putFirstValues_35 mlX2_66 moX2_put rfl imX2_put ⟨_, _, rfl, rfl, rfl⟩ (Nat.le_of_ble_eq_true rfl) (Nat.le_of_ble_eq_true rfl) rfl (s_X2_put (b := 11) ha (by omega)) ?_
  refine ev_aload_n 39 dX2_putFirstValues_38 rfl rfl ?_
  refine ev_iload_n 40 dX2_putFirstValues_39 rfl rfl ?_
  refine ev_bipush 42 (nI 17) dX2_putFirstValues_40 (by decide) rfl ?_
  refine ev_ldc 44 (nI 16777215) dX2_putFirstValues_42 kX2_69 rfl ?_
  refine ev_cV3V _ 47 dX2_putFirstValues_44 mlX2_66 moX2_put rfl imX2_put ⟨_, _, rfl, rfl, rfl⟩ (Nat.le_of_ble_eq_true rfl) (Nat.le_of_ble_eq_true rfl) rfl (s_X2_put (b := 17) ha (by omega)) ?_
  exact ev_vret dX2_putFirstValues_47 rfl (⟨rfl, fun q hq => by iterate 6 rw [mst_other _ _ _ hq], by simp only [mst_same]; rfl⟩)
def arF (M : Mm) (n : Nat) (x : Int32) : Int32 := if inB x n then M 2 x.toNatClampNeg ||| (nI 1 <<< (x &&& 31)) else 0
def wiF (f : Nat → Int32) (ar : Int32) (n i : Nat) : Nat → Int32 := fun j => if j < i ∧ bt ar j = true then f j ||| (nI 1 <<< (nI n &&& 31)) else f j
theorem wiF_0 (f : Nat → Int32) (ar : Int32) (n : Nat) : wiF f ar n 0 = f := by
  funext j
  rw [wiF, if_neg (fun z => absurd z.1 (Nat.not_lt_zero j))]
theorem wiF_no {f : Nat → Int32} {ar : Int32} {n i : Nat} (h : bt ar i = false) : wiF f ar n (i + 1) = wiF f ar n i := by
  funext j
  unfold wiF
  by_cases e : j = i
  · subst e; rw [if_neg (fun z => by rw [h] at z; exact absurd z.2 (by decide)), if_neg (fun z => absurd z.1 (Nat.lt_irrefl j))]
  · by_cases q : j < i ∧ bt ar j = true
    · rw [if_pos q, if_pos ⟨by omega, q.2⟩]
    · rw [if_neg q, if_neg (fun z => q ⟨by omega, z.2⟩)]
theorem wiF_yes {f : Nat → Int32} {ar : Int32} {n i : Nat} (h : bt ar i = true) : upd (wiF f ar n i) i (f i ||| (nI 1 <<< (nI n &&& 31))) = wiF f ar n (i + 1) := by
  funext j
  unfold upd wiF
  by_cases e : j = i
  · subst e; rw [if_pos rfl, if_pos ⟨by omega, h⟩]
  · rw [if_neg e]
    by_cases q : j < i ∧ bt ar j = true
    · rw [if_pos q, if_pos ⟨by omega, q.2⟩]
    · rw [if_neg q, if_neg (fun z => q ⟨by omega, z.2⟩)]
def adI (M M1 : Mm) (ar : Int32) (n i : Nat) : Prop := (∀ k, k ≠ 3 → M1 k = M k) ∧ M1 3 = wiF (M 3) ar n i

theorem s_X2_add_k {X : Shp} {M : Mm} {n : Nat} {ar : Int32} (hn : n < 24) (har : M 2 n = ar) (x kd : Value) {Q : Pst} : ∀ d i (M1 : Mm), i + d = n → adI M M1 ar n i → (∀ M2, adI M M2 ar n n → Ev (PSh ++ X) mX2_add 97 [.ref 0, x, kd, .int (nI n), .int (nI n)] [] M2 Q) → Ev (PSh ++ X) mX2_add 58 [.ref 0, x, kd, .int (nI n), .int (nI i)] [] M1 Q
  | 0, i, M1, h, hs, k => by
    refine ev_iload 60 dX2_add_58 rfl rfl ?_
    refine ev_iload_n 61 dX2_add_60 rfl rfl ?_
    refine ev_icmp_geN 64 97 dX2_add_61 (by decide) rfl (by omega) (by omega) (fun c61 => ?_) (fun c61 => ?_)
    · rw [show i = n by omega] at hs ⊢
      exact k M1 hs
    · omega
  | d + 1, i, M1, h, hs, k => by
    refine ev_iload 60 dX2_add_58 rfl rfl ?_
    refine ev_iload_n 61 dX2_add_60 rfl rfl ?_
    refine ev_icmp_geN 64 97 dX2_add_61 (by decide) rfl (by omega) (by omega) (fun c61 => ?_) (fun c61 => ?_)
    · omega
    · refine ev_aload_n 65 dX2_add_64 rfl rfl ?_
      refine ev_getR 68 dX2_add_65 rfl flX2_15 rfl rfl ?_
      refine ev_iload_n 69 dX2_add_68 rfl rfl ?_
      refine ev_iaN 70 ar dX2_add_69 rfl (by omega) (by decide) rfl (by rw [hs.1 2 (by decide)]; exact har) ?_
      refine ev_iload 72 dX2_add_70 rfl rfl ?_
      refine ev_cS2I (bI (bt ar i)) M1 75 dX2_add_72 mlX2_47 moX7_holds rfl smX7_holds (Nat.le_of_ble_eq_true rfl) (Nat.le_of_ble_eq_true rfl) rfl (by have := s_holds (Sh := PSh ++ X) (M := M1) ar (nI i); rwa [hB_nI (by omega)] at this) ?_
      refine ev_if_eqB 78 91 dX2_add_75 (by decide) rfl (fun c75 => ?_) (fun c75 => ?_)
      · refine ev_iincN 94 _ dX2_add_91 rfl (by decide) rfl rfl rfl ?_
        refine ev_goto 58 dX2_add_94 (by decide) ?_
        exact s_X2_add_k hn har x kd d (i + 1) M1 (by omega) ⟨hs.1, by rw [wiF_no c75]; exact hs.2⟩ k
      · refine ev_aload_n 79 dX2_add_78 rfl rfl ?_
        refine ev_getR 82 dX2_add_79 rfl flX2_18 rfl rfl ?_
        refine ev_iload 84 dX2_add_82 rfl rfl ?_
        refine ev_dup2 85 dX2_add_84 rfl rfl rfl ?_
        refine ev_iaN 86 (M 3 i) dX2_add_85 rfl (by omega) (by decide) rfl (by rw [hs.2, wiF, if_neg (fun z => absurd z.1 (Nat.lt_irrefl i))]) ?_
        refine ev_iconst 87 (nI 1) dX2_add_86 (by decide) rfl ?_
        refine ev_iload_n 88 dX2_add_87 rfl rfl ?_
        refine ev_ishl 89 dX2_add_88 rfl ?_
        refine ev_ior 90 dX2_add_89 rfl ?_
        refine ev_iaS 91 dX2_add_90 rfl (by omega) (by decide) rfl ?_
        refine ev_iincN 94 _ dX2_add_91 rfl (by decide) rfl rfl rfl ?_
        refine ev_goto 58 dX2_add_94 (by decide) ?_
        exact s_X2_add_k hn har x kd d (i + 1) _ (by omega) ⟨fun q hq => by rw [mst_other _ _ _ hq]; exact hs.1 q hq, by rw [mst_same, hs.2]; exact wiF_yes c75⟩ k
def adQ (M M2 : Mm) (ol : List Nat) (x : Int32) (k kk : Nat) : Prop := M2 0 5 = nI (ol.length + 1) ∧ M2 1 = pfH (M 1) ol.length x k ∧ M2 2 = upd (M 2) ol.length (arF M ol.length x) ∧ M2 3 = wiF (M 3) (arF M ol.length x) ol.length ol.length ∧ M2 4 = upd (M 4) k (M 4 k ||| (nI 1 <<< (nI ol.length &&& 31))) ∧ (∀ i, i < ol.length + 1 → M2 5 i = nI (nth (ol.take kk ++ ol.length :: ol.drop kk) i)) ∧ ∀ j, 6 ≤ j → M2 j = M j
theorem s_X2_add_97 {X : Shp} {M M2 M3 : Mm} {ol : List Nat} {x : Int32} {k kk : Nat} {u : Value} (ho : rowAt M 5 0 5 ol) (hlen : ol.length < 24) (hk7 : k < 7) (h2 : (M2 2 = upd (M 2) ol.length (arF M ol.length x) ∧ ∀ i, i < ol.length + 1 → M2 5 i = nI (nth (ol.take kk ++ ol.length :: ol.drop kk) i)) ∧ ∀ q, q ≠ 2 → q ≠ 5 → M2 q = M q) (h3 : adI M2 M3 (arF M ol.length x) ol.length ol.length) : Ev (PSh ++ X) mX2_add 97 [.ref 0, .int x, .int (nI k), .int (nI ol.length), u] [] M3 (fun r M6 => r = some (.int (nI ol.length)) ∧ adQ M M6 ol x k kk) := by
  refine ev_aload_n 98 dX2_add_97 rfl rfl ?_
  refine ev_getR 101 dX2_add_98 rfl flX2_21 rfl rfl ?_
  refine ev_iload_n 102 dX2_add_101 rfl rfl ?_
  refine ev_dup2 103 dX2_add_102 rfl rfl rfl ?_
  refine ev_iaN 104 (M 4 k) dX2_add_103 rfl (by omega) (by decide) rfl (by rw [h3.1 4 (by decide), h2.2 4 (by decide) (by decide)]) ?_
  refine ev_iconst 105 (nI 1) dX2_add_104 (by decide) rfl ?_
  refine ev_iload_n 106 dX2_add_105 rfl rfl ?_
  refine ev_ishl 107 dX2_add_106 rfl ?_
  refine ev_ior 108 dX2_add_107 rfl ?_
  refine ev_iaS 109 dX2_add_108 rfl (by omega) (by decide) rfl ?_
  refine ev_aload_n 110 dX2_add_109 rfl rfl ?_
  refine ev_iload_n 111 dX2_add_110 rfl rfl ?_
  refine ev_iload_n 112 dX2_add_111 rfl rfl ?_
  refine ev_iload_n 113 dX2_add_112 rfl rfl ?_
  refine ev_cV3 116 dX2_add_113 mlX2_51 moX2_putFirstValues rfl imX2_putFirstValues ⟨_, _, rfl, rfl, rfl⟩ (Nat.le_of_ble_eq_true rfl) (Nat.le_of_ble_eq_true rfl) rfl (s_X2_putFirstValues hlen) ?_
  rintro r M5 ⟨rfl, h5⟩
  refine ev_aload_n 117 dX2_add_116 rfl rfl ?_
  refine ev_dup 118 dX2_add_117 rfl rfl ?_
  refine ev_getIv 121 (nI ol.length) dX2_add_118 rfl flX2_27 rfl rfl (by rw [h5.1 0 (by decide), mst_other _ _ _ (by decide), h3.1 0 (by decide), h2.2 0 (by decide) (by decide)]; exact ho.1) ?_
  refine ev_iconst 122 (nI 1) dX2_add_121 (by decide) rfl ?_
  refine ev_iaddN 123 dX2_add_122 rfl ?_
  refine ev_putI 126 dX2_add_123 rfl flX2_27 fiX2_5 rfl rfl ?_
  refine ev_iload_n 127 dX2_add_126 rfl rfl ?_
  refine ev_iret dX2_add_127 rfl ⟨rfl, ?_, ?_, ?_, ?_, ?_, ?_, ?_⟩
  · rw [mst_same, upd, if_pos rfl]
  · rw [mst_other _ _ _ (by decide), h5.2, mst_other _ _ _ (by decide), h3.1 1 (by decide), h2.2 1 (by decide) (by decide)]
  · rw [mst_other _ _ _ (by decide), h5.1 2 (by decide), mst_other _ _ _ (by decide), h3.1 2 (by decide)]; exact h2.1.1
  · rw [mst_other _ _ _ (by decide), h5.1 3 (by decide), mst_other _ _ _ (by decide), h3.2, h2.2 3 (by decide) (by decide)]
  · rw [mst_other _ _ _ (by decide), h5.1 4 (by decide), mst_same, h3.1 4 (by decide), h2.2 4 (by decide) (by decide)]
  · intro i hi
    rw [mst_other _ _ _ (by decide), h5.1 5 (by decide), mst_other _ _ _ (by decide), h3.1 5 (by decide)]; exact h2.1.2 i hi
  · intro j hj
    rw [mst_other _ _ _ (by omega), h5.1 j (by omega), mst_other _ _ _ (by omega), h3.1 j (by omega), h2.2 j (by omega) (by omega)]
theorem s_X2_add {X : Shp} {M : Mm} {ol : List Nat} {x : Int32} {k kk : Nat} (ho : rowAt M 5 0 5 ol) (hb : ∀ y ∈ ol, y < 24) (hlen : ol.length < 24) (hk7 : k < 7) (hk : inK M ol x kk) : Ct (PSh ++ X) mX2_add [.ref 0, .int x, .int (nI k)] M (fun r M6 => r = some (.int (nI ol.length)) ∧ adQ M M6 ol x k kk) := by
  have hle := ho.2.1
  show Ev _ _ 0 [.ref 0, .int x, .int (nI k), .null, .null] [] M _
  refine ev_aload_n 1 dX2_add_0 rfl rfl ?_
  refine ev_getIv 4 (nI ol.length) dX2_add_1 rfl flX2_27 rfl rfl ho.1 ?_
  refine ev_istore_n 5 _ dX2_add_4 (by decide) rfl rfl rfl ?_
  refine ev_iload_n 6 dX2_add_5 rfl rfl ?_
  refine ev_bipush 8 (nI 24) dX2_add_6 (by decide) rfl ?_
  refine ev_icmp_geN 11 21 dX2_add_8 (by decide) rfl (by omega) (by omega) (fun c8 => ?_) (fun c8 => ?_)
  · omega
  · refine ev_iload_n 12 dX2_add_11 rfl rfl ?_
    refine ev_if_ltN 15 21 dX2_add_12 (by decide) rfl (by omega) ?_
    refine ev_iload_n 16 dX2_add_15 rfl rfl ?_
    refine ev_bipush 18 (nI 7) dX2_add_16 (by decide) rfl ?_
    refine ev_icmp_ltN 21 23 dX2_add_18 (by decide) rfl (by omega) (by omega) (fun c18 => ?_) (fun c18 => ?_)
    · refine ev_aload_n 24 dX2_add_23 rfl rfl ?_
      refine ev_iload_n 25 dX2_add_24 rfl rfl ?_
      refine ev_cV1 28 dX2_add_25 mlX2_35 moX2_insertInOrder rfl imX2_insertInOrder ⟨_, _, rfl, rfl, rfl⟩ (Nat.le_of_ble_eq_true rfl) (Nat.le_of_ble_eq_true rfl) rfl (s_X2_insertInOrder ho hb hlen hk) ?_
      rintro r M1 ⟨rfl, h1⟩
      have hs1 : M1 0 5 = nI ol.length := by rw [h1.1 0 (by decide)]; exact ho.1
      refine ev_aload_n 29 dX2_add_28 rfl rfl ?_
      refine ev_getR 32 dX2_add_29 rfl flX2_15 rfl rfl ?_
      refine ev_iload_n 33 dX2_add_32 rfl rfl ?_
      refine ev_aload_n 34 dX2_add_33 rfl rfl ?_
      refine ev_iload_n 35 dX2_add_34 rfl rfl ?_
      refine ev_cV1I _ M1 38 dX2_add_35 mlX2_39 moX2_has rfl imX2_has ⟨_, _, rfl, rfl, rfl⟩ (Nat.le_of_ble_eq_true rfl) (Nat.le_of_ble_eq_true rfl) rfl (s_X2_has hle hs1 x) ?_
      refine ev_if_eqB 41 53 dX2_add_38 (by decide) rfl (fun c38 => ?_) (fun c38 => ?_)
      · refine ev_iconst 54 (nI 0) dX2_add_53 (by decide) rfl ?_
        refine ev_eqI (show nI 0 = arF M ol.length x from by rw [arF, if_neg (by rw [c38]; decide)]; rfl) ?_
        refine ev_iaS 55 dX2_add_54 rfl (by omega) (by decide) rfl ?_
        refine ev_iconst 56 (nI 0) dX2_add_55 (by decide) rfl ?_
        refine ev_istore 58 _ dX2_add_56 (by decide) rfl rfl rfl ?_
        refine s_X2_add_k (ar := arF M ol.length x) hlen (by rw [mst_same, upd, if_pos rfl]) _ _ ol.length 0 _ (by omega) ⟨fun _ _ => rfl, (wiF_0 _ _ _).symm⟩ (fun M3 h3 => ?_)
        refine s_X2_add_97 ho hlen hk7 ⟨⟨by rw [mst_same, h1.1 2 (by decide)], fun i hi => by rw [mst_other _ _ _ (by decide)]; exact h1.2 i hi⟩, fun q a b => by rw [mst_other _ _ _ a]; exact h1.1 q b⟩ h3
      · obtain ⟨c, hc, rfl⟩ := inB_of c38 (by omega)
        refine ev_aload_n 42 dX2_add_41 rfl rfl ?_
        refine ev_iload_n 43 dX2_add_42 rfl rfl ?_
        refine ev_cV1I (M 2 c) M1 46 dX2_add_43 mlX2_43 moX2_aroundOf rfl imX2_aroundOf ⟨_, _, rfl, rfl, rfl⟩ (Nat.le_of_ble_eq_true rfl) (Nat.le_of_ble_eq_true rfl) rfl (by rw [show M 2 c = M1 2 c from by rw [h1.1 2 (by decide)]]; exact s_X2_aroundOfN hle hs1 hc) ?_
        refine ev_iconst 47 (nI 1) dX2_add_46 (by decide) rfl ?_
        refine ev_iload_n 48 dX2_add_47 rfl rfl ?_
        refine ev_ishl 49 dX2_add_48 rfl ?_
        refine ev_ior 50 dX2_add_49 rfl ?_
        refine ev_goto 54 dX2_add_50 (by decide) ?_
        refine ev_eqI (show M 2 c ||| (nI 1 <<< (nI c &&& 31)) = arF M ol.length (nI c) from by rw [arF, if_pos c38, nI_clamp (by omega)]) ?_
        refine ev_iaS 55 dX2_add_54 rfl (by omega) (by decide) rfl ?_
        refine ev_iconst 56 (nI 0) dX2_add_55 (by decide) rfl ?_
        refine ev_istore 58 _ dX2_add_56 (by decide) rfl rfl rfl ?_
        refine s_X2_add_k (ar := arF M ol.length (nI c)) hlen (by rw [mst_same, upd, if_pos rfl]) _ _ ol.length 0 _ (by omega) ⟨fun _ _ => rfl, (wiF_0 _ _ _).symm⟩ (fun M3 h3 => ?_)
        refine s_X2_add_97 ho hlen hk7 ⟨⟨by rw [mst_same, h1.1 2 (by decide)], fun i hi => by rw [mst_other _ _ _ (by decide)]; exact h1.2 i hi⟩, fun q a b => by rw [mst_other _ _ _ a]; exact h1.1 q b⟩ h3
    · omega
