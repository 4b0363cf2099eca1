/-! the reference: ENTER, doors, state, come -/
def entP (h : Nat → Int32) (t : Nat) : Option Nat := match t with
  | 0 => none
  | a + 1 => if h (a * 18 + 10) = nI 2 then (if h (a * 18 + 7) = -1 then none else some (h (a * 18 + 7)).toNatClampNeg) else none
def tgl (h : Nat → Int32) (c : Nat) : Nat → Int32 := upd h (c * 18 + 5) (nI 1 - h (c * 18 + 5))
theorem TR_upd {h : Nat → Int32} {n : Nat} (ht : TR h n) {c w : Nat} (hw : w < 18) (h11 : w ≠ 11) (v : Int32) : TR (upd h (c * 18 + w) v) n := by
  have e : ∀ p, upd h (c * 18 + w) v (p * 18 + 11) = h (p * 18 + 11) := fun p => by
    rw [upd, if_neg (by omega)]
  refine ⟨by rw [e 0]; exact ht.1, fun p a b => ?_⟩
  unfold par
  rw [e p]
  exact ht.2 p a b

theorem s_X8_enter_none {M : Mm} {n : Nat} {b : Int32} (hn : n ≤ 24) : ∀ t, t ≤ n → M 0 2 = pm t → entP (M 1) t = none → Ct MSh mX8_pressed [.ref 0, .int (nI 2), .int b] M (RetV M)
  | 0, ht2, hf, he => by
    show Ev _ _ 0 [.ref 0, .int (nI 2), .int b, .null] [] M _
    refine ev_iload_n 1 dX8_pressed_0 rfl rfl ?_
    refine ev_iconst 2 (nI 2) dX8_pressed_1 (by decide) rfl ?_
    refine ev_icmp_neN 5 80 dX8_pressed_2 (by decide) rfl (by omega) (by omega) (fun c2 => ?_) (fun c2 => ?_)
    · exact absurd rfl c2
    · refine ev_aload_n 6 dX8_pressed_5 rfl rfl ?_
      refine ev_getIv 9 (-1) dX8_pressed_6 rfl flX8_49 rfl rfl (by rw [hf, pm_0]) ?_
      refine ev_iconst 10 (-1) dX8_pressed_9 (by decide) rfl ?_
      refine ev_icmp_eq 13 79 dX8_pressed_10 (by decide) rfl (fun c10 => ?_) (fun c10 => ?_)
      · exact ev_vret dX8_pressed_79 rfl (⟨rfl, rfl⟩)
      · exact absurd rfl c10
  | a + 1, ht2, hf, he => by
    show Ev _ _ 0 [.ref 0, .int (nI 2), .int b, .null] [] M _
    refine ev_iload_n 1 dX8_pressed_0 rfl rfl ?_
    refine ev_iconst 2 (nI 2) dX8_pressed_1 (by decide) rfl ?_
    refine ev_icmp_neN 5 80 dX8_pressed_2 (by decide) rfl (by omega) (by omega) (fun c2 => ?_) (fun c2 => ?_)
    · exact absurd rfl c2
    · refine ev_aload_n 6 dX8_pressed_5 rfl rfl ?_
      refine ev_getIv 9 (nI a) dX8_pressed_6 rfl flX8_49 rfl rfl (by rw [hf, pm_s]) ?_
      refine ev_iconst 10 (-1) dX8_pressed_9 (by decide) rfl ?_
      refine ev_icmp_eq 13 79 dX8_pressed_10 (by decide) rfl (fun c10 => ?_) (fun c10 => ?_)
      · exact absurd c10 (nI_m1 (by omega))
      · refine ev_aload_n 14 dX8_pressed_13 rfl rfl ?_
        refine ev_aload_n 15 dX8_pressed_14 rfl rfl ?_
        refine ev_getIv 18 (nI a) dX8_pressed_15 rfl flX8_49 rfl rfl (by rw [hf, pm_s]) ?_
        refine ev_bipush 20 (nI 10) dX8_pressed_18 (by decide) rfl ?_
        refine ev_cV2I (M 1 (a * 18 + 10)) M 23 dX8_pressed_20 mlX8_74 moX8_get rfl imX8_get ⟨_, _, rfl, rfl, rfl⟩ (Nat.le_of_ble_eq_true rfl) (Nat.le_of_ble_eq_true rfl) rfl (s_X8_get (a := a) (b := 10) (by omega) (by omega)) ?_
        refine ev_iconst 24 (nI 2) dX8_pressed_23 (by decide) rfl ?_
        refine ev_icmp_ne 27 79 dX8_pressed_24 (by decide) rfl (fun c24 => ?_) (fun c24 => ?_)
        · exact ev_vret dX8_pressed_79 rfl (⟨rfl, rfl⟩)
        · refine ev_aload_n 28 dX8_pressed_27 rfl rfl ?_
          refine ev_aload_n 29 dX8_pressed_28 rfl rfl ?_
          refine ev_getIv 32 (nI a) dX8_pressed_29 rfl flX8_49 rfl rfl (by rw [hf, pm_s]) ?_
          refine ev_bipush 34 (nI 7) dX8_pressed_32 (by decide) rfl ?_
          refine ev_cV2I (M 1 (a * 18 + 7)) M 37 dX8_pressed_34 mlX8_74 moX8_get rfl imX8_get ⟨_, _, rfl, rfl, rfl⟩ (Nat.le_of_ble_eq_true rfl) (Nat.le_of_ble_eq_true rfl) rfl (s_X8_get (a := a) (b := 7) (by omega) (by omega)) ?_
          refine ev_iconst 38 (-1) dX8_pressed_37 (by decide) rfl ?_
          refine ev_icmp_eq 41 79 dX8_pressed_38 (by decide) rfl (fun c38 => ?_) (fun c38 => ?_)
          · exact ev_vret dX8_pressed_79 rfl (⟨rfl, rfl⟩)
          · rw [entP, if_pos c24, if_neg c38] at he
            cases he
theorem s_X8_enter_66 {M : Mm} {n t c : Nat} {sp : List Nat} {x : Int32} {b : Bool} (ht : TR (M 1) n) (hn : n ≤ 24) (hc : c < n) (ht2 : t ≤ n) (hf : M 0 2 = pm t) (hsp : rowAt M 2 0 3 sp) (hnd : sp.Nodup) (hb : ∀ y ∈ sp, y < 24) : Ev MSh mX8_pressed 66 [.ref 0, .int x, .int (bI b), .int (nI c)] [] M (fun r M2 => r = none ∧ (∀ k, k ≠ 0 → k ≠ 2 → M2 k = M k) ∧ (∀ j, j ≠ 2 → j ≠ 3 → M2 0 j = M 0 j) ∧ M2 0 2 = pm (lkS (M 1) t) ∧ rowAt M2 2 0 3 (if b then spkS (M 1) sp c else sp)) := by
  refine ev_iload_n 67 dX8_pressed_66 rfl rfl ?_
  refine ev_if_eqB 70 75 dX8_pressed_67 (by decide) rfl (fun c67 => ?_) (fun c67 => ?_)
  · refine ev_aload_n 76 dX8_pressed_75 rfl rfl ?_
    refine ev_cV0 79 dX8_pressed_76 mlX8_104 moX8_lookAtFocus rfl imX8_lookAtFocus ⟨_, _, rfl, rfl, rfl⟩ (Nat.le_of_ble_eq_true rfl) (Nat.le_of_ble_eq_true rfl) rfl (s_X8_lookAtFocus ht hn t ht2 hf) ?_
    rintro r M3 ⟨rfl, h4, h5⟩
    exact ev_vret dX8_pressed_79 rfl (⟨rfl, fun k a b => h4.1 k a, fun j a b => h4.2 j a, h5, by rw [c67, if_neg (by decide)]; exact hsp.of (h4.1 2 (by decide)) (h4.2 3 (by decide))⟩)
  · refine ev_aload_n 71 dX8_pressed_70 rfl rfl ?_
    refine ev_iload_n 72 dX8_pressed_71 rfl rfl ?_
    refine ev_cV1 75 dX8_pressed_72 mlX8_100 moX8_speak rfl imX8_speak ⟨_, _, rfl, rfl, rfl⟩ (Nat.le_of_ble_eq_true rfl) (Nat.le_of_ble_eq_true rfl) rfl (s_X8_speak ht hn hc hsp hnd hb) ?_
    rintro r M2 ⟨rfl, h2, h3⟩
    refine ev_aload_n 76 dX8_pressed_75 rfl rfl ?_
    refine ev_cV0 79 dX8_pressed_76 mlX8_104 moX8_lookAtFocus rfl imX8_lookAtFocus ⟨_, _, rfl, rfl, rfl⟩ (Nat.le_of_ble_eq_true rfl) (Nat.le_of_ble_eq_true rfl) rfl (s_X8_lookAtFocus (by rw [h2.1 1 (by decide) (by decide)]; exact ht) hn t ht2 (by rw [h2.2 2 (by decide)]; exact hf)) ?_
    rintro r M3 ⟨rfl, h4, h5⟩
    exact ev_vret dX8_pressed_79 rfl (⟨rfl, fun k a b => by rw [h4.1 k a]; exact h2.1 k a b, fun j a b => by rw [h4.2 j a]; exact h2.2 j b, by rw [h5, h2.1 1 (by decide) (by decide)], by rw [c67, if_pos rfl]; exact h3.of (h4.1 2 (by decide)) (h4.2 3 (by decide))⟩)
theorem s_X8_enter_some {M : Mm} {n a c : Nat} {sp : List Nat} {b : Bool} (ht : TR (M 1) n) (hn : n ≤ 24) (ha : a + 1 ≤ n) (hf : M 0 2 = pm (a + 1)) (hk : M 1 (a * 18 + 10) = nI 2) (hoc : M 1 (a * 18 + 7) = nI c) (hc : c < n) (hsp : rowAt M 2 0 3 sp) (hnd : sp.Nodup) (hb : ∀ y ∈ sp, y < 24) : Ct MSh mX8_pressed [.ref 0, .int (nI 2), .int (bI b)] M (fun r M2 => r = none ∧ M2 1 = tgl (M 1) c ∧ (∀ k, k ≠ 0 → k ≠ 1 → k ≠ 2 → M2 k = M k) ∧ (∀ j, j ≠ 2 → j ≠ 3 → M2 0 j = M 0 j) ∧ M2 0 2 = pm (lkS (tgl (M 1) c) (a + 1)) ∧ rowAt M2 2 0 3 (if b then spkS (tgl (M 1) c) sp c else sp)) := by
  show Ev _ _ 0 [.ref 0, .int (nI 2), .int (bI b), .null] [] M _
  refine ev_iload_n 1 dX8_pressed_0 rfl rfl ?_
  refine ev_iconst 2 (nI 2) dX8_pressed_1 (by decide) rfl ?_
  refine ev_icmp_neN 5 80 dX8_pressed_2 (by decide) rfl (by omega) (by omega) (fun c2 => ?_) (fun c2 => ?_)
  · exact absurd rfl c2
  · refine ev_aload_n 6 dX8_pressed_5 rfl rfl ?_
    refine ev_getIv 9 (nI a) dX8_pressed_6 rfl flX8_49 rfl rfl (by rw [hf, pm_s]) ?_
    refine ev_iconst 10 (-1) dX8_pressed_9 (by decide) rfl ?_
    refine ev_icmp_eq 13 79 dX8_pressed_10 (by decide) rfl (fun c10 => ?_) (fun c10 => ?_)
    · exact absurd c10 (nI_m1 (by omega))
    · refine ev_aload_n 14 dX8_pressed_13 rfl rfl ?_
      refine ev_aload_n 15 dX8_pressed_14 rfl rfl ?_
      refine ev_getIv 18 (nI a) dX8_pressed_15 rfl flX8_49 rfl rfl (by rw [hf, pm_s]) ?_
      refine ev_bipush 20 (nI 10) dX8_pressed_18 (by decide) rfl ?_
      refine ev_cV2I (M 1 (a * 18 + 10)) M 23 dX8_pressed_20 mlX8_74 moX8_get rfl imX8_get ⟨_, _, rfl, rfl, rfl⟩ (Nat.le_of_ble_eq_true rfl) (Nat.le_of_ble_eq_true rfl) rfl (s_X8_get (a := a) (b := 10) (by omega) (by omega)) ?_
      refine ev_iconst 24 (nI 2) dX8_pressed_23 (by decide) rfl ?_
      refine ev_icmp_ne 27 79 dX8_pressed_24 (by decide) rfl (fun c24 => ?_) (fun c24 => ?_)
      · exact absurd hk c24
      · refine ev_aload_n 28 dX8_pressed_27 rfl rfl ?_
        refine ev_aload_n 29 dX8_pressed_28 rfl rfl ?_
        refine ev_getIv 32 (nI a) dX8_pressed_29 rfl flX8_49 rfl rfl (by rw [hf, pm_s]) ?_
        refine ev_bipush 34 (nI 7) dX8_pressed_32 (by decide) rfl ?_
        refine ev_cV2I (M 1 (a * 18 + 7)) M 37 dX8_pressed_34 mlX8_74 moX8_get rfl imX8_get ⟨_, _, rfl, rfl, rfl⟩ (Nat.le_of_ble_eq_true rfl) (Nat.le_of_ble_eq_true rfl) rfl (s_X8_get (a := a) (b := 7) (by omega) (by omega)) ?_
        refine ev_iconst 38 (-1) dX8_pressed_37 (by decide) rfl ?_
        refine ev_icmp_eq 41 79 dX8_pressed_38 (by decide) rfl (fun c38 => ?_) (fun c38 => ?_)
        · exact absurd (hoc.symm.trans c38) (nI_m1 (by omega))
        · refine ev_aload_n 42 dX8_pressed_41 rfl rfl ?_
          refine ev_aload_n 43 dX8_pressed_42 rfl rfl ?_
          refine ev_getIv 46 (nI a) dX8_pressed_43 rfl flX8_49 rfl rfl (by rw [hf, pm_s]) ?_
          refine ev_bipush 48 (nI 7) dX8_pressed_46 (by decide) rfl ?_
          refine ev_cV2I (nI c) M 51 dX8_pressed_48 mlX8_74 moX8_get rfl imX8_get ⟨_, _, rfl, rfl, rfl⟩ (Nat.le_of_ble_eq_true rfl) (Nat.le_of_ble_eq_true rfl) rfl (by have z := s_X8_get (M := M) (a := a) (b := 7) (by omega) (by omega); rwa [hoc] at z) ?_
          refine ev_istore_n 52 _ dX8_pressed_51 (by decide) rfl rfl rfl ?_
          refine ev_aload_n 53 dX8_pressed_52 rfl rfl ?_
          refine ev_iload_n 54 dX8_pressed_53 rfl rfl ?_
          refine ev_iconst 55 (nI 5) dX8_pressed_54 (by decide) rfl ?_
          refine ev_iconst 56 (nI 1) dX8_pressed_55 (by decide) rfl ?_
          refine ev_aload_n 57 dX8_pressed_56 rfl rfl ?_
          refine ev_iload_n 58 dX8_pressed_57 rfl rfl ?_
          refine ev_iconst 59 (nI 5) dX8_pressed_58 (by decide) rfl ?_
          refine ev_cV2I (M 1 (c * 18 + 5)) M 62 dX8_pressed_59 mlX8_74 moX8_get rfl imX8_get ⟨_, _, rfl, rfl, rfl⟩ (Nat.le_of_ble_eq_true rfl) (Nat.le_of_ble_eq_true rfl) rfl (s_X8_get (a := c) (b := 5) (by omega) (by omega)) ?_
          refine ev_isub 63 dX8_pressed_62 rfl ?_
          refine ev_cV3V _ 66 dX8_pressed_63 mlX8_60 moX8_put rfl imX8_put ⟨_, _, rfl, rfl, rfl⟩ (Nat.le_of_ble_eq_true rfl) (Nat.le_of_ble_eq_true rfl) rfl (s_X8_put (b := 5) (by omega) (by omega)) ?_
          have e1 : mst M 1 (c * 18 + 5) (nI 1 - M 1 (c * 18 + 5)) 1 = tgl (M 1) c := by rw [mst_same, tgl]
          have z := s_X8_enter_66 (M := mst M 1 (c * 18 + 5) (nI 1 - M 1 (c * 18 + 5))) (t := a + 1) (c := c) (sp := sp) (x := nI 2) (b := b) (by rw [e1]; exact TR_upd ht (by omega) (by omega) _) hn hc ha (by rw [mst_other _ _ _ (by decide)]; exact hf) (hsp.of (mst_other _ _ _ (by decide)) (by rw [mst_other _ _ _ (by decide)])) hnd hb
          rw [e1] at z
          refine Ev.mono z (fun r M2 q => ⟨q.1, by rw [q.2.1 1 (by decide) (by decide)]; exact e1, fun k k0 k1 k2 => by rw [q.2.1 k k0 k2, mst_other _ _ _ k1], fun j a b => by rw [q.2.2.1 j a b, mst_other _ _ _ (by decide)], q.2.2.2.1, q.2.2.2.2⟩)
def dsF (h : Nat → Int32) (n : Nat) : Nat → List Nat
  | 0 => []
  | k + 1 => dsF h n k ++ (if opC h (-1) n k then [k] else [])
theorem dsF_mono (h : Nat → Int32) (n : Nat) : ∀ d i, (dsF h n i).length ≤ (dsF h n (i + d)).length
  | 0, i => Nat.le_refl _
  | d + 1, i => by
    have := dsF_mono h n d i
    rw [← Nat.add_assoc, dsF, List.length_append]
    omega
def SmD (M M1 : Mm) : Prop := (∀ k, k ≠ 0 → k ≠ 9 → M1 k = M k) ∧ ∀ j, j ≠ 14 → M1 0 j = M 0 j
theorem s_X8_findDoors_k {M : Mm} {n : Nat} (hn : n ≤ 24) (hm : M 0 0 = nI n) (h6 : (dsF (M 1) n n).length ≤ 6) : ∀ d i (M1 : Mm), 1 ≤ i → i + d = n → SmD M M1 → rowAt M1 9 0 14 (dsF (M 1) n i) → Ev MSh mX8_findDoors 7 [.ref 0, .int (nI i)] [] M1 (fun r M2 => r = none ∧ SmD M M2 ∧ rowAt M2 9 0 14 (dsF (M 1) n n))
  | 0, i, M1, h1, h, hs, hr => by
    have hm1 : M1 0 0 = nI n := by rw [hs.2 0 (by decide)]; exact hm
    refine ev_iload_n 8 dX8_findDoors_7 rfl rfl ?_
    refine ev_aload_n 9 dX8_findDoors_8 rfl rfl ?_
    refine ev_getIv 12 (nI n) dX8_findDoors_9 rfl flX8_57 rfl rfl hm1 ?_
    refine ev_icmp_geN 15 50 dX8_findDoors_12 (by decide) rfl (by omega) (by omega) (fun c12 => ?_) (fun c12 => ?_)
    · exact ev_vret dX8_findDoors_50 rfl (⟨rfl, hs, by rw [show i = n by omega] at hr; exact hr⟩)
    · omega
  | d + 1, i, M1, h1, h, hs, hr => by
    have hm1 : M1 0 0 = nI n := by rw [hs.2 0 (by decide)]; exact hm
    refine ev_iload_n 8 dX8_findDoors_7 rfl rfl ?_
    refine ev_aload_n 9 dX8_findDoors_8 rfl rfl ?_
    refine ev_getIv 12 (nI n) dX8_findDoors_9 rfl flX8_57 rfl rfl hm1 ?_
    refine ev_icmp_geN 15 50 dX8_findDoors_12 (by decide) rfl (by omega) (by omega) (fun c12 => ?_) (fun c12 => ?_)
    · omega
    · refine ev_aload_n 16 dX8_findDoors_15 rfl rfl ?_
      refine ev_iload_n 17 dX8_findDoors_16 rfl rfl ?_
      refine ev_iconst 18 (-1) dX8_findDoors_17 (by decide) rfl ?_
      refine ev_cV2I (bI (opB (M 1) (-1) i n)) M1 21 dX8_findDoors_18 mlX8_78 moX8_isOpenedBy rfl imX8_isOpenedBy ⟨_, _, rfl, rfl, rfl⟩ (Nat.le_of_ble_eq_true rfl) (Nat.le_of_ble_eq_true rfl) rfl (by have z := s_X8_isOpenedBy (M := M1) hn hm1 (-1) i; rwa [hs.1 1 (by decide) (by decide)] at z) ?_
      refine ev_if_eqB 24 44 dX8_findDoors_21 (by decide) rfl (fun c21 => ?_) (fun c21 => ?_)
      · refine ev_iincN 47 _ dX8_findDoors_44 rfl (by decide) rfl rfl rfl ?_
        refine ev_goto 7 dX8_findDoors_47 (by decide) ?_
        exact s_X8_findDoors_k hn hm h6 d (i + 1) M1 (by omega) (by omega) hs (by rw [dsF, opC, c21, Bool.and_false, if_neg (by decide), List.append_nil]; exact hr)
      · have hoc : opC (M 1) (-1) n i = true := by rw [opC, c21, decide_eq_true h1]; rfl
        have hmono := dsF_mono (M 1) n d (i + 1)
        rw [show i + 1 + d = n by omega, dsF, hoc, if_pos rfl, List.length_append] at hmono
        simp only [List.length_cons, List.length_nil] at hmono
        refine ev_aload_n 25 dX8_findDoors_24 rfl rfl ?_
        refine ev_getR 28 dX8_findDoors_25 rfl flX8_34 rfl rfl ?_
        refine ev_aload_n 29 dX8_findDoors_28 rfl rfl ?_
        refine ev_getIv 32 (nI (dsF (M 1) n i).length) dX8_findDoors_29 rfl flX8_175 rfl rfl hr.1 ?_
        refine ev_iload_n 33 dX8_findDoors_32 rfl rfl ?_
        refine ev_iaS 34 dX8_findDoors_33 rfl (by omega) (by decide) rfl ?_
        refine ev_aload_n 35 dX8_findDoors_34 rfl rfl ?_
        refine ev_dup 36 dX8_findDoors_35 rfl rfl ?_
        refine ev_getIv 39 (nI (dsF (M 1) n i).length) dX8_findDoors_36 rfl flX8_175 rfl rfl (by rw [mst_other _ _ _ (by decide)]; exact hr.1) ?_
        refine ev_iconst 40 (nI 1) dX8_findDoors_39 (by decide) rfl ?_
        refine ev_iaddN 41 dX8_findDoors_40 rfl ?_
        refine ev_putI 44 dX8_findDoors_41 rfl flX8_175 fiX8_14 rfl rfl ?_
        refine ev_iincN 47 _ dX8_findDoors_44 rfl (by decide) rfl rfl rfl ?_
        refine ev_goto 7 dX8_findDoors_47 (by decide) ?_
        exact s_X8_findDoors_k hn hm h6 d (i + 1) _ (by omega) (by omega) ⟨fun k a b => by rw [mst_other _ _ _ a, mst_other _ _ _ b]; exact hs.1 k a b, fun j hj => by rw [mst_same, upd, if_neg hj, mst_other _ _ _ (by decide)]; exact hs.2 j hj⟩ (by rw [dsF, hoc, if_pos rfl]; exact hr.push (by decide) (by omega))
theorem s_X8_findDoors {M : Mm} {n : Nat} (hn1 : 1 ≤ n) (hn : n ≤ 24) (hm : M 0 0 = nI n) (h6 : (dsF (M 1) n n).length ≤ 6) : Ct MSh mX8_findDoors [.ref 0] M (fun r M2 => r = none ∧ SmD M M2 ∧ rowAt M2 9 0 14 (dsF (M 1) n n)) := by
  show Ev _ _ 0 [.ref 0, .null] [] M _
  refine ev_aload_n 1 dX8_findDoors_0 rfl rfl ?_
  refine ev_iconst 2 (nI 0) dX8_findDoors_1 (by decide) rfl ?_
  refine ev_putI 5 dX8_findDoors_2 rfl flX8_175 fiX8_14 rfl rfl ?_
  refine ev_iconst 6 (nI 1) dX8_findDoors_5 (by decide) rfl ?_
  refine ev_istore_n 7 _ dX8_findDoors_6 (by decide) rfl rfl rfl ?_
  exact s_X8_findDoors_k hn hm h6 (n - 1) 1 _ (Nat.le_refl _) (by omega) ⟨fun k a b => mst_other _ _ _ a, fun j hj => by rw [mst_same, upd, if_neg hj]⟩ ⟨by rw [mst_same, upd, if_pos rfl]; rfl, by simp [dsF, opC], fun i hi => by simp [dsF, opC] at hi⟩
