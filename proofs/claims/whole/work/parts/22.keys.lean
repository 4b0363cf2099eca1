/-! Walks: doors, keys, the look -/
def mkN (P : Nat → Bool) : Nat → Nat
  | 0 => 0
  | k + 1 => mkN P k + (if P k then 2 ^ k else 0)
theorem mkN_lt (P : Nat → Bool) : ∀ k, mkN P k < 2 ^ k
  | 0 => by simp [mkN]
  | k + 1 => by
    have := mkN_lt P k
    rw [mkN, Nat.pow_succ]
    split <;> omega
theorem shl_1 {k : Nat} (hk : k < 31) : nI 1 <<< (nI k &&& 31) = nI (2 ^ k) := by
  rw [pk_shlN (n := 1) (nI k &&& 31) k (s_l k (by omega)) (by have := Nat.pow_lt_pow_right (show 1 < 2 by omega) (show k < 32 by omega); omega), Nat.one_mul]
theorem mkM_N (P : Nat → Bool) : ∀ k, k ≤ 31 → mkM P k = nI (mkN P k)
  | 0, _ => rfl
  | k + 1, hk => by
    rw [mkM, mkN, mkM_N P k (by omega), shl_1 (by omega)]
    split
    · have h := Nat.two_pow_add_eq_or_of_lt (mkN_lt P k) 1
      rw [fa_or, Nat.or_comm]
      rw [Nat.mul_one] at h
      rw [← h, Nat.add_comm]
    · rw [Nat.add_zero]
theorem xor_nI (a b : Nat) : nI a ^^^ nI b = nI (a ^^^ b) := by
  apply b_ext
  intro i hi
  rw [b_xor]
  unfold bt nI
  simp [hi]
theorem bt_nI (b : Nat) {i : Nat} (hi : i < 32) : bt (nI b) i = b.testBit i := by
  show (BitVec.ofNat 32 b).getLsbD i = _
  rw [BitVec.getLsbD_ofNat]
  simp [hi]
def drF (op : Int32) : Nat → List Nat
  | 0 => []
  | k + 1 => if bt op k && decide ((drF op k).length < 6) then drF op k ++ [k] else drF op k
theorem drF_len (op : Int32) : ∀ k, (drF op k).length ≤ 6
  | 0 => by simp [drF]
  | k + 1 => by
    have := drF_len op k
    unfold drF
    split
    · rename_i h
      simp only [Bool.and_eq_true, decide_eq_true_eq] at h
      simp; omega
    · exact this
theorem drF_lt (op : Int32) : ∀ k, ∀ x ∈ drF op k, x < k
  | 0, x, h => by simp [drF] at h
  | k + 1, x, h => by
    unfold drF at h
    split at h
    · rcases List.mem_append.mp h with h | h
      · have := drF_lt op k x h; omega
      · simp at h; omega
    · have := drF_lt op k x h; omega
def tdI (M1 M2 : Mm) (l : List Nat) : Prop := (∀ k, k ≠ 13 → k ≠ 14 → M2 k = M1 k) ∧ (∀ j, j ≠ 3 → j ≠ 4 → M2 13 j = M1 13 j) ∧ M2 13 3 = nI l.length ∧ l.length ≤ 6 ∧ ∀ i, i < l.length → M2 14 i = nI (nth l i)
theorem tdI.push {M1 M2 : Mm} {l : List Nat} {x : Nat} (h : tdI M1 M2 l) (hl : l.length < 6) : tdI M1 (mst (mst M2 14 l.length (nI x)) 13 3 (nI (l.length + 1))) (l ++ [x]) := by
  refine ⟨fun k a b => by rw [mst_other _ _ _ a, mst_other _ _ _ b]; exact h.1 k a b, fun j a b => by rw [mst_same, upd, if_neg a, mst_other _ _ _ (by decide)]; exact h.2.1 j a b, by rw [mst_same, upd, if_pos rfl, List.length_append]; rfl, by rw [List.length_append]; exact hl, fun i hi => ?_⟩
  rw [List.length_append] at hi
  rw [mst_other _ _ _ (by decide), mst_same, upd]
  by_cases e : i = l.length
  · rw [if_pos e, e, nth_last]
  · have hi2 : i < l.length := by simp at hi; omega
    rw [if_neg e, nth_app hi2]
    exact h.2.2.2.2 i hi2

theorem s_X6_takeDoors_k {M1 : Mm} {n : Nat} (hn : n ≤ 24) (hsz : M1 0 5 = nI n) (op : Int32) : ∀ d i (M2 : Mm), i + d = n → tdI M1 M2 (drF op i) → Ev XSh mX6_takeDoors 16 [.ref 13, .int op, .int (nI i)] [] M2 (fun r M3 => r = none ∧ tdI M1 M3 (drF op n) ∧ M3 13 4 = mkM (hidP M1) n &&& (op ^^^ (-1)))
  | 0, i, M2, h, h2 => by
    have hi : n = i := by omega
    subst hi
    have hs1 : M2 0 5 = nI n := by rw [h2.1 0 (by decide) (by decide)]; exact hsz
    have hdl := h2.2.2.2.1
    refine ev_iload_n 17 dX6_takeDoors_16 rfl rfl ?_
    refine ev_aload_n 18 dX6_takeDoors_17 rfl rfl ?_
    refine ev_getR 21 dX6_takeDoors_18 rfl flX6_27 rfl rfl ?_
    refine ev_getIv 24 (nI n) dX6_takeDoors_21 rfl flX6_83 rfl rfl hs1 ?_
    refine ev_icmp_geN 27 70 dX6_takeDoors_24 (by decide) rfl (by omega) (by omega) (fun c24 => ?_) (fun c24 => ?_)
    · refine ev_aload_n 71 dX6_takeDoors_70 rfl rfl ?_
      refine ev_aload_n 72 dX6_takeDoors_71 rfl rfl ?_
      refine ev_getR 75 dX6_takeDoors_72 rfl flX6_27 rfl rfl ?_
      refine ev_cV0I (mkM (hidP M1) n) M2 78 dX6_takeDoors_75 mlX6_86 moX2_hiddenNow rfl imX2_hiddenNow ⟨_, _, rfl, rfl, rfl⟩ (Nat.le_of_ble_eq_true rfl) (Nat.le_of_ble_eq_true rfl) rfl (by rw [show hidP M1 = hidP M2 from by funext j; rw [hidP, hidP, h2.1 1 (by decide) (by decide)]]; exact s_X2_hiddenNow hn hs1) ?_
      refine ev_iload_n 79 dX6_takeDoors_78 rfl rfl ?_
      refine ev_iconst 80 (-1) dX6_takeDoors_79 (by decide) rfl ?_
      refine ev_ixor 81 dX6_takeDoors_80 rfl ?_
      refine ev_iand 82 dX6_takeDoors_81 rfl ?_
      refine ev_putI 85 dX6_takeDoors_82 rfl flX6_39 fiX6_4 rfl rfl ?_
      exact ev_vret dX6_takeDoors_85 rfl (⟨rfl, ⟨fun k a b => by rw [mst_other _ _ _ a]; exact h2.1 k a b, fun j a b => by rw [mst_same, upd, if_neg b]; exact h2.2.1 j a b, by rw [mst_same, upd, if_neg (by decide)]; exact h2.2.2.1, h2.2.2.2.1, fun j hj => by rw [mst_other _ _ _ (by decide)]; exact h2.2.2.2.2 j hj⟩, by rw [mst_same, upd, if_pos rfl]⟩)
    · omega
  | d + 1, i, M2, h, h2 => by
    have hs1 : M2 0 5 = nI n := by rw [h2.1 0 (by decide) (by decide)]; exact hsz
    have hdl := h2.2.2.2.1
    refine ev_iload_n 17 dX6_takeDoors_16 rfl rfl ?_
    refine ev_aload_n 18 dX6_takeDoors_17 rfl rfl ?_
    refine ev_getR 21 dX6_takeDoors_18 rfl flX6_27 rfl rfl ?_
    refine ev_getIv 24 (nI n) dX6_takeDoors_21 rfl flX6_83 rfl rfl hs1 ?_
    refine ev_icmp_geN 27 70 dX6_takeDoors_24 (by decide) rfl (by omega) (by omega) (fun c24 => ?_) (fun c24 => ?_)
    · omega
    · refine ev_iload_n 28 dX6_takeDoors_27 rfl rfl ?_
      refine ev_iload_n 29 dX6_takeDoors_28 rfl rfl ?_
      refine ev_cS2I (bI (bt op i)) M2 32 dX6_takeDoors_29 mlX6_72 moX7_holds rfl smX7_holds (Nat.le_of_ble_eq_true rfl) (Nat.le_of_ble_eq_true rfl) rfl (by have := s_holds (Sh := XSh) (M := M2) op (nI i); rwa [hB_nI (by omega)] at this) ?_
      refine ev_if_eqB 35 64 dX6_takeDoors_32 (by decide) rfl (fun c32 => ?_) (fun c32 => ?_)
      · refine ev_iincN 67 _ dX6_takeDoors_64 rfl (by decide) rfl rfl rfl ?_
        refine ev_goto 16 dX6_takeDoors_67 (by decide) ?_
        exact s_X6_takeDoors_k hn hsz op d (i + 1) M2 (by omega) (by rw [drF, c32]; exact h2)
      · refine ev_aload_n 36 dX6_takeDoors_35 rfl rfl ?_
        refine ev_getIv 39 (nI (drF op i).length) dX6_takeDoors_36 rfl flX6_35 rfl rfl h2.2.2.1 ?_
        refine ev_bipush 41 (nI 6) dX6_takeDoors_39 (by decide) rfl ?_
        refine ev_icmp_geN 44 64 dX6_takeDoors_41 (by decide) rfl (by omega) (by omega) (fun c41 => ?_) (fun c41 => ?_)
        · refine ev_iincN 67 _ dX6_takeDoors_64 rfl (by decide) rfl rfl rfl ?_
          refine ev_goto 16 dX6_takeDoors_67 (by decide) ?_
          exact s_X6_takeDoors_k hn hsz op d (i + 1) M2 (by omega) (by rw [drF, c32, decide_eq_false (by omega)]; exact h2)
        · refine ev_aload_n 45 dX6_takeDoors_44 rfl rfl ?_
          refine ev_getR 48 dX6_takeDoors_45 rfl flX6_11 rfl rfl ?_
          refine ev_aload_n 49 dX6_takeDoors_48 rfl rfl ?_
          refine ev_getIv 52 (nI (drF op i).length) dX6_takeDoors_49 rfl flX6_35 rfl rfl h2.2.2.1 ?_
          refine ev_iload_n 53 dX6_takeDoors_52 rfl rfl ?_
          refine ev_iaS 54 dX6_takeDoors_53 rfl (by omega) (by decide) rfl ?_
          refine ev_aload_n 55 dX6_takeDoors_54 rfl rfl ?_
          refine ev_dup 56 dX6_takeDoors_55 rfl rfl ?_
          refine ev_getIv 59 (nI (drF op i).length) dX6_takeDoors_56 rfl flX6_35 rfl rfl (by rw [mst_other _ _ _ (by decide)]; exact h2.2.2.1) ?_
          refine ev_iconst 60 (nI 1) dX6_takeDoors_59 (by decide) rfl ?_
          refine ev_iaddN 61 dX6_takeDoors_60 rfl ?_
          refine ev_putI 64 dX6_takeDoors_61 rfl flX6_35 fiX6_3 rfl rfl ?_
          refine ev_iincN 67 _ dX6_takeDoors_64 rfl (by decide) rfl rfl rfl ?_
          refine ev_goto 16 dX6_takeDoors_67 (by decide) ?_
          exact s_X6_takeDoors_k hn hsz op d (i + 1) _ (by omega) (by rw [drF, c32, decide_eq_true (by omega)]; exact h2.push (by omega))
def opN (M : Mm) (n : Nat) : Int32 := opdF M (-1) n
def dlF (M : Mm) (n : Nat) : List Nat := drF (opN M n) n
def hgF (M : Mm) (n : Nat) : Int32 := mkM (hidP M) n &&& (opN M n ^^^ (-1))
theorem s_X6_takeDoors {M1 : Mm} {n : Nat} (hn : n ≤ 24) (hsz : M1 0 5 = nI n) : Ct XSh mX6_takeDoors [.ref 13] M1 (fun r M3 => r = none ∧ tdI M1 M3 (dlF M1 n) ∧ M3 13 4 = hgF M1 n) := by
  show Ev _ _ 0 [.ref 13, .null, .null] [] M1 _
  refine ev_aload_n 1 dX6_takeDoors_0 rfl rfl ?_
  refine ev_getR 4 dX6_takeDoors_1 rfl flX6_27 rfl rfl ?_
  refine ev_iconst 5 (-1) dX6_takeDoors_4 (by decide) rfl ?_
  refine ev_cV1I _ M1 8 dX6_takeDoors_5 mlX6_80 moX2_openedBesides rfl imX2_openedBesides ⟨_, _, rfl, rfl, rfl⟩ (Nat.le_of_ble_eq_true rfl) (Nat.le_of_ble_eq_true rfl) rfl (s_X2_openedBesides (-1) hn hsz) ?_
  refine ev_istore_n 9 _ dX6_takeDoors_8 (by decide) rfl rfl rfl ?_
  refine ev_aload_n 10 dX6_takeDoors_9 rfl rfl ?_
  refine ev_iconst 11 (nI 0) dX6_takeDoors_10 (by decide) rfl ?_
  refine ev_putI 14 dX6_takeDoors_11 rfl flX6_35 fiX6_3 rfl rfl ?_
  refine ev_iconst 15 (nI 0) dX6_takeDoors_14 (by decide) rfl ?_
  refine ev_istore_n 16 _ dX6_takeDoors_15 (by decide) rfl rfl rfl ?_
  exact s_X6_takeDoors_k hn hsz _ n 0 _ (by omega) ⟨fun k a b => mst_other _ _ _ a, fun j a b => by rw [mst_same, upd, if_neg a], by rw [mst_same, upd]; rfl, by simp [drF], fun i hi => by simp [drF] at hi⟩
def shtP (M : Mm) (dl : List Nat) (d : Nat) : Bool := M 1 (nth dl d * 18 + 5) != 0
theorem s_X6_doorsShutNow_k {M : Mm} {dl : List Nat} {hg : Int32} (hd : dI M dl hg) (hb : ∀ x ∈ dl, x < 24) : ∀ d i, i + d = dl.length → Ev XSh mX6_doorsShutNow 4 [.ref 13, .int (mkM (shtP M dl) i), .int (nI i)] [] M (RetI (mkM (shtP M dl) dl.length) M)
  | 0, i, h => by
    have hle := hd.2.1
    refine ev_iload_n 5 dX6_doorsShutNow_4 rfl rfl ?_
    refine ev_aload_n 6 dX6_doorsShutNow_5 rfl rfl ?_
    refine ev_getIv 9 (nI dl.length) dX6_doorsShutNow_6 rfl flX6_35 rfl rfl hd.1 ?_
    refine ev_icmp_geN 12 41 dX6_doorsShutNow_9 (by decide) rfl (by omega) (by omega) (fun c9 => ?_) (fun c9 => ?_)
    · refine ev_iload_n 42 dX6_doorsShutNow_41 rfl rfl ?_
      exact ev_iret dX6_doorsShutNow_42 rfl (⟨by rw [show dl.length = i by omega], rfl⟩)
    · omega
  | d + 1, i, h => by
    have hle := hd.2.1
    refine ev_iload_n 5 dX6_doorsShutNow_4 rfl rfl ?_
    refine ev_aload_n 6 dX6_doorsShutNow_5 rfl rfl ?_
    refine ev_getIv 9 (nI dl.length) dX6_doorsShutNow_6 rfl flX6_35 rfl rfl hd.1 ?_
    refine ev_icmp_geN 12 41 dX6_doorsShutNow_9 (by decide) rfl (by omega) (by omega) (fun c9 => ?_) (fun c9 => ?_)
    · omega
    · refine ev_aload_n 13 dX6_doorsShutNow_12 rfl rfl ?_
      refine ev_getR 16 dX6_doorsShutNow_13 rfl flX6_27 rfl rfl ?_
      refine ev_aload_n 17 dX6_doorsShutNow_16 rfl rfl ?_
      refine ev_getR 20 dX6_doorsShutNow_17 rfl flX6_11 rfl rfl ?_
      refine ev_iload_n 21 dX6_doorsShutNow_20 rfl rfl ?_
      refine ev_iaN 22 (nI (nth dl i)) dX6_doorsShutNow_21 rfl (by omega) (by decide) rfl (hd.2.2.1 i (by omega)) ?_
      refine ev_iconst 23 (nI 5) dX6_doorsShutNow_22 (by decide) rfl ?_
      refine ev_cV2I _ M 26 dX6_doorsShutNow_23 mlX6_89 moX2_get rfl imX2_get ⟨_, _, rfl, rfl, rfl⟩ (Nat.le_of_ble_eq_true rfl) (Nat.le_of_ble_eq_true rfl) rfl (s_X2_get (a := nth dl i) (b := 5) (hb _ (getD_mem (by omega))) (by omega)) ?_
      refine ev_if_eq 29 35 dX6_doorsShutNow_26 (by decide) rfl (fun c26 => ?_) (fun c26 => ?_)
      · refine ev_iincN 38 _ dX6_doorsShutNow_35 rfl (by decide) rfl rfl rfl ?_
        refine ev_goto 4 dX6_doorsShutNow_38 (by decide) ?_
        have ih := s_X6_doorsShutNow_k hd hb d (i + 1) (by omega)
        rw [mkM_f (P := shtP M dl) (by simpa [shtP] using c26)] at ih
        exact ih
      · refine ev_iload_n 30 dX6_doorsShutNow_29 rfl rfl ?_
        refine ev_iconst 31 (nI 1) dX6_doorsShutNow_30 (by decide) rfl ?_
        refine ev_iload_n 32 dX6_doorsShutNow_31 rfl rfl ?_
        refine ev_ishl 33 dX6_doorsShutNow_32 rfl ?_
        refine ev_ior 34 dX6_doorsShutNow_33 rfl ?_
        refine ev_eqI (mkM_t (P := shtP M dl) (by simpa [shtP] using c26)) ?_
        refine ev_istore_n 35 _ dX6_doorsShutNow_34 (by decide) rfl rfl rfl ?_
        refine ev_iincN 38 _ dX6_doorsShutNow_35 rfl (by decide) rfl rfl rfl ?_
        refine ev_goto 4 dX6_doorsShutNow_38 (by decide) ?_
        exact s_X6_doorsShutNow_k hd hb d (i + 1) (by omega)
theorem s_X6_doorsShutNow {M : Mm} {dl : List Nat} {hg : Int32} (hd : dI M dl hg) (hb : ∀ x ∈ dl, x < 24) : Ct XSh mX6_doorsShutNow [.ref 13] M (RetI (nI (mkN (shtP M dl) dl.length)) M) := by
  have hle := hd.2.1
  rw [← mkM_N _ _ (by omega)]
  show Ev _ _ 0 [.ref 13, .null, .null] [] M _
  refine ev_iconst 1 (nI 0) dX6_doorsShutNow_0 (by decide) rfl ?_
  refine ev_istore_n 2 _ dX6_doorsShutNow_1 (by decide) rfl rfl rfl ?_
  refine ev_iconst 3 (nI 0) dX6_doorsShutNow_2 (by decide) rfl ?_
  refine ev_istore_n 4 _ dX6_doorsShutNow_3 (by decide) rfl rfl rfl ?_
  exact s_X6_doorsShutNow_k hd hb dl.length 0 (by omega)
def trnN (l : List Nat) (am key : Int32) (t : Nat) : Nat → Nat → Nat
  | 0, _ => t
  | d + 1, k => if hB am (nI (nth l (nxK l.length key k))) then nth l (nxK l.length key k) + 1 else trnN l am key t d (nxK l.length key k + 1)
theorem trnF_pm (l : List Nat) (am key : Int32) (t : Nat) : ∀ d k, trnF l am key (pm t) d k = pm (trnN l am key t d k)
  | 0, _ => rfl
  | d + 1, k => by
    rw [trnF, trnN]
    split
    · rw [pm_s]
    · exact trnF_pm l am key t d _
theorem trnN_le {l : List Nat} (hb : ∀ x ∈ l, x < 24) (am key : Int32) {t : Nat} (ht : t ≤ 24) : ∀ d k, k ≤ l.length → d ≤ l.length → trnN l am key t d k ≤ 24
  | 0, _, _, _ => ht
  | d + 1, k, hk, hd => by
    have hj := nxK_lt key (show 0 < l.length by omega) hk
    rw [trnN]
    split
    · exact hb _ (getD_mem hj)
    · exact trnN_le hb am key ht d _ hj (by omega)
def turnN (M : Mm) (n : Nat) (l : List Nat) (sh key : Int32) (t : Nat) : Nat := trnN l (amF M n sh (trpF M n sh (pm t))) key t l.length (if hB (amF M n sh (trpF M n sh (pm t))) (pm t) then spK l (pm t) l.length else 0)
theorem turnF_pm (M : Mm) (n : Nat) (l : List Nat) (sh key : Int32) (t : Nat) : turnF M n l sh key (pm t) = pm (turnN M n l sh key t) := trnF_pm _ _ _ _ _ _
theorem turnN_le {M : Mm} {n : Nat} {l : List Nat} (hb : ∀ x ∈ l, x < 24) (sh key : Int32) {t : Nat} (ht : t ≤ 24) : turnN M n l sh key t ≤ 24 := by
  refine trnN_le hb _ _ ht _ _ ?_ (Nat.le_refl _)
  split
  · exact spK_le l _ _ (Nat.le_refl _)
  · exact Nat.zero_le _
theorem turnF_congr {M M1 : Mm} (h2 : M1 2 = M 2) (h3 : M1 3 = M 3) (h4 : M1 4 = M 4) (n : Nat) (l : List Nat) (sh key x : Int32) : turnF M1 n l sh key x = turnF M n l sh key x := by
  have a1 : trpF M1 n sh x = trpF M n sh x := by rw [trpF, trpF, h2, h4]
  have a2 : ∀ tr, amF M1 n sh tr = amF M n sh tr := fun tr => by rw [amF, amF, h3]
  rw [turnF, turnF, a1, a2]
theorem shIf_congr {M M1 : Mm} (h2 : M1 2 = M 2) (n : Nat) (dl : List Nat) (hg b : Int32) : shIf M1 n dl hg b = shIf M n dl hg b := by
  unfold shIf
  congr 1
  funext i
  simp only [shwP, h2]
def sNx (M : Mm) (n : Nat) (l dl : List Nat) (hg key : Int32) (s : Nat) : Nat := s / 25 * 25 + turnN M n l (shIf M n dl hg (nI (s / 25))) key (s % 25)
def dorN (M : Mm) (dl : List Nat) (s : Nat) : Nat := dofF dl (obF M (pm (s % 25))) dl.length
def sEn (M : Mm) (n : Nat) (dl : List Nat) (hg : Int32) (s : Nat) : Nat := (s / 25 ^^^ 2 ^ (dorN M dl s - 1)) * 25 + (if hB (shIf M n dl hg (nI (s / 25 ^^^ 2 ^ (dorN M dl s - 1)))) (pm (s % 25)) then s % 25 else 0)
theorem dofF_le (dl : List Nat) (op : Int32) : ∀ d, d ≤ dl.length → dofF dl op d ≤ dl.length
  | 0, _ => Nat.zero_le _
  | d + 1, h => by
    rw [dofF]
    split
    · omega
    · exact dofF_le dl op d (by omega)
def paF (M : Mm) (n : Nat) (l dl : List Nat) (hg : Int32) (q : List Qe) (a : Nat) : List Qe :=
  if dorN M dl (qs q a) = 0 then comeF (comeF q (cfE q a (sNx M n l dl hg (nI 0) (qs q a)) (nI 0))) (cfE q a (sNx M n l dl hg (nI 1) (qs q a)) (nI 1))
  else comeF (comeF (comeF q (cfE q a (sNx M n l dl hg (nI 0) (qs q a)) (nI 0))) (cfE q a (sNx M n l dl hg (nI 1) (qs q a)) (nI 1))) (cfE q a (sEn M n dl hg (qs q a)) (nI 2))
theorem cfE_come {q : List Qe} {a : Nat} (ha : a < q.length) (e : Qe) (s : Nat) (pr : Int32) : cfE (comeF q e) a s pr = cfE q a s pr ∧ qs (comeF q e) a = qs q a ∧ a < (comeF q e).length := by
  unfold comeF
  split
  · exact ⟨rfl, rfl, ha⟩
  · obtain ⟨h1, h2, h3⟩ := q_app (e := e) ha
    exact ⟨by rw [cfE, cfE, h2, h3], h1, by rw [List.length_append]; omega⟩
theorem xor_64 {b k : Nat} (hb : b < 64) (hk : k < 6) : b ^^^ 2 ^ k < 64 := Nat.xor_lt_two_pow (n := 6) hb (Nat.pow_lt_pow_right (by omega) hk)

theorem qI.sz {M M1 : Mm} {L n : Nat} {dl : List Nat} {hg : Int32} {q : List Qe} (h : qI M M1 L dl hg q) (hsz : M 0 5 = nI n) : M1 0 5 = nI n := by rw [h.1 0 (by decide)]; exact hsz
theorem qI.stops {M M1 : Mm} {L : Nat} {dl l : List Nat} {hg : Int32} {q : List Qe} (h : qI M M1 L dl hg q) (hl : rowAt M 12 11 2 l) : rowAt M1 12 11 2 l := hl.of (h.1 12 (by decide)) (by rw [h.1 11 (by decide)])
theorem nI_m1 {j : Nat} (h : j < 2 ^ 31) : ¬ nI j = -1 := fun e => by
  have h1 := congrArg Int32.toInt e
  rw [nI_toInt h] at h1
  have : (-1 : Int32).toInt = -1 := by decide
  omega
theorem s_X6_pressAllKeys {M M1 : Mm} {L n a : Nat} {l dl : List Nat} {hg : Int32} {q : List Qe} (hn : n ≤ 24) (hsz : M 0 5 = nI n) (hl : rowAt M 12 11 2 l) (hlb : ∀ x ∈ l, x < 24) (h : qI M M1 L dl hg q) (hL : L < 2 ^ 30) (ha : a < q.length) : Ct XSh mX6_pressAllKeys [.ref 13, .int (nI a)] M1 (fun r M2 => r = none ∧ qI M M2 L dl hg (paF M n l dl hg q a)) := by
  have hq := h.2.2.2.2.1
  have hr := h.2.2.2.2.2 a ha
  have hs := hr.2.2.2.1
  have hb64 : qs q a / 25 < 64 := by omega
  have hdl := h.2.1.2.1
  have hdor : dorN M dl (qs q a) ≤ dl.length := dofF_le _ _ _ (Nat.le_refl _)
  have hob : ∀ M3, (∀ {q3}, qI M M3 L dl hg q3 → obF M3 (pm (qs q a % 25)) = obF M (pm (qs q a % 25))) := fun M3 q3 h3 => by simp only [obF, h3.1 4 (by decide), h3.1 1 (by decide)]
  show Ev _ _ 0 [.ref 13, .int (nI a), .null, .null, .null, .null, .null] [] M1 _
  refine ev_iload_n 1 dX6_pressAllKeys_0 rfl rfl ?_
  refine ev_if_ltN 4 12 dX6_pressAllKeys_1 (by decide) rfl (by omega) ?_
  refine ev_iload_n 5 dX6_pressAllKeys_4 rfl rfl ?_
  refine ev_aload_n 6 dX6_pressAllKeys_5 rfl rfl ?_
  refine ev_getIv 9 (nI q.length) dX6_pressAllKeys_6 rfl flX6_42 rfl rfl h.2.2.2.1 ?_
  refine ev_icmp_ltN 12 13 dX6_pressAllKeys_9 (by decide) rfl (by omega) (by omega) (fun c9 => ?_) (fun c9 => ?_)
  · refine ev_aload_n 14 dX6_pressAllKeys_13 rfl rfl ?_
    refine ev_getR 17 dX6_pressAllKeys_14 rfl flX6_15 rfl rfl ?_
    refine ev_iload_n 18 dX6_pressAllKeys_17 rfl rfl ?_
    refine ev_iaN 19 (nI (qs q a)) dX6_pressAllKeys_18 rfl (by omega) (by decide) rfl hr.1 ?_
    refine ev_cS1I _ M1 22 dX6_pressAllKeys_19 mlX6_69 moX6_focusIn rfl smX6_focusIn (Nat.le_of_ble_eq_true rfl) (Nat.le_of_ble_eq_true rfl) rfl (s_focusIn hr.2.2.2.1) ?_
    refine ev_istore_n 23 _ dX6_pressAllKeys_22 (by decide) rfl rfl rfl ?_
    refine ev_aload_n 24 dX6_pressAllKeys_23 rfl rfl ?_
    refine ev_getR 27 dX6_pressAllKeys_24 rfl flX6_15 rfl rfl ?_
    refine ev_iload_n 28 dX6_pressAllKeys_27 rfl rfl ?_
    refine ev_iaN 29 (nI (qs q a)) dX6_pressAllKeys_28 rfl (by omega) (by decide) rfl hr.1 ?_
    refine ev_bipush 31 (nI 25) dX6_pressAllKeys_29 (by decide) rfl ?_
    refine ev_idiv 32 dX6_pressAllKeys_31 (by decide) rfl ?_
    refine ev_eqI (pk_div (by omega) (by omega) (by omega)) ?_
    refine ev_istore_n 33 _ dX6_pressAllKeys_32 (by decide) rfl rfl rfl ?_
    refine ev_aload_n 34 dX6_pressAllKeys_33 rfl rfl ?_
    refine ev_iload_n 35 dX6_pressAllKeys_34 rfl rfl ?_
    refine ev_cV1I (shIf M n dl hg (nI (qs q a / 25))) M1 38 dX6_pressAllKeys_35 mlX6_95 moX6_shownIf rfl imX6_shownIf ⟨_, _, rfl, rfl, rfl⟩ (Nat.le_of_ble_eq_true rfl) (Nat.le_of_ble_eq_true rfl) rfl (by rw [← shIf_congr (h.1 2 (by decide))]; exact s_X6_shownIf hn (h.sz hsz) h.2.1 _) ?_
    refine ev_istore 40 _ dX6_pressAllKeys_38 (by decide) rfl rfl rfl ?_
    refine ev_aload_n 41 dX6_pressAllKeys_40 rfl rfl ?_
    refine ev_iload_n 42 dX6_pressAllKeys_41 rfl rfl ?_
    refine ev_iconst 43 (nI 0) dX6_pressAllKeys_42 (by decide) rfl ?_
    refine ev_iload_n 44 dX6_pressAllKeys_43 rfl rfl ?_
    refine ev_aload_n 45 dX6_pressAllKeys_44 rfl rfl ?_
    refine ev_getR 48 dX6_pressAllKeys_45 rfl flX6_31 rfl rfl ?_
    refine ev_iload_n 49 dX6_pressAllKeys_48 rfl rfl ?_
    refine ev_iconst 50 (nI 0) dX6_pressAllKeys_49 (by decide) rfl ?_
    refine ev_iload 52 dX6_pressAllKeys_50 rfl rfl ?_
    refine ev_cV3I (pm (turnN M n l (shIf M n dl hg (nI (qs q a / 25))) (nI 0) (qs q a % 25))) M1 55 dX6_pressAllKeys_52 mlX6_98 moX5_turn rfl imX5_turn ⟨_, _, rfl, rfl, rfl⟩ (Nat.le_of_ble_eq_true rfl) (Nat.le_of_ble_eq_true rfl) rfl (by rw [← turnF_pm, ← turnF_congr (h.1 2 (by decide)) (h.1 3 (by decide)) (h.1 4 (by decide))]; exact s_X5_turn hn (h.sz hsz) (h.stops hl) _ _ _) ?_
    refine ev_cV4 58 dX6_pressAllKeys_55 mlX6_104 moX6_comeFrom rfl imX6_comeFrom ⟨_, _, rfl, rfl, rfl⟩ (Nat.le_of_ble_eq_true rfl) (Nat.le_of_ble_eq_true rfl) rfl (s_X6_comeFrom h hL ha hb64 (turnN_le hlb _ _ (by omega)) (nI 0)) ?_
    rintro r M2 ⟨rfl, h2⟩
    refine ev_aload_n 59 dX6_pressAllKeys_58 rfl rfl ?_
    refine ev_iload_n 60 dX6_pressAllKeys_59 rfl rfl ?_
    refine ev_iconst 61 (nI 1) dX6_pressAllKeys_60 (by decide) rfl ?_
    refine ev_iload_n 62 dX6_pressAllKeys_61 rfl rfl ?_
    refine ev_aload_n 63 dX6_pressAllKeys_62 rfl rfl ?_
    refine ev_getR 66 dX6_pressAllKeys_63 rfl flX6_31 rfl rfl ?_
    refine ev_iload_n 67 dX6_pressAllKeys_66 rfl rfl ?_
    refine ev_iconst 68 (nI 1) dX6_pressAllKeys_67 (by decide) rfl ?_
    refine ev_iload 70 dX6_pressAllKeys_68 rfl rfl ?_
    refine ev_cV3I (pm (turnN M n l (shIf M n dl hg (nI (qs q a / 25))) (nI 1) (qs q a % 25))) M2 73 dX6_pressAllKeys_70 mlX6_98 moX5_turn rfl imX5_turn ⟨_, _, rfl, rfl, rfl⟩ (Nat.le_of_ble_eq_true rfl) (Nat.le_of_ble_eq_true rfl) rfl (by rw [← turnF_pm, ← turnF_congr (h2.1 2 (by decide)) (h2.1 3 (by decide)) (h2.1 4 (by decide))]; exact s_X5_turn hn (h2.sz hsz) (h2.stops hl) _ _ _) ?_
    refine ev_cV4 76 dX6_pressAllKeys_73 mlX6_104 moX6_comeFrom rfl imX6_comeFrom ⟨_, _, rfl, rfl, rfl⟩ (Nat.le_of_ble_eq_true rfl) (Nat.le_of_ble_eq_true rfl) rfl (s_X6_comeFrom h2 hL (cfE_come ha _ 0 0).2.2 hb64 (turnN_le hlb _ _ (by omega)) (nI 1)) ?_
    rintro r M3 ⟨rfl, h3⟩
    rw [(cfE_come ha _ _ _).1] at h3
    have ha3 := (cfE_come (cfE_come ha (cfE q a (sNx M n l dl hg (nI 0) (qs q a)) (nI 0)) 0 0).2.2 (cfE q a (sNx M n l dl hg (nI 1) (qs q a)) (nI 1)) 0 0).2.2
    refine ev_aload_n 77 dX6_pressAllKeys_76 rfl rfl ?_
    refine ev_iload_n 78 dX6_pressAllKeys_77 rfl rfl ?_
    refine ev_cV1I (pm (dorN M dl (qs q a))) M3 81 dX6_pressAllKeys_78 mlX6_107 moX6_doorOf rfl imX6_doorOf ⟨_, _, rfl, rfl, rfl⟩ (Nat.le_of_ble_eq_true rfl) (Nat.le_of_ble_eq_true rfl) rfl (by rw [dorN, ← hob M3 h3]; exact s_X6_doorOf h3.2.1 _) ?_
    refine ev_istore 83 _ dX6_pressAllKeys_81 (by decide) rfl rfl rfl ?_
    refine ev_iload 85 dX6_pressAllKeys_83 rfl rfl ?_
    refine ev_iconst 86 (-1) dX6_pressAllKeys_85 (by decide) rfl ?_
    refine ev_icmp_eq 89 123 dX6_pressAllKeys_86 (by decide) rfl (fun c86 => ?_) (fun c86 => ?_)
    · exact ev_vret dX6_pressAllKeys_123 rfl (⟨rfl, by rw [paF, if_pos (by cases z : dorN M dl (qs q a) with
    | zero => rfl
    | succ j => rw [z, pm_s] at c86; exact absurd c86 (nI_m1 (by have := hdor; omega)))]; exact h3⟩)
    · have hk0 : dorN M dl (qs q a) ≠ 0 := fun z => c86 (by rw [z, pm_0])
      obtain ⟨dk, hdk⟩ : ∃ dk, dorN M dl (qs q a) = dk + 1 := ⟨dorN M dl (qs q a) - 1, by omega⟩
      refine ev_iload_n 90 dX6_pressAllKeys_89 rfl rfl ?_
      refine ev_iconst 91 (nI 1) dX6_pressAllKeys_90 (by decide) rfl ?_
      refine ev_iload 93 dX6_pressAllKeys_91 rfl rfl ?_
      refine ev_ishl 94 dX6_pressAllKeys_93 rfl ?_
      refine ev_ixor 95 dX6_pressAllKeys_94 rfl ?_
      refine ev_eqI (show nI (qs q a / 25) ^^^ (nI 1 <<< (pm (dorN M dl (qs q a)) &&& 31)) = nI (qs q a / 25 ^^^ 2 ^ (dorN M dl (qs q a) - 1)) from by rw [hdk, pm_s, shl_1 (by omega), xor_nI, Nat.add_sub_cancel]) ?_
      have hx64 : qs q a / 25 ^^^ 2 ^ (dorN M dl (qs q a) - 1) < 64 := xor_64 (by omega) (by omega)
      refine ev_istore 97 _ dX6_pressAllKeys_95 (by decide) rfl rfl rfl ?_
      refine ev_aload_n 98 dX6_pressAllKeys_97 rfl rfl ?_
      refine ev_iload_n 99 dX6_pressAllKeys_98 rfl rfl ?_
      refine ev_iconst 100 (nI 2) dX6_pressAllKeys_99 (by decide) rfl ?_
      refine ev_iload 102 dX6_pressAllKeys_100 rfl rfl ?_
      refine ev_aload_n 103 dX6_pressAllKeys_102 rfl rfl ?_
      refine ev_iload 105 dX6_pressAllKeys_103 rfl rfl ?_
      refine ev_cV1I (shIf M n dl hg (nI (qs q a / 25 ^^^ 2 ^ (dorN M dl (qs q a) - 1)))) M3 108 dX6_pressAllKeys_105 mlX6_95 moX6_shownIf rfl imX6_shownIf ⟨_, _, rfl, rfl, rfl⟩ (Nat.le_of_ble_eq_true rfl) (Nat.le_of_ble_eq_true rfl) rfl (by rw [← shIf_congr (h3.1 2 (by decide))]; exact s_X6_shownIf hn (h3.sz hsz) h3.2.1 _) ?_
      refine ev_iload_n 109 dX6_pressAllKeys_108 rfl rfl ?_
      refine ev_cS2I _ M3 112 dX6_pressAllKeys_109 mlX6_72 moX7_holds rfl smX7_holds (Nat.le_of_ble_eq_true rfl) (Nat.le_of_ble_eq_true rfl) rfl (s_holds _ _) ?_
      refine ev_if_eqB 115 119 dX6_pressAllKeys_112 (by decide) rfl (fun c112 => ?_) (fun c112 => ?_)
      · refine ev_iconst 120 (-1) dX6_pressAllKeys_119 (by decide) rfl ?_
        refine ev_cV4 123 dX6_pressAllKeys_120 mlX6_104 moX6_comeFrom rfl imX6_comeFrom ⟨_, _, rfl, rfl, rfl⟩ (Nat.le_of_ble_eq_true rfl) (Nat.le_of_ble_eq_true rfl) rfl (s_X6_comeFrom (t := 0) h3 hL ha3 hx64 (by omega) (nI 2)) ?_
        rintro r M4 ⟨rfl, h4⟩
        rw [(cfE_come (cfE_come ha _ 0 0).2.2 _ _ _).1, (cfE_come ha _ _ _).1] at h4
        exact ev_vret dX6_pressAllKeys_123 rfl (⟨rfl, by rw [paF, if_neg hk0, sEn, if_neg (by rw [c112]; decide)]; exact h4⟩)
      · refine ev_iload_n 116 dX6_pressAllKeys_115 rfl rfl ?_
        refine ev_goto 120 dX6_pressAllKeys_116 (by decide) ?_
        refine ev_cV4 123 dX6_pressAllKeys_120 mlX6_104 moX6_comeFrom rfl imX6_comeFrom ⟨_, _, rfl, rfl, rfl⟩ (Nat.le_of_ble_eq_true rfl) (Nat.le_of_ble_eq_true rfl) rfl (s_X6_comeFrom (t := qs q a % 25) h3 hL ha3 hx64 (by omega) (nI 2)) ?_
        rintro r M4 ⟨rfl, h4⟩
        rw [(cfE_come (cfE_come ha _ 0 0).2.2 _ _ _).1, (cfE_come ha _ _ _).1] at h4
        exact ev_vret dX6_pressAllKeys_123 rfl (⟨rfl, by rw [paF, if_neg hk0, sEn, if_pos c112]; exact h4⟩)
  · omega
def fndF (pa : List Qe → Nat → List Qe) (goals : Int32) : Nat → Nat → List Qe → Int32 × List Qe
  | 0, _, q => (-1, q)
  | d + 1, a, q => if a < q.length then (if hB goals (pm (qs q a % 25)) then (nI a, q) else fndF pa goals d (a + 1) (pa q a)) else (-1, q)
theorem s_X6_find_k {M : Mm} {L n : Nat} {l dl : List Nat} {hg : Int32} (hn : n ≤ 24) (hsz : M 0 5 = nI n) (hl : rowAt M 12 11 2 l) (hlb : ∀ x ∈ l, x < 24) (hL : L < 2 ^ 30) (x goals : Int32) : ∀ d a (q : List Qe) (M1 : Mm), a + d = 1600 → qI M M1 L dl hg q → Ev XSh mX6_find 32 [.ref 13, .int x, .int goals, .int (nI a)] [] M1 (fun r M2 => r = some (.int (fndF (paF M n l dl hg) goals d a q).1) ∧ qI M M2 L dl hg (fndF (paF M n l dl hg) goals d a q).2)
  | 0, a, q, M1, ha, h => by
    have hq := h.2.2.2.2.1
    refine ev_iload_n 33 dX6_find_32 rfl rfl ?_
    refine ev_aload_n 34 dX6_find_33 rfl rfl ?_
    refine ev_getIv 37 (nI q.length) dX6_find_34 rfl flX6_42 rfl rfl h.2.2.2.1 ?_
    refine ev_icmp_geN 40 76 dX6_find_37 (by decide) rfl (by omega) (by omega) (fun c37 => ?_) (fun c37 => ?_)
    · refine ev_iconst 77 (-1) dX6_find_76 (by decide) rfl ?_
      exact ev_iret dX6_find_77 rfl (⟨rfl, h⟩)
    · omega
  | d + 1, a, q, M1, ha, h => by
    have hq := h.2.2.2.2.1
    refine ev_iload_n 33 dX6_find_32 rfl rfl ?_
    refine ev_aload_n 34 dX6_find_33 rfl rfl ?_
    refine ev_getIv 37 (nI q.length) dX6_find_34 rfl flX6_42 rfl rfl h.2.2.2.1 ?_
    refine ev_icmp_geN 40 76 dX6_find_37 (by decide) rfl (by omega) (by omega) (fun c37 => ?_) (fun c37 => ?_)
    · refine ev_iconst 77 (-1) dX6_find_76 (by decide) rfl ?_
      exact ev_iret dX6_find_77 rfl (⟨by rw [fndF, if_neg (by omega)], by rw [fndF, if_neg (by omega)]; exact h⟩)
    · refine ev_iload_n 41 dX6_find_40 rfl rfl ?_
      refine ev_sipush 44 (nI 1600) dX6_find_41 (by decide) rfl ?_
      refine ev_icmp_geN 47 76 dX6_find_44 (by decide) rfl (by omega) (by omega) (fun c44 => ?_) (fun c44 => ?_)
      · omega
      · refine ev_iload_n 48 dX6_find_47 rfl rfl ?_
        refine ev_aload_n 49 dX6_find_48 rfl rfl ?_
        refine ev_getR 52 dX6_find_49 rfl flX6_15 rfl rfl ?_
        refine ev_iload_n 53 dX6_find_52 rfl rfl ?_
        refine ev_iaN 54 (nI (qs q a)) dX6_find_53 rfl (by omega) (by decide) rfl (h.2.2.2.2.2 a (by omega)).1 ?_
        refine ev_cS1I _ M1 57 dX6_find_54 mlX6_69 moX6_focusIn rfl smX6_focusIn (Nat.le_of_ble_eq_true rfl) (Nat.le_of_ble_eq_true rfl) rfl (s_focusIn (h.2.2.2.2.2 a (by omega)).2.2.2.1) ?_
        refine ev_cS2I _ M1 60 dX6_find_57 mlX6_72 moX7_holds rfl smX7_holds (Nat.le_of_ble_eq_true rfl) (Nat.le_of_ble_eq_true rfl) rfl (s_holds _ _) ?_
        refine ev_if_eqB 63 65 dX6_find_60 (by decide) rfl (fun c60 => ?_) (fun c60 => ?_)
        · refine ev_aload_n 66 dX6_find_65 rfl rfl ?_
          refine ev_iload_n 67 dX6_find_66 rfl rfl ?_
          refine ev_cV1 70 dX6_find_67 mlX6_76 moX6_pressAllKeys rfl imX6_pressAllKeys ⟨_, _, rfl, rfl, rfl⟩ (Nat.le_of_ble_eq_true rfl) (Nat.le_of_ble_eq_true rfl) rfl (s_X6_pressAllKeys hn hsz hl hlb h hL (by omega)) ?_
          rintro r M2 ⟨rfl, h2⟩
          refine ev_iincN 73 _ dX6_find_70 rfl (by decide) rfl rfl rfl ?_
          refine ev_goto 32 dX6_find_73 (by decide) ?_
          rw [fndF, if_pos (by omega), if_neg (by rw [c60]; decide)]
          exact s_X6_find_k hn hsz hl hlb hL x goals d (a + 1) _ M2 (by omega) h2
        · refine ev_iload_n 64 dX6_find_63 rfl rfl ?_
          exact ev_iret dX6_find_64 rfl (⟨by rw [fndF, if_pos (by omega), if_pos c60], by rw [fndF, if_pos (by omega), if_pos c60]; exact h⟩)
def lk0 (M : Mm) (L : Nat) : Prop := M 13 10 = nI L ∧ ∀ s, s < 1600 → ∃ k, k ≤ L ∧ M 18 s = nI k
def q0F (M : Mm) (n t : Nat) : List Qe := comeF [] (mkN (shtP M (dlF M n)) (dlF M n).length * 25 + t, 0, -1)
def fndR (M : Mm) (n : Nat) (l : List Nat) (t : Nat) (goals : Int32) : Int32 × List Qe := fndF (paF M n l (dlF M n) (hgF M n)) goals 1600 0 (q0F M n t)
theorem dlF_congr {M M1 : Mm} (h1 : M1 1 = M 1) (n : Nat) : dlF M1 n = dlF M n ∧ hgF M1 n = hgF M n := by
  have e : ∀ k, opdF M1 (-1) k = opdF M (-1) k := fun k => by
    induction k with
    | zero => rfl
    | succ k ih => rw [opdF, opdF, ih, h1]
  have e2 : hidP M1 = hidP M := by funext j; rw [hidP, hidP, h1]
  exact ⟨by rw [dlF, dlF, opN, opN, e], by rw [hgF, hgF, opN, opN, e, e2]⟩
theorem s_X6_find {M : Mm} {L n t : Nat} {l : List Nat} (hn : n ≤ 24) (hsz : M 0 5 = nI n) (hl : rowAt M 12 11 2 l) (hlb : ∀ x ∈ l, x < 24) (hL : L < 2 ^ 29) (hlk : lk0 M L) (ht : t ≤ 24) (goals : Int32) : Ct XSh mX6_find [.ref 13, .int (pm t), .int goals] M (fun r M2 => r = some (.int (fndR M n l t goals).1) ∧ qI M M2 (L + 1) (dlF M n) (hgF M n) (fndR M n l t goals).2) := by
  show Ev _ _ 0 [.ref 13, .int (pm t), .int goals, .null] [] M _
  refine ev_aload_n 1 dX6_find_0 rfl rfl ?_
  refine ev_dup 2 dX6_find_1 rfl rfl ?_
  refine ev_getIv 5 (nI L) dX6_find_2 rfl flX6_45 rfl rfl hlk.1 ?_
  refine ev_iconst 6 (nI 1) dX6_find_5 (by decide) rfl ?_
  refine ev_iaddN 7 dX6_find_6 rfl ?_
  refine ev_putI 10 dX6_find_7 rfl flX6_45 fiX6_10 rfl rfl ?_
  refine ev_aload_n 11 dX6_find_10 rfl rfl ?_
  refine ev_iconst 12 (nI 0) dX6_find_11 (by decide) rfl ?_
  refine ev_putI 15 dX6_find_12 rfl flX6_42 fiX6_8 rfl rfl ?_
  obtain ⟨M1, hM1⟩ : ∃ y, y = mst (mst M 13 10 (nI (L + 1))) 13 8 (nI 0) := ⟨_, rfl⟩
  refine ev_eqM hM1.symm ?_
  have hf1 : ∀ k, k ≠ 13 → M1 k = M k := fun k hk => by rw [hM1, mst_other _ _ _ hk, mst_other _ _ _ hk]
  have hs1 : M1 0 5 = nI n := by rw [hf1 0 (by decide)]; exact hsz
  refine ev_aload_n 16 dX6_find_15 rfl rfl ?_
  refine ev_cV0 19 dX6_find_16 mlX6_58 moX6_takeDoors rfl imX6_takeDoors ⟨_, _, rfl, rfl, rfl⟩ (Nat.le_of_ble_eq_true rfl) (Nat.le_of_ble_eq_true rfl) rfl (s_X6_takeDoors hn hs1) ?_
  rintro r M2 ⟨rfl, h2, h2g⟩
  rw [(dlF_congr (hf1 1 (by decide)) n).1] at h2
  rw [(dlF_congr (hf1 1 (by decide)) n).2] at h2g
  have hd2 : dI M2 (dlF M n) (hgF M n) := ⟨h2.2.2.1, h2.2.2.2.1, h2.2.2.2.2, h2g⟩
  have hdb : ∀ x ∈ dlF M n, x < 24 := fun x hx => Nat.lt_of_lt_of_le (drF_lt _ _ x hx) hn
  have e21 : M2 1 = M 1 := by rw [h2.1 1 (by decide) (by decide), hf1 1 (by decide)]
  refine ev_aload_n 20 dX6_find_19 rfl rfl ?_
  refine ev_aload_n 21 dX6_find_20 rfl rfl ?_
  refine ev_cV0I (nI (mkN (shtP M (dlF M n)) (dlF M n).length)) M2 24 dX6_find_21 mlX6_61 moX6_doorsShutNow rfl imX6_doorsShutNow ⟨_, _, rfl, rfl, rfl⟩ (Nat.le_of_ble_eq_true rfl) (Nat.le_of_ble_eq_true rfl) rfl (by rw [show shtP M (dlF M n) = shtP M2 (dlF M n) from by funext j; rw [shtP, shtP, e21]]; exact s_X6_doorsShutNow hd2 hdb) ?_
  refine ev_iload_n 25 dX6_find_24 rfl rfl ?_
  refine ev_iconst 26 (nI 0) dX6_find_25 (by decide) rfl ?_
  refine ev_iconst 27 (-1) dX6_find_26 (by decide) rfl ?_
  have hb64 : mkN (shtP M (dlF M n)) (dlF M n).length < 64 := Nat.lt_of_lt_of_le (mkN_lt _ _) (Nat.pow_le_pow_right (by omega) h2.2.2.2.1 : 2 ^ _ ≤ 2 ^ 6)
  have hq2 : qI M M2 (L + 1) (dlF M n) (hgF M n) [] := by
    refine ⟨fun k hk => ?_, hd2, ⟨?_, fun z hz => ?_⟩, ?_, by simp, fun i hi => by simp at hi⟩
    · rw [h2.1 k (fun e => hk (by rw [e]; decide)) (fun e => hk (by rw [e]; decide)), hf1 k (fun e => hk (by rw [e]; decide))]
    · rw [h2.2.1 10 (by decide) (by decide), hM1, mst_same, upd, if_neg (by decide), mst_same, upd, if_pos rfl]
    · obtain ⟨k, hk, e⟩ := hlk.2 z hz
      refine ⟨k, by omega, by rw [h2.1 18 (by decide) (by decide), hf1 18 (by decide)]; exact e, ?_⟩
      constructor
      · intro z; omega
      · intro z; simp at z
    · rw [h2.2.1 8 (by decide) (by decide), hM1, mst_same, upd, if_pos rfl]; rfl
  refine ev_cV4 30 dX6_find_27 mlX6_65 moX6_come rfl imX6_come ⟨_, _, rfl, rfl, rfl⟩ (Nat.le_of_ble_eq_true rfl) (Nat.le_of_ble_eq_true rfl) rfl (s_X6_come (q := []) (L := L + 1) (len := 0) hq2 (by omega) hb64 ht (Nat.zero_le _) (-1)) ?_
  rintro r M3 ⟨rfl, h3⟩
  refine ev_iconst 31 (nI 0) dX6_find_30 (by decide) rfl ?_
  refine ev_istore_n 32 _ dX6_find_31 (by decide) rfl rfl rfl ?_
  exact s_X6_find_k hn hsz hl hlb (by omega) _ goals 1600 0 _ M3 (by omega) h3
theorem fndF_form (pa : List Qe → Nat → List Qe) (goals : Int32) : ∀ d a q, (fndF pa goals d a q).1 = -1 ∨ ∃ j, j < (fndF pa goals d a q).2.length ∧ (fndF pa goals d a q).1 = nI j
  | 0, _, _ => Or.inl rfl
  | d + 1, a, q => by
    rw [fndF]
    split
    · split
      · exact Or.inr ⟨a, by assumption, rfl⟩
      · exact fndF_form pa goals d _ _
    · exact Or.inl rfl
def resL (z : Int32 × List Qe) : Int32 := if z.1 = -1 then -1 else nI (ql z.2 z.1.toNatClampNeg)
def resK (z : Int32 × List Qe) : Int32 := if z.1 = -1 then -1 else qk z.2 z.1.toNatClampNeg
def wkQ (M M2 : Mm) (L : Nat) : Prop := wkF M M2 ∧ lk0 M2 (L + 1)
theorem qI.wk {M M1 : Mm} {L : Nat} {dl : List Nat} {hg : Int32} {q : List Qe} (h : qI M M1 (L + 1) dl hg q) : wkQ M M1 L := ⟨h.1, h.2.2.1.1, fun s hs => by obtain ⟨k, a, b, _⟩ := h.2.2.1.2 s hs; exact ⟨k, a, b⟩⟩
theorem s_X6_lengthTo {M : Mm} {L n t : Nat} {l : List Nat} (hn : n ≤ 24) (hsz : M 0 5 = nI n) (hl : rowAt M 12 11 2 l) (hlb : ∀ x ∈ l, x < 24) (hL : L < 2 ^ 29) (hlk : lk0 M L) (ht : t ≤ 24) (p : Int32) : Ct XSh mX6_lengthTo [.ref 13, .int (pm t), .int p] M (fun r M2 => r = some (.int (resL (fndR M n l t (nI 1 <<< (p &&& 31))))) ∧ wkQ M M2 L) := by
  show Ev _ _ 0 [.ref 13, .int (pm t), .int p, .null] [] M _
  refine ev_aload_n 1 dX6_lengthTo_0 rfl rfl ?_
  refine ev_iload_n 2 dX6_lengthTo_1 rfl rfl ?_
  refine ev_iconst 3 (nI 1) dX6_lengthTo_2 (by decide) rfl ?_
  refine ev_iload_n 4 dX6_lengthTo_3 rfl rfl ?_
  refine ev_ishl 5 dX6_lengthTo_4 rfl ?_
  refine ev_cV2 8 dX6_lengthTo_5 mlX6_48 moX6_find rfl imX6_find ⟨_, _, rfl, rfl, rfl⟩ (Nat.le_of_ble_eq_true rfl) (Nat.le_of_ble_eq_true rfl) rfl (s_X6_find hn hsz hl hlb hL hlk ht _) ?_
  rintro r M2 ⟨rfl, h2⟩
  refine ev_istore_n 9 _ dX6_lengthTo_8 (by decide) rfl rfl rfl ?_
  refine ev_iload_n 10 dX6_lengthTo_9 rfl rfl ?_
  refine ev_iconst 11 (-1) dX6_lengthTo_10 (by decide) rfl ?_
  refine ev_icmp_ne 14 18 dX6_lengthTo_11 (by decide) rfl (fun c11 => ?_) (fun c11 => ?_)
  · obtain ⟨j, hj, ej⟩ := (fndF_form (paF M n l (dlF M n) (hgF M n)) (nI 1 <<< (p &&& 31)) 1600 0 (q0F M n t)).resolve_left c11
    have hq := h2.2.2.2.2.1
    have hj2 : j < (fndR M n l t (nI 1 <<< (p &&& 31))).2.length := hj
    have ej2 : (fndR M n l t (nI 1 <<< (p &&& 31))).1 = nI j := ej
    refine ev_aload_n 19 dX6_lengthTo_18 rfl rfl ?_
    refine ev_getR 22 dX6_lengthTo_19 rfl flX6_18 rfl rfl ?_
    refine ev_iload_n 23 dX6_lengthTo_22 rfl rfl ?_
    refine ev_eqI ej2 ?_
    refine ev_iaN 24 _ dX6_lengthTo_23 rfl (by omega) (by decide) rfl (h2.2.2.2.2.2 j hj2).2.1 ?_
    exact ev_iret dX6_lengthTo_24 rfl (⟨by rw [resL, if_neg c11, ej2, nI_clamp (by omega)], h2.wk⟩)
  · refine ev_iconst 15 (-1) dX6_lengthTo_14 (by decide) rfl ?_
    refine ev_goto 24 dX6_lengthTo_15 (by decide) ?_
    exact ev_iret dX6_lengthTo_24 rfl (⟨by rw [resL, if_pos c11], h2.wk⟩)
theorem s_X6_firstKeyTo {M : Mm} {L n t : Nat} {l : List Nat} (hn : n ≤ 24) (hsz : M 0 5 = nI n) (hl : rowAt M 12 11 2 l) (hlb : ∀ x ∈ l, x < 24) (hL : L < 2 ^ 29) (hlk : lk0 M L) (ht : t ≤ 24) (p : Int32) : Ct XSh mX6_firstKeyTo [.ref 13, .int (pm t), .int p] M (fun r M2 => r = some (.int (resK (fndR M n l t (nI 1 <<< (p &&& 31))))) ∧ wkQ M M2 L) := by
  show Ev _ _ 0 [.ref 13, .int (pm t), .int p, .null] [] M _
  refine ev_aload_n 1 dX6_firstKeyTo_0 rfl rfl ?_
  refine ev_iload_n 2 dX6_firstKeyTo_1 rfl rfl ?_
  refine ev_iconst 3 (nI 1) dX6_firstKeyTo_2 (by decide) rfl ?_
  refine ev_iload_n 4 dX6_firstKeyTo_3 rfl rfl ?_
  refine ev_ishl 5 dX6_firstKeyTo_4 rfl ?_
  refine ev_cV2 8 dX6_firstKeyTo_5 mlX6_48 moX6_find rfl imX6_find ⟨_, _, rfl, rfl, rfl⟩ (Nat.le_of_ble_eq_true rfl) (Nat.le_of_ble_eq_true rfl) rfl (s_X6_find hn hsz hl hlb hL hlk ht _) ?_
  rintro r M2 ⟨rfl, h2⟩
  refine ev_istore_n 9 _ dX6_firstKeyTo_8 (by decide) rfl rfl rfl ?_
  refine ev_iload_n 10 dX6_firstKeyTo_9 rfl rfl ?_
  refine ev_iconst 11 (-1) dX6_firstKeyTo_10 (by decide) rfl ?_
  refine ev_icmp_ne 14 18 dX6_firstKeyTo_11 (by decide) rfl (fun c11 => ?_) (fun c11 => ?_)
  · obtain ⟨j, hj, ej⟩ := (fndF_form (paF M n l (dlF M n) (hgF M n)) (nI 1 <<< (p &&& 31)) 1600 0 (q0F M n t)).resolve_left c11
    have hq := h2.2.2.2.2.1
    have hj2 : j < (fndR M n l t (nI 1 <<< (p &&& 31))).2.length := hj
    have ej2 : (fndR M n l t (nI 1 <<< (p &&& 31))).1 = nI j := ej
    refine ev_aload_n 19 dX6_firstKeyTo_18 rfl rfl ?_
    refine ev_getR 22 dX6_firstKeyTo_19 rfl flX6_21 rfl rfl ?_
    refine ev_iload_n 23 dX6_firstKeyTo_22 rfl rfl ?_
    refine ev_eqI ej2 ?_
    refine ev_iaN 24 _ dX6_firstKeyTo_23 rfl (by omega) (by decide) rfl (h2.2.2.2.2.2 j hj2).2.2.1 ?_
    exact ev_iret dX6_firstKeyTo_24 rfl (⟨by rw [resK, if_neg c11, ej2, nI_clamp (by omega)], h2.wk⟩)
  · refine ev_iconst 15 (-1) dX6_firstKeyTo_14 (by decide) rfl ?_
    refine ev_goto 24 dX6_firstKeyTo_15 (by decide) ?_
    exact ev_iret dX6_firstKeyTo_24 rfl (⟨by rw [resK, if_pos c11], h2.wk⟩)
theorem s_X6_leadOutOf {M : Mm} {L n t : Nat} {l : List Nat} (hn : n ≤ 24) (hsz : M 0 5 = nI n) (hl : rowAt M 12 11 2 l) (hlb : ∀ x ∈ l, x < 24) (hL : L < 2 ^ 29) (hlk : lk0 M L) (ht : t ≤ 24) {a : Nat} (ha : a < n) : Ct XSh mX6_leadOutOf [.ref 13, .int (pm t), .int (nI a)] M (fun r M2 => r = some (.int (bI (decide (¬ (fndR M n l t (M 3 a ^^^ (-1))).1 = -1)))) ∧ wkQ M M2 L) := by
  show Ev _ _ 0 [.ref 13, .int (pm t), .int (nI a)] [] M _
  refine ev_aload_n 1 dX6_leadOutOf_0 rfl rfl ?_
  refine ev_iload_n 2 dX6_leadOutOf_1 rfl rfl ?_
  refine ev_aload_n 3 dX6_leadOutOf_2 rfl rfl ?_
  refine ev_getR 6 dX6_leadOutOf_3 rfl flX6_27 rfl rfl ?_
  refine ev_iload_n 7 dX6_leadOutOf_6 rfl rfl ?_
  refine ev_cV1I (M 3 a) M 10 dX6_leadOutOf_7 mlX6_52 moX2_withinOf rfl imX2_withinOf ⟨_, _, rfl, rfl, rfl⟩ (Nat.le_of_ble_eq_true rfl) (Nat.le_of_ble_eq_true rfl) rfl (s_X2_withinOfN hn hsz ha) ?_
  refine ev_iconst 11 (-1) dX6_leadOutOf_10 (by decide) rfl ?_
  refine ev_ixor 12 dX6_leadOutOf_11 rfl ?_
  refine ev_cV2 15 dX6_leadOutOf_12 mlX6_48 moX6_find rfl imX6_find ⟨_, _, rfl, rfl, rfl⟩ (Nat.le_of_ble_eq_true rfl) (Nat.le_of_ble_eq_true rfl) rfl (s_X6_find hn hsz hl hlb hL hlk ht _) ?_
  rintro r M2 ⟨rfl, h2⟩
  refine ev_iconst 16 (-1) dX6_leadOutOf_15 (by decide) rfl ?_
  refine ev_icmp_eq 19 23 dX6_leadOutOf_16 (by decide) rfl (fun c16 => ?_) (fun c16 => ?_)
  · refine ev_iconst 24 (nI 0) dX6_leadOutOf_23 (by decide) rfl ?_
    exact ev_zret dX6_leadOutOf_24 rfl (Or.inl rfl) (⟨by rw [decide_eq_false (fun z => z c16)]; rfl, h2.wk⟩)
  · refine ev_iconst 20 (nI 1) dX6_leadOutOf_19 (by decide) rfl ?_
    refine ev_goto 24 dX6_leadOutOf_20 (by decide) ?_
    exact ev_zret dX6_leadOutOf_24 rfl (Or.inr rfl) (⟨by rw [decide_eq_true c16]; rfl, h2.wk⟩)
