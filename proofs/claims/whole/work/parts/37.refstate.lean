/-! the reference: state, come, leastTo -/
def hdP (h : Nat → Int32) (dl : List Nat) (k : Nat) : Bool := h (nth dl k * 18 + 5) != 0
def h01 (h : Nat → Int32) (x : Nat) : Prop := h (x * 18 + 5) = nI 0 ∨ h (x * 18 + 5) = nI 1
theorem or_shl0 (x s : Int32) {k : Nat} (hk : k < 32) (e : s = nI k) : x ||| (nI 0 <<< (s &&& 31)) = x := by
  subst e
  apply b_ext
  intro i hi
  rw [b_or, b_shl k hk _ hi, show nI 0 = 0 from rfl, b_0]
  simp
theorem bits_step {h : Nat → Int32} {dl : List Nat} {i : Nat} (hi : i < 32) (hv : h01 h (nth dl i)) : mkM (hdP h dl) i ||| (h (nth dl i * 18 + 5) <<< (nI i &&& 31)) = mkM (hdP h dl) (i + 1) := by
  rcases hv with e | e
  · rw [e, or_shl0 _ _ hi rfl, mkM_f (by rw [hdP, e]; rfl)]
  · rw [e, mkM_t (by rw [hdP, e]; decide)]
def stS (h : Nat → Int32) (dl : List Nat) (t : Nat) : Nat := mkN (hdP h dl) dl.length * 25 + t

theorem s_X8_state_k {M : Mm} {dl : List Nat} {t : Nat} (hd : rowAt M 9 0 14 dl) (h6 : dl.length ≤ 6) (hb : ∀ x ∈ dl, x < 24) (h0 : ∀ x ∈ dl, h01 (M 1) x) (hf : M 0 2 = pm t) : ∀ d i, i + d = dl.length → Ev MSh mX8_state 4 [.ref 0, .int (mkM (hdP (M 1) dl) i), .int (nI i)] [] M (RetI (nI (stS (M 1) dl t)) M)
  | 0, i, h => by
    refine ev_iload_n 5 dX8_state_4 rfl rfl ?_
    refine ev_aload_n 6 dX8_state_5 rfl rfl ?_
    refine ev_getIv 9 (nI dl.length) dX8_state_6 rfl flX8_175 rfl rfl hd.1 ?_
    refine ev_icmp_geN 12 34 dX8_state_9 (by decide) rfl (by omega) (by omega) (fun c9 => ?_) (fun c9 => ?_)
    · refine ev_bipush 36 (nI 25) dX8_state_34 (by decide) rfl ?_
      refine ev_iload_n 37 dX8_state_36 rfl rfl ?_
      refine ev_imul 38 dX8_state_37 rfl ?_
      refine ev_aload_n 39 dX8_state_38 rfl rfl ?_
      refine ev_getIv 42 (pm t) dX8_state_39 rfl flX8_49 rfl rfl hf ?_
      refine ev_iadd 43 dX8_state_42 rfl ?_
      refine ev_iconst 44 (nI 1) dX8_state_43 (by decide) rfl ?_
      refine ev_iadd 45 dX8_state_44 rfl ?_
      refine ev_eqI (show nI 25 * mkM (hdP (M 1) dl) i + pm t + nI 1 = nI (stS (M 1) dl t) from by
        rw [show i = dl.length by omega, mkM_N _ _ (by omega), Int32.add_assoc, pm_1, pk_mul, nI_add, stS, Nat.mul_comm]) ?_
      exact ev_iret dX8_state_45 rfl (⟨rfl, rfl⟩)
    · omega
  | d + 1, i, h => by
    refine ev_iload_n 5 dX8_state_4 rfl rfl ?_
    refine ev_aload_n 6 dX8_state_5 rfl rfl ?_
    refine ev_getIv 9 (nI dl.length) dX8_state_6 rfl flX8_175 rfl rfl hd.1 ?_
    refine ev_icmp_geN 12 34 dX8_state_9 (by decide) rfl (by omega) (by omega) (fun c9 => ?_) (fun c9 => ?_)
    · omega
    · refine ev_iload_n 13 dX8_state_12 rfl rfl ?_
      refine ev_aload_n 14 dX8_state_13 rfl rfl ?_
      refine ev_aload_n 15 dX8_state_14 rfl rfl ?_
      refine ev_getR 18 dX8_state_15 rfl flX8_34 rfl rfl ?_
      refine ev_iload_n 19 dX8_state_18 rfl rfl ?_
      refine ev_iaN 20 (nI (nth dl i)) dX8_state_19 rfl (by omega) (by decide) rfl (hd.2.2 i (by omega)) ?_
      refine ev_iconst 21 (nI 5) dX8_state_20 (by decide) rfl ?_
      refine ev_cV2I (M 1 (nth dl i * 18 + 5)) M 24 dX8_state_21 mlX8_74 moX8_get rfl imX8_get ⟨_, _, rfl, rfl, rfl⟩ (Nat.le_of_ble_eq_true rfl) (Nat.le_of_ble_eq_true rfl) rfl (s_X8_get (a := nth dl i) (b := 5) (hb _ (getD_mem (by omega))) (by omega)) ?_
      refine ev_iload_n 25 dX8_state_24 rfl rfl ?_
      refine ev_ishl 26 dX8_state_25 rfl ?_
      refine ev_ior 27 dX8_state_26 rfl ?_
      refine ev_eqI (bits_step (by omega) (h0 _ (getD_mem (by omega)))) ?_
      refine ev_istore_n 28 _ dX8_state_27 (by decide) rfl rfl rfl ?_
      refine ev_iincN 31 _ dX8_state_28 rfl (by decide) rfl rfl rfl ?_
      refine ev_goto 4 dX8_state_31 (by decide) ?_
      exact s_X8_state_k hd h6 hb h0 hf d (i + 1) (by omega)
theorem s_X8_state {M : Mm} {dl : List Nat} {t : Nat} (hd : rowAt M 9 0 14 dl) (h6 : dl.length ≤ 6) (hb : ∀ x ∈ dl, x < 24) (h0 : ∀ x ∈ dl, h01 (M 1) x) (hf : M 0 2 = pm t) : Ct MSh mX8_state [.ref 0] M (RetI (nI (stS (M 1) dl t)) M) := by
  show Ev _ _ 0 [.ref 0, .null, .null] [] M _
  refine ev_iconst 1 (nI 0) dX8_state_0 (by decide) rfl ?_
  refine ev_istore_n 2 _ dX8_state_1 (by decide) rfl rfl rfl ?_
  refine ev_iconst 3 (nI 0) dX8_state_2 (by decide) rfl ?_
  refine ev_istore_n 4 _ dX8_state_3 (by decide) rfl rfl rfl ?_
  exact s_X8_state_k hd h6 hb h0 hf dl.length 0 (by omega)
def cmH (h : Nat → Int32) (dl : List Nat) (b : Nat) : Nat → Nat → Int32
  | 0 => h
  | k + 1 => upd (cmH h dl b k) (nth dl k * 18 + 5) (bI (b.testBit k))
def cmI (M M1 : Mm) (f : Nat → Int32) : Prop := (∀ k, k ≠ 1 → M1 k = M k) ∧ M1 1 = f
theorem s_X8_come_k {M : Mm} {dl : List Nat} {s : Nat} (hd : rowAt M 9 0 14 dl) (h6 : dl.length ≤ 6) (hb : ∀ x ∈ dl, x < 24) (hs9 : s < 1600) : ∀ d i (M1 : Mm), i + d = dl.length → cmI M M1 (cmH (M 1) dl (s / 25) i) → Ev MSh mX8_come 2 [.ref 0, .int (nI s), .int (nI i)] [] M1 (fun r M2 => r = none ∧ M2 1 = cmH (M 1) dl (s / 25) dl.length ∧ (∀ k, k ≠ 0 → k ≠ 1 → M2 k = M k) ∧ (∀ j, j ≠ 2 → M2 0 j = M 0 j) ∧ M2 0 2 = pm (s % 25))
  | 0, i, M1, h, hs => by
    refine ev_iload_n 3 dX8_come_2 rfl rfl ?_
    refine ev_aload_n 4 dX8_come_3 rfl rfl ?_
    refine ev_getIv 7 (nI dl.length) dX8_come_4 rfl flX8_175 rfl rfl (by rw [hs.1 0 (by decide)]; exact hd.1) ?_
    refine ev_icmp_geN 10 35 dX8_come_7 (by decide) rfl (by omega) (by omega) (fun c7 => ?_) (fun c7 => ?_)
    · refine ev_aload_n 36 dX8_come_35 rfl rfl ?_
      refine ev_iload_n 37 dX8_come_36 rfl rfl ?_
      refine ev_bipush 39 (nI 25) dX8_come_37 (by decide) rfl ?_
      refine ev_irem 40 dX8_come_39 (by decide) rfl ?_
      refine ev_eqI (pk_rem (by omega) (by omega) (by omega)) ?_
      refine ev_iconst 41 (nI 1) dX8_come_40 (by decide) rfl ?_
      refine ev_isub 42 dX8_come_41 rfl ?_
      refine ev_putI 45 dX8_come_42 rfl flX8_49 fiX8_2 rfl rfl ?_
      exact ev_vret dX8_come_45 rfl (⟨rfl, by rw [mst_other _ _ _ (by decide), hs.2, show i = dl.length by omega], fun k a b => by rw [mst_other _ _ _ a]; exact hs.1 k b, fun j hj => by rw [mst_same, upd, if_neg hj, hs.1 0 (by decide)], by rw [mst_same, upd, if_pos rfl]; rfl⟩)
    · omega
  | d + 1, i, M1, h, hs => by
    refine ev_iload_n 3 dX8_come_2 rfl rfl ?_
    refine ev_aload_n 4 dX8_come_3 rfl rfl ?_
    refine ev_getIv 7 (nI dl.length) dX8_come_4 rfl flX8_175 rfl rfl (by rw [hs.1 0 (by decide)]; exact hd.1) ?_
    refine ev_icmp_geN 10 35 dX8_come_7 (by decide) rfl (by omega) (by omega) (fun c7 => ?_) (fun c7 => ?_)
    · omega
    · refine ev_aload_n 11 dX8_come_10 rfl rfl ?_
      refine ev_aload_n 12 dX8_come_11 rfl rfl ?_
      refine ev_getR 15 dX8_come_12 rfl flX8_34 rfl rfl ?_
      refine ev_iload_n 16 dX8_come_15 rfl rfl ?_
      refine ev_iaN 17 (nI (nth dl i)) dX8_come_16 rfl (by omega) (by decide) rfl (by rw [hs.1 9 (by decide)]; exact hd.2.2 i (by omega)) ?_
      refine ev_iconst 18 (nI 5) dX8_come_17 (by decide) rfl ?_
      refine ev_iload_n 19 dX8_come_18 rfl rfl ?_
      refine ev_bipush 21 (nI 25) dX8_come_19 (by decide) rfl ?_
      refine ev_idiv 22 dX8_come_21 (by decide) rfl ?_
      refine ev_eqI (pk_div (by omega) (by omega) (by omega)) ?_
      refine ev_iload_n 23 dX8_come_22 rfl rfl ?_
      refine ev_ishr 24 dX8_come_23 rfl ?_
      refine ev_iconst 25 (nI 1) dX8_come_24 (by decide) rfl ?_
      refine ev_iand 26 dX8_come_25 rfl ?_
      refine ev_eqI ((bt_bit (nI (s / 25)) (by omega)).trans (by rw [bt_nI _ (by omega)])) ?_
      refine ev_cV3V _ 29 dX8_come_26 mlX8_60 moX8_put rfl imX8_put ⟨_, _, rfl, rfl, rfl⟩ (Nat.le_of_ble_eq_true rfl) (Nat.le_of_ble_eq_true rfl) rfl (s_X8_put (a := nth dl i) (b := 5) (hb _ (getD_mem (by omega))) (by omega)) ?_
      refine ev_iincN 32 _ dX8_come_29 rfl (by decide) rfl rfl rfl ?_
      refine ev_goto 2 dX8_come_32 (by decide) ?_
      exact s_X8_come_k hd h6 hb hs9 d (i + 1) _ (by omega) ⟨fun k hk => by rw [mst_other _ _ _ hk]; exact hs.1 k hk, by rw [mst_same, hs.2, cmH]⟩
theorem s_X8_come {M : Mm} {dl : List Nat} {s : Nat} (hd : rowAt M 9 0 14 dl) (h6 : dl.length ≤ 6) (hb : ∀ x ∈ dl, x < 24) (hs9 : s < 1600) : Ct MSh mX8_come [.ref 0, .int (nI s)] M (fun r M2 => r = none ∧ M2 1 = cmH (M 1) dl (s / 25) dl.length ∧ (∀ k, k ≠ 0 → k ≠ 1 → M2 k = M k) ∧ (∀ j, j ≠ 2 → M2 0 j = M 0 j) ∧ M2 0 2 = pm (s % 25)) := by
  show Ev _ _ 0 [.ref 0, .int (nI s), .null] [] M _
  refine ev_iconst 1 (nI 0) dX8_come_0 (by decide) rfl ?_
  refine ev_istore_n 2 _ dX8_come_1 (by decide) rfl rfl rfl ?_
  exact s_X8_come_k hd h6 hb hs9 dl.length 0 M (by omega) ⟨fun _ _ => rfl, rfl⟩
def Re : Type := Nat × Nat
def rs (q : List (Nat × Nat)) (i : Nat) : Nat := pr1 q i
def rI (M1 : Mm) (q : List (Nat × Nat)) : Prop := M1 0 17 = nI q.length ∧ q.length ≤ 1600 ∧ (∀ i, i < q.length → M1 11 i = nI (pr1 q i) ∧ pr1 q i < 1600 ∧ M1 10 (pr1 q i) = nI (pr2 q i) ∧ pr2 q i < 2 ^ 30) ∧ (∀ s, s < 1600 → s ∉ q.map (fun e => e.1) → M1 10 s = -1)
def lstF (q : List (Nat × Nat)) (x : Int32) : Nat → Int32
  | 0 => -1
  | k + 1 => if pm (pr1 q k % 25) = x ∧ (lstF q x k = -1 ∨ nI (pr2 q k) < lstF q x k) then nI (pr2 q k) else lstF q x k
theorem s_X8_leastTo_k {M : Mm} {q : List (Nat × Nat)} (hr : rI M q) (x : Int32) : ∀ d i (v : Value), i + d = q.length → Ev MSh mX8_leastTo 4 [.ref 0, .int x, .int (lstF q x i), .int (nI i), v] [] M (RetI (lstF q x q.length) M)
  | 0, i, v, h => by
    have hle := hr.2.1
    refine ev_iload_n 5 dX8_leastTo_4 rfl rfl ?_
    refine ev_aload_n 6 dX8_leastTo_5 rfl rfl ?_
    refine ev_getIv 9 (nI q.length) dX8_leastTo_6 rfl flX8_185 rfl rfl hr.1 ?_
    refine ev_icmp_geN 12 61 dX8_leastTo_9 (by decide) rfl (by omega) (by omega) (fun c9 => ?_) (fun c9 => ?_)
    · refine ev_iload_n 62 dX8_leastTo_61 rfl rfl ?_
      exact ev_iret dX8_leastTo_62 rfl (⟨by rw [show i = q.length by omega], rfl⟩)
    · omega
  | d + 1, i, v, h => by
    have hle := hr.2.1
    have hq := hr.2.2.1 i (by omega)
    have hq2 := hq.2.1
    refine ev_iload_n 5 dX8_leastTo_4 rfl rfl ?_
    refine ev_aload_n 6 dX8_leastTo_5 rfl rfl ?_
    refine ev_getIv 9 (nI q.length) dX8_leastTo_6 rfl flX8_185 rfl rfl hr.1 ?_
    refine ev_icmp_geN 12 61 dX8_leastTo_9 (by decide) rfl (by omega) (by omega) (fun c9 => ?_) (fun c9 => ?_)
    · omega
    · refine ev_aload_n 13 dX8_leastTo_12 rfl rfl ?_
      refine ev_getR 16 dX8_leastTo_13 rfl flX8_40 rfl rfl ?_
      refine ev_iload_n 17 dX8_leastTo_16 rfl rfl ?_
      refine ev_iaN 18 (nI (pr1 q i)) dX8_leastTo_17 rfl (by omega) (by decide) rfl hq.1 ?_
      refine ev_istore 20 _ dX8_leastTo_18 (by decide) rfl rfl rfl ?_
      refine ev_iload 22 dX8_leastTo_20 rfl rfl ?_
      refine ev_bipush 24 (nI 25) dX8_leastTo_22 (by decide) rfl ?_
      refine ev_irem 25 dX8_leastTo_24 (by decide) rfl ?_
      refine ev_eqI (pk_rem (by omega) (by omega) (by omega)) ?_
      refine ev_iconst 26 (nI 1) dX8_leastTo_25 (by decide) rfl ?_
      refine ev_isub 27 dX8_leastTo_26 rfl ?_
      refine ev_iload_n 28 dX8_leastTo_27 rfl rfl ?_
      refine ev_icmp_ne 31 55 dX8_leastTo_28 (by decide) rfl (fun c28 => ?_) (fun c28 => ?_)
      · refine ev_iincN 58 _ dX8_leastTo_55 rfl (by decide) rfl rfl rfl ?_
        refine ev_goto 4 dX8_leastTo_58 (by decide) ?_
        have ih := s_X8_leastTo_k hr x d (i + 1) (.int (nI (pr1 q i))) (by omega)
        rw [show lstF q x (i + 1) = lstF q x i from if_neg (fun z => c28 z.1)] at ih
        exact ih
      · refine ev_iload_n 32 dX8_leastTo_31 rfl rfl ?_
        refine ev_iconst 33 (-1) dX8_leastTo_32 (by decide) rfl ?_
        refine ev_icmp_eq 36 47 dX8_leastTo_33 (by decide) rfl (fun c33 => ?_) (fun c33 => ?_)
        · refine ev_aload_n 48 dX8_leastTo_47 rfl rfl ?_
          refine ev_getR 51 dX8_leastTo_48 rfl flX8_37 rfl rfl ?_
          refine ev_iload 53 dX8_leastTo_51 rfl rfl ?_
          refine ev_iaN 54 (nI (pr2 q i)) dX8_leastTo_53 rfl (by omega) (by decide) rfl hq.2.2.1 ?_
          refine ev_eqI ((if_pos ⟨c28, Or.inl c33⟩).symm : _ = lstF q x (i + 1)) ?_
          refine ev_istore_n 55 _ dX8_leastTo_54 (by decide) rfl rfl rfl ?_
          refine ev_iincN 58 _ dX8_leastTo_55 rfl (by decide) rfl rfl rfl ?_
          refine ev_goto 4 dX8_leastTo_58 (by decide) ?_
          exact s_X8_leastTo_k hr x d (i + 1) _ (by omega)
        · refine ev_aload_n 37 dX8_leastTo_36 rfl rfl ?_
          refine ev_getR 40 dX8_leastTo_37 rfl flX8_37 rfl rfl ?_
          refine ev_iload 42 dX8_leastTo_40 rfl rfl ?_
          refine ev_iaN 43 (nI (pr2 q i)) dX8_leastTo_42 rfl (by omega) (by decide) rfl hq.2.2.1 ?_
          refine ev_iload_n 44 dX8_leastTo_43 rfl rfl ?_
          refine ev_icmp_ge 47 55 dX8_leastTo_44 (by decide) rfl (fun c44 => ?_) (fun c44 => ?_)
          · refine ev_iincN 58 _ dX8_leastTo_55 rfl (by decide) rfl rfl rfl ?_
            refine ev_goto 4 dX8_leastTo_58 (by decide) ?_
            have ih := s_X8_leastTo_k hr x d (i + 1) (.int (nI (pr1 q i))) (by omega)
            rw [show lstF q x (i + 1) = lstF q x i from if_neg (fun z => z.2.elim c33 (fun w => i_lt_nle w c44))] at ih
            exact ih
          · refine ev_aload_n 48 dX8_leastTo_47 rfl rfl ?_
            refine ev_getR 51 dX8_leastTo_48 rfl flX8_37 rfl rfl ?_
            refine ev_iload 53 dX8_leastTo_51 rfl rfl ?_
            refine ev_iaN 54 (nI (pr2 q i)) dX8_leastTo_53 rfl (by omega) (by decide) rfl hq.2.2.1 ?_
            refine ev_eqI ((if_pos ⟨c28, Or.inr (Classical.byContradiction fun z => c44 (i_nlt_le z))⟩).symm : _ = lstF q x (i + 1)) ?_
            refine ev_istore_n 55 _ dX8_leastTo_54 (by decide) rfl rfl rfl ?_
            refine ev_iincN 58 _ dX8_leastTo_55 rfl (by decide) rfl rfl rfl ?_
            refine ev_goto 4 dX8_leastTo_58 (by decide) ?_
            exact s_X8_leastTo_k hr x d (i + 1) _ (by omega)
theorem s_X8_leastTo {M : Mm} {q : List (Nat × Nat)} (hr : rI M q) (x : Int32) : Ct MSh mX8_leastTo [.ref 0, .int x] M (RetI (lstF q x q.length) M) := by
  show Ev _ _ 0 [.ref 0, .int x, .null, .null, .null] [] M _
  refine ev_iconst 1 (-1) dX8_leastTo_0 (by decide) rfl ?_
  refine ev_istore_n 2 _ dX8_leastTo_1 (by decide) rfl rfl rfl ?_
  refine ev_iconst 3 (nI 0) dX8_leastTo_2 (by decide) rfl ?_
  refine ev_istore_n 4 _ dX8_leastTo_3 (by decide) rfl rfl rfl ?_
  exact s_X8_leastTo_k hr x q.length 0 _ (by omega)
