/-! the reference: hear, pairs, pressed by NEXT and BACK -/
def ShR (M M1 : Mm) (l : List Nat) (i : Nat) : Prop := Sm2 M M1 ∧ M1 0 3 = nI (l.length - 1) ∧ (∀ j, j < i → M1 2 j = nI (nth l (j + 1))) ∧ ∀ j, i ≤ j → M1 2 j = M 2 j
theorem s_X8_hear_k {M : Mm} {l : List Nat} (hl : rowAt M 2 0 3 l) (hne : l.length ≠ 0) (y : Int32) : ∀ d i (M1 : Mm), i + d = l.length - 1 → ShR M M1 l i → Ev MSh mX8_hear 28 [.ref 0, .int y, .int (nI i)] [] M1 (fun r M2 => r = some (.int y) ∧ Sm2 M M2 ∧ rowAt M2 2 0 3 l.tail)
  | 0, i, M1, h, hs => by
    have hle := hl.2.1
    have hi : i = l.length - 1 := by omega
    subst hi
    refine ev_iload_n 29 dX8_hear_28 rfl rfl ?_
    refine ev_aload_n 30 dX8_hear_29 rfl rfl ?_
    refine ev_getIv 33 (nI (l.length - 1)) dX8_hear_30 rfl flX8_92 rfl rfl hs.2.1 ?_
    refine ev_icmp_geN 36 56 dX8_hear_33 (by decide) rfl (by omega) (by omega) (fun c33 => ?_) (fun c33 => ?_)
    · refine ev_iload_n 57 dX8_hear_56 rfl rfl ?_
      exact ev_iret dX8_hear_57 rfl (⟨rfl, hs.1, by rw [show l.tail.length = l.length - 1 from List.length_tail]; exact hs.2.1, by rw [List.length_tail]; omega, fun j hj => by rw [List.length_tail] at hj; rw [hs.2.2.1 j (by omega)]; simp [nth]⟩)
    · omega
  | d + 1, i, M1, h, hs => by
    have hle := hl.2.1
    refine ev_iload_n 29 dX8_hear_28 rfl rfl ?_
    refine ev_aload_n 30 dX8_hear_29 rfl rfl ?_
    refine ev_getIv 33 (nI (l.length - 1)) dX8_hear_30 rfl flX8_92 rfl rfl hs.2.1 ?_
    refine ev_icmp_geN 36 56 dX8_hear_33 (by decide) rfl (by omega) (by omega) (fun c33 => ?_) (fun c33 => ?_)
    · omega
    · refine ev_aload_n 37 dX8_hear_36 rfl rfl ?_
      refine ev_getR 40 dX8_hear_37 rfl flX8_13 rfl rfl ?_
      refine ev_iload_n 41 dX8_hear_40 rfl rfl ?_
      refine ev_aload_n 42 dX8_hear_41 rfl rfl ?_
      refine ev_getR 45 dX8_hear_42 rfl flX8_13 rfl rfl ?_
      refine ev_iload_n 46 dX8_hear_45 rfl rfl ?_
      refine ev_iconst 47 (nI 1) dX8_hear_46 (by decide) rfl ?_
      refine ev_iaddN 48 dX8_hear_47 rfl ?_
      refine ev_iaN 49 (nI (nth l (i + 1))) dX8_hear_48 rfl (by omega) (by decide) rfl (by rw [hs.2.2.2 (i + 1) (by omega)]; exact hl.2.2 (i + 1) (by omega)) ?_
      refine ev_iaS 50 dX8_hear_49 rfl (by omega) (by decide) rfl ?_
      refine ev_iincN 53 _ dX8_hear_50 rfl (by decide) rfl rfl rfl ?_
      refine ev_goto 28 dX8_hear_53 (by decide) ?_
      refine s_X8_hear_k hl hne y d (i + 1) _ (by omega) ⟨⟨fun k h1 h2 => by rw [mst_other _ _ _ h2]; exact hs.1.1 k h1 h2, fun j hj => by rw [mst_other _ _ _ (by decide)]; exact hs.1.2 j hj⟩, by rw [mst_other _ _ _ (by decide)]; exact hs.2.1, fun j hj => ?_, fun j hj => ?_⟩
      · rw [mst_same, upd]
        by_cases e : j = i
        · rw [if_pos e, e]
        · rw [if_neg e]; exact hs.2.2.1 j (by omega)
      · rw [mst_same, upd, if_neg (by omega)]; exact hs.2.2.2 j (by omega)
theorem s_X8_hear {M : Mm} {l : List Nat} (hl : rowAt M 2 0 3 l) : Ct MSh mX8_hear [.ref 0] M (fun r M2 => r = some (.int (hdF l)) ∧ Sm2 M M2 ∧ rowAt M2 2 0 3 l.tail) := by
  have hle := hl.2.1
  show Ev _ _ 0 [.ref 0, .null, .null] [] M _
  refine ev_aload_n 1 dX8_hear_0 rfl rfl ?_
  refine ev_getIv 4 (nI l.length) dX8_hear_1 rfl flX8_92 rfl rfl hl.1 ?_
  refine ev_if_neN 7 9 dX8_hear_4 (by decide) rfl (by omega) (fun c4 => ?_) (fun c4 => ?_)
  · refine ev_aload_n 10 dX8_hear_9 rfl rfl ?_
    refine ev_getR 13 dX8_hear_10 rfl flX8_13 rfl rfl ?_
    refine ev_iconst 14 (nI 0) dX8_hear_13 (by decide) rfl ?_
    refine ev_iaN 15 (nI (nth l 0)) dX8_hear_14 rfl (by decide) (by decide) rfl (hl.2.2 0 (by omega)) ?_
    refine ev_istore_n 16 _ dX8_hear_15 (by decide) rfl rfl rfl ?_
    refine ev_aload_n 17 dX8_hear_16 rfl rfl ?_
    refine ev_dup 18 dX8_hear_17 rfl rfl ?_
    refine ev_getIv 21 (nI l.length) dX8_hear_18 rfl flX8_92 rfl rfl hl.1 ?_
    refine ev_iconst 22 (nI 1) dX8_hear_21 (by decide) rfl ?_
    refine ev_isubN 23 dX8_hear_22 (by omega) rfl ?_
    refine ev_putI 26 dX8_hear_23 rfl flX8_92 fiX8_3 rfl rfl ?_
    refine ev_iconst 27 (nI 0) dX8_hear_26 (by decide) rfl ?_
    refine ev_istore_n 28 _ dX8_hear_27 (by decide) rfl rfl rfl ?_
    have e : hdF l = nI (nth l 0) := by
      cases l with
      | nil => exact absurd rfl c4
      | cons a t => rfl
    rw [e]
    exact s_X8_hear_k hl c4 _ (l.length - 1) 0 _ (by omega) ⟨⟨fun k h1 h2 => mst_other _ _ _ h1, fun j hj => by rw [mst_same, upd, if_neg hj]⟩, by rw [mst_same, upd, if_pos rfl], fun j hj => by omega, fun j hj => by rw [mst_other _ _ _ (by decide)]⟩
  · refine ev_iconst 8 (-1) dX8_hear_7 (by decide) rfl ?_
    exact ev_iret dX8_hear_8 rfl (⟨by rw [List.length_eq_zero_iff.mp c4]; rfl, ⟨fun _ _ _ => rfl, fun _ _ => rfl⟩, by rw [List.length_eq_zero_iff.mp c4] at hl ⊢; exact hl⟩)
def prI (h : Nat → Int32) (l : List Nat) (k : Nat) : Nat → Nat
  | 0 => 0
  | i + 1 => prI h l k i + (if astr h (nth l i) (nth l k) then 1 else 0)
def prO (h : Nat → Int32) (l : List Nat) : Nat → Nat
  | 0 => 0
  | k + 1 => prO h l k + prI h l k k
theorem s_X8_pairs_in {M : Mm} {l : List Nat} (hl : rowAt M 7 0 10 l) (hb : ∀ x ∈ l, x < 24) {kk : Nat} (hk : kk < l.length) (c : Nat) {Q : Pst} (k : Ev MSh mX8_pairs 56 [.ref 0, .int (nI (c + prI (M 1) l kk kk)), .int (nI kk), .int (nI kk)] [] M Q) : ∀ d i, i + d = kk → Ev MSh mX8_pairs 18 [.ref 0, .int (nI (c + prI (M 1) l kk i)), .int (nI kk), .int (nI i)] [] M Q
  | 0, i, h => by
    have hle := hl.2.1
    refine ev_iload_n 19 dX8_pairs_18 rfl rfl ?_
    refine ev_iload_n 20 dX8_pairs_19 rfl rfl ?_
    refine ev_icmp_geN 23 56 dX8_pairs_20 (by decide) rfl (by omega) (by omega) (fun c20 => ?_) (fun c20 => ?_)
    · rw [show i = kk by omega]
      exact k
    · omega
  | d + 1, i, h => by
    have hle := hl.2.1
    refine ev_iload_n 19 dX8_pairs_18 rfl rfl ?_
    refine ev_iload_n 20 dX8_pairs_19 rfl rfl ?_
    refine ev_icmp_geN 23 56 dX8_pairs_20 (by decide) rfl (by omega) (by omega) (fun c20 => ?_) (fun c20 => ?_)
    · omega
    · refine ev_iload_n 24 dX8_pairs_23 rfl rfl ?_
      refine ev_aload_n 25 dX8_pairs_24 rfl rfl ?_
      refine ev_aload_n 26 dX8_pairs_25 rfl rfl ?_
      refine ev_getR 29 dX8_pairs_26 rfl flX8_28 rfl rfl ?_
      refine ev_iload_n 30 dX8_pairs_29 rfl rfl ?_
      refine ev_iaN 31 (nI (nth l i)) dX8_pairs_30 rfl (by omega) (by decide) rfl (hl.2.2 i (by omega)) ?_
      refine ev_aload_n 32 dX8_pairs_31 rfl rfl ?_
      refine ev_getR 35 dX8_pairs_32 rfl flX8_28 rfl rfl ?_
      refine ev_iload_n 36 dX8_pairs_35 rfl rfl ?_
      refine ev_iaN 37 (nI (nth l kk)) dX8_pairs_36 rfl (by omega) (by decide) rfl (hl.2.2 kk (by omega)) ?_
      refine ev_cV2I _ M 40 dX8_pairs_37 mlX8_153 moX8_isAstray rfl imX8_isAstray ⟨_, _, rfl, rfl, rfl⟩ (Nat.le_of_ble_eq_true rfl) (Nat.le_of_ble_eq_true rfl) rfl (s_X8_isAstray (hb _ (getD_mem (by omega))) (hb _ (getD_mem (by omega)))) ?_
      refine ev_if_eqB 43 47 dX8_pairs_40 (by decide) rfl (fun c40 => ?_) (fun c40 => ?_)
      · refine ev_iconst 48 (nI 0) dX8_pairs_47 (by decide) rfl ?_
        refine ev_iaddN 49 dX8_pairs_48 rfl ?_
        refine ev_eqI ((by rw [prI, c40]; rfl) : _ = nI (c + prI (M 1) l kk (i + 1))) ?_
        refine ev_istore_n 50 _ dX8_pairs_49 (by decide) rfl rfl rfl ?_
        refine ev_iincN 53 _ dX8_pairs_50 rfl (by decide) rfl rfl rfl ?_
        refine ev_goto 18 dX8_pairs_53 (by decide) ?_
        exact s_X8_pairs_in hl hb hk c k d (i + 1) (by omega)
      · refine ev_iconst 44 (nI 1) dX8_pairs_43 (by decide) rfl ?_
        refine ev_goto 48 dX8_pairs_44 (by decide) ?_
        refine ev_iaddN 49 dX8_pairs_48 rfl ?_
        refine ev_eqI ((by rw [prI, c40]; rfl) : _ = nI (c + prI (M 1) l kk (i + 1))) ?_
        refine ev_istore_n 50 _ dX8_pairs_49 (by decide) rfl rfl rfl ?_
        refine ev_iincN 53 _ dX8_pairs_50 rfl (by decide) rfl rfl rfl ?_
        refine ev_goto 18 dX8_pairs_53 (by decide) ?_
        exact s_X8_pairs_in hl hb hk c k d (i + 1) (by omega)
theorem s_X8_pairs_k {M : Mm} {l : List Nat} (hl : rowAt M 7 0 10 l) (hb : ∀ x ∈ l, x < 24) : ∀ d i (v : Value), i + d = l.length → Ev MSh mX8_pairs 8 [.ref 0, .int (nI (prO (M 1) l i)), .int (nI i), v] [] M (RetI (nI (prO (M 1) l l.length)) M)
  | 0, i, v, h => by
    have hle := hl.2.1
    refine ev_iload_n 9 dX8_pairs_8 rfl rfl ?_
    refine ev_aload_n 10 dX8_pairs_9 rfl rfl ?_
    refine ev_getIv 13 (nI l.length) dX8_pairs_10 rfl flX8_141 rfl rfl hl.1 ?_
    refine ev_icmp_geN 16 62 dX8_pairs_13 (by decide) rfl (by omega) (by omega) (fun c13 => ?_) (fun c13 => ?_)
    · refine ev_iload_n 63 dX8_pairs_62 rfl rfl ?_
      exact ev_iret dX8_pairs_63 rfl (⟨by rw [show i = l.length by omega], rfl⟩)
    · omega
  | d + 1, i, v, h => by
    have hle := hl.2.1
    refine ev_iload_n 9 dX8_pairs_8 rfl rfl ?_
    refine ev_aload_n 10 dX8_pairs_9 rfl rfl ?_
    refine ev_getIv 13 (nI l.length) dX8_pairs_10 rfl flX8_141 rfl rfl hl.1 ?_
    refine ev_icmp_geN 16 62 dX8_pairs_13 (by decide) rfl (by omega) (by omega) (fun c13 => ?_) (fun c13 => ?_)
    · omega
    · refine ev_iconst 17 (nI 0) dX8_pairs_16 (by decide) rfl ?_
      refine ev_istore_n 18 _ dX8_pairs_17 (by decide) rfl rfl rfl ?_
      refine s_X8_pairs_in hl hb (by omega) (prO (M 1) l i) ?_ i 0 (by omega)
      refine ev_iincN 59 _ dX8_pairs_56 rfl (by decide) rfl rfl rfl ?_
      refine ev_goto 8 dX8_pairs_59 (by decide) ?_
      exact s_X8_pairs_k hl hb d (i + 1) _ (by omega)
theorem s_X8_pairs {M : Mm} {n : Nat} (ht : TR (M 1) n) (hn0 : 0 < n) (hn : n ≤ 24) (hm : M 0 0 = nI n) : Ct MSh mX8_pairs [.ref 0] M (fun r M2 => r = some (.int (nI (prO (M 1) (saidF (M 1) n) (saidF (M 1) n).length))) ∧ SmS M M2) := by
  show Ev _ _ 0 [.ref 0, .null, .null, .null] [] M _
  refine ev_aload_n 1 dX8_pairs_0 rfl rfl ?_
  refine ev_cV0 4 dX8_pairs_1 mlX8_144 moX8_findSaid rfl imX8_findSaid ⟨_, _, rfl, rfl, rfl⟩ (Nat.le_of_ble_eq_true rfl) (Nat.le_of_ble_eq_true rfl) rfl (s_X8_findSaid ht hn0 hn hm) ?_
  rintro r M1 ⟨rfl, h1, h2⟩
  refine ev_iconst 5 (nI 0) dX8_pairs_4 (by decide) rfl ?_
  refine ev_istore_n 6 _ dX8_pairs_5 (by decide) rfl rfl rfl ?_
  refine ev_iconst 7 (nI 0) dX8_pairs_6 (by decide) rfl ?_
  refine ev_istore_n 8 _ dX8_pairs_7 (by decide) rfl rfl rfl ?_
  have hb : ∀ x ∈ saidF (M 1) n, x < 24 := fun x hx => Nat.lt_of_lt_of_le ((ord_facts n hn0 (by omega) ht).2.2 x (List.mem_filter.mp hx).1) hn
  have z := s_X8_pairs_k h2 hb (saidF (M 1) n).length 0 .null (by omega)
  rw [h1.e1] at z
  exact Ev.mono z (fun r M' q => ⟨q.1, by rw [q.2]; exact h1⟩)
