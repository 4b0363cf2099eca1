/-! the reference: its leaves -/
theorem s_in {Sh : Shp} {M : Mm} (a b c : Int64) : Ct Sh mX8_in [.long a, .long b, .long c] M (RetI (bI (decide (b ≤ a ∧ a ≤ c))) M) := by
  show Ev _ _ 0 [.long a, .null, .long b, .null, .long c, .null] [] M _
  refine ev_lload_n 1 dX8_in_0 rfl rfl ?_
  refine ev_lload_n 2 dX8_in_1 rfl rfl ?_
  refine ev_lcmp 3 dX8_in_2 rfl ?_
  refine ev_if_lt 6 17 dX8_in_3 (by decide) rfl (fun c3 => ?_) (fun c3 => ?_)
  · refine ev_iconst 18 (nI 0) dX8_in_17 (by decide) rfl ?_
    exact ev_zret dX8_in_18 rfl (Or.inl rfl) (⟨by rw [lg_cmp_lt] at c3; rw [decide_eq_false (fun z => by have := z.1; rw [fa_le64] at this; rw [fa_lt64] at c3; omega)]; rfl, rfl⟩)
  · refine ev_lload_n 7 dX8_in_6 rfl rfl ?_
    refine ev_lload 9 dX8_in_7 rfl rfl ?_
    refine ev_lcmp 10 dX8_in_9 rfl ?_
    refine ev_if_gt 13 17 dX8_in_10 (by decide) rfl (fun c10 => ?_) (fun c10 => ?_)
    · refine ev_iconst 18 (nI 0) dX8_in_17 (by decide) rfl ?_
      exact ev_zret dX8_in_18 rfl (Or.inl rfl) (⟨by rw [lg_cmp_gt] at c10; rw [decide_eq_false (fun z => by have := z.2; rw [fa_le64] at this; rw [fa_lt64] at c10; omega)]; rfl, rfl⟩)
    · refine ev_iconst 14 (nI 1) dX8_in_13 (by decide) rfl ?_
      refine ev_goto 18 dX8_in_14 (by decide) ?_
      exact ev_zret dX8_in_18 rfl (Or.inr rfl) (⟨by rw [lg_cmp_lt] at c3; rw [lg_cmp_gt] at c10; rw [decide_eq_true ⟨by rw [fa_le64]; rw [fa_lt64] at c3; omega, by rw [fa_le64]; rw [fa_lt64] at c10; omega⟩]; rfl, rfl⟩)
theorem s_X8_get {M : Mm} {a b : Nat} (ha : a < 24) (hb : b < 18) : Ct MSh mX8_get [.ref 0, .int (nI a), .int (nI b)] M (RetI (M 1 (a * 18 + b)) M) := by
  show Ev _ _ 0 [.ref 0, .int (nI a), .int (nI b)] [] M _
  refine ev_aload_n 1 dX8_get_0 rfl rfl ?_
  refine ev_getR 4 dX8_get_1 rfl flX8_7 rfl rfl ?_
  refine ev_bipush 6 (nI 18) dX8_get_4 (by decide) rfl ?_
  refine ev_iload_n 7 dX8_get_6 rfl rfl ?_
  refine ev_imulN 8 dX8_get_7 rfl ?_
  refine ev_iload_n 9 dX8_get_8 rfl rfl ?_
  refine ev_iaddN 10 dX8_get_9 rfl ?_
  refine ev_eqI (show nI (18 * a + b) = nI (a * 18 + b) from by rw [Nat.mul_comm]) ?_
  refine ev_iaN 11 _ dX8_get_10 rfl (mul18 ha hb) (by decide) rfl rfl ?_
  exact ev_iret dX8_get_11 rfl (⟨rfl, rfl⟩)
theorem s_X8_put {M : Mm} {a b : Nat} {v : Int32} (ha : a < 24) (hb : b < 18) : Ct MSh mX8_put [.ref 0, .int (nI a), .int (nI b), .int v] M (RetV (mst M 1 (a * 18 + b) v)) := by
  show Ev _ _ 0 [.ref 0, .int (nI a), .int (nI b), .int v] [] M _
  refine ev_aload_n 1 dX8_put_0 rfl rfl ?_
  refine ev_getR 4 dX8_put_1 rfl flX8_7 rfl rfl ?_
  refine ev_bipush 6 (nI 18) dX8_put_4 (by decide) rfl ?_
  refine ev_iload_n 7 dX8_put_6 rfl rfl ?_
  refine ev_imulN 8 dX8_put_7 rfl ?_
  refine ev_iload_n 9 dX8_put_8 rfl rfl ?_
  refine ev_iaddN 10 dX8_put_9 rfl ?_
  refine ev_eqI (show nI (18 * a + b) = nI (a * 18 + b) from by rw [Nat.mul_comm]) ?_
  refine ev_iload_n 11 dX8_put_10 rfl rfl ?_
  refine ev_iaS 12 dX8_put_11 rfl (mul18 ha hb) (by decide) rfl ?_
  exact ev_vret dX8_put_12 rfl (⟨rfl, rfl⟩)
theorem s_X8_isPart {M : Mm} {n : Nat} (hn1 : 1 ≤ n) (hn : n ≤ 24) (hm : M 0 0 = nI n) (x : Int32) : Ct MSh mX8_isPart [.ref 0, .int x] M (RetI (bI (inB x n)) M) := by
  show Ev _ _ 0 [.ref 0, .int x] [] M _
  refine ev_iload_n 1 dX8_isPart_0 rfl rfl ?_
  refine ev_i2l 2 dX8_isPart_1 rfl ?_
  refine ev_lconst 3 (lN 0) dX8_isPart_2 rfl rfl ?_
  refine ev_aload_n 4 dX8_isPart_3 rfl rfl ?_
  refine ev_getIv 7 (nI n) dX8_isPart_4 rfl flX8_57 rfl rfl hm ?_
  refine ev_iconst 8 (nI 1) dX8_isPart_7 (by decide) rfl ?_
  refine ev_isubN 9 dX8_isPart_8 (by omega) rfl ?_
  refine ev_i2l 10 dX8_isPart_9 rfl ?_
  refine ev_eqL (nI_l (by omega)) ?_
  refine ev_cS3I (bI (inB x n)) M 13 dX8_isPart_10 mlX8_64 moX8_in rfl smX8_in (Nat.le_of_ble_eq_true rfl) (Nat.le_of_ble_eq_true rfl) rfl (by have z := s_in (Sh := MSh) (M := M) x.toInt64 (lN 0) (lN (n - 1)); rwa [in_eq x (by omega), show n - 1 + 1 = n by omega] at z) ?_
  exact ev_zretB dX8_isPart_13 rfl (⟨rfl, rfl⟩)
def bgF (h : Nat → Int32) (a : Nat) (i : Nat) : Nat → Int32 := fun j => if a * 18 ≤ j ∧ j < a * 18 + i then 0 else h j
theorem bgF_0 (h : Nat → Int32) (a : Nat) : bgF h a 0 = h := by
  funext j
  rw [bgF, if_neg (by omega)]
theorem bgF_s (h : Nat → Int32) (a i : Nat) : upd (bgF h a i) (a * 18 + i) (nI 0) = bgF h a (i + 1) := by
  funext j
  unfold upd bgF
  by_cases e : j = a * 18 + i
  · rw [if_pos e, if_pos (by omega)]; rfl
  · rw [if_neg e]
    by_cases q : a * 18 ≤ j ∧ j < a * 18 + i
    · rw [if_pos q, if_pos (by omega)]
    · rw [if_neg q, if_neg (by omega)]
def Sm1 (M M1 : Mm) (f : Nat → Int32) : Prop := (∀ q, q ≠ 1 → M1 q = M q) ∧ M1 1 = f
theorem Sm1.put {M M1 : Mm} {f : Nat → Int32} (h : Sm1 M M1 f) (j : Nat) (v : Int32) : Sm1 M (mst M1 1 j v) (upd f j v) := ⟨fun q hq => by rw [mst_other _ _ _ hq]; exact h.1 q hq, by rw [mst_same, h.2]⟩
theorem s_X8_begin_k {M : Mm} {a : Nat} (ha : a < 24) (k x : Int32) : ∀ d i (M1 : Mm), i + d = 18 → Sm1 M M1 (bgF (M 1) a i) → Ev MSh mX8_begin 3 [.ref 0, .int (nI a), .int k, .int x, .int (nI i)] [] M1 (fun r M2 => r = none ∧ Sm1 M M2 (upd (upd (upd (upd (upd (upd (bgF (M 1) a 18) (a * 18 + 3) (-1)) (a * 18 + 4) (-1)) (a * 18 + 7) (-1)) (a * 18 + 10) k) (a * 18 + 11) x) (a * 18 + 17) (nI 16777215)))
  | 0, i, M1, h, hs => by
    refine ev_iload 5 dX8_begin_3 rfl rfl ?_
    refine ev_bipush 7 (nI 18) dX8_begin_5 (by decide) rfl ?_
    refine ev_icmp_geN 10 24 dX8_begin_7 (by decide) rfl (by omega) (by omega) (fun c7 => ?_) (fun c7 => ?_)
    · rw [show i = 18 by omega] at hs
      refine ev_aload_n 25 dX8_begin_24 rfl rfl ?_
      refine ev_iload_n 26 dX8_begin_25 rfl rfl ?_
      refine ev_iconst 27 (nI 3) dX8_begin_26 (by decide) rfl ?_
      refine ev_iconst 28 (-1) dX8_begin_27 (by decide) rfl ?_
      refine ev_cV3V _ 31 dX8_begin_28 mlX8_60 moX8_put rfl imX8_put ⟨_, _, rfl, rfl, rfl⟩ (Nat.le_of_ble_eq_true rfl) (Nat.le_of_ble_eq_true rfl) rfl (s_X8_put (b := 3) ha (by omega)) ?_
      refine ev_aload_n 32 dX8_begin_31 rfl rfl ?_
      refine ev_iload_n 33 dX8_begin_32 rfl rfl ?_
      refine ev_iconst 34 (nI 4) dX8_begin_33 (by decide) rfl ?_
      refine ev_iconst 35 (-1) dX8_begin_34 (by decide) rfl ?_
      refine ev_cV3V _ 38 dX8_begin_35 mlX8_60 moX8_put rfl imX8_put ⟨_, _, rfl, rfl, rfl⟩ (Nat.le_of_ble_eq_true rfl) (Nat.le_of_ble_eq_true rfl) rfl (s_X8_put (b := 4) ha (by omega)) ?_
      refine ev_aload_n 39 dX8_begin_38 rfl rfl ?_
      refine ev_iload_n 40 dX8_begin_39 rfl rfl ?_
      refine ev_bipush 42 (nI 7) dX8_begin_40 (by decide) rfl ?_
      refine ev_iconst 43 (-1) dX8_begin_42 (by decide) rfl ?_
      refine ev_cV3V _ 46 dX8_begin_43 mlX8_60 moX8_put rfl imX8_put ⟨_, _, rfl, rfl, rfl⟩ (Nat.le_of_ble_eq_true rfl) (Nat.le_of_ble_eq_true rfl) rfl (s_X8_put (b := 7) ha (by omega)) ?_
      refine ev_aload_n 47 dX8_begin_46 rfl rfl ?_
      refine ev_iload_n 48 dX8_begin_47 rfl rfl ?_
      refine ev_bipush 50 (nI 10) dX8_begin_48 (by decide) rfl ?_
      refine ev_iload_n 51 dX8_begin_50 rfl rfl ?_
      refine ev_cV3V _ 54 dX8_begin_51 mlX8_60 moX8_put rfl imX8_put ⟨_, _, rfl, rfl, rfl⟩ (Nat.le_of_ble_eq_true rfl) (Nat.le_of_ble_eq_true rfl) rfl (s_X8_put (b := 10) ha (by omega)) ?_
      refine ev_aload_n 55 dX8_begin_54 rfl rfl ?_
      refine ev_iload_n 56 dX8_begin_55 rfl rfl ?_
      refine ev_bipush 58 (nI 11) dX8_begin_56 (by decide) rfl ?_
      refine ev_iload_n 59 dX8_begin_58 rfl rfl ?_
      refine ev_cV3V _ 62 dX8_begin_59 mlX8_60 moX8_put rfl imX8_put ⟨_, _, rfl, rfl, rfl⟩ (Nat.le_of_ble_eq_true rfl) (Nat.le_of_ble_eq_true rfl) rfl (s_X8_put (b := 11) ha (by omega)) ?_
      refine ev_aload_n 63 dX8_begin_62 rfl rfl ?_
      refine ev_iload_n 64 dX8_begin_63 rfl rfl ?_
      refine ev_bipush 66 (nI 17) dX8_begin_64 (by decide) rfl ?_
      refine ev_ldc 68 (nI 16777215) dX8_begin_66 kX8_63 rfl ?_
      refine ev_cV3V _ 71 dX8_begin_68 mlX8_60 moX8_put rfl imX8_put ⟨_, _, rfl, rfl, rfl⟩ (Nat.le_of_ble_eq_true rfl) (Nat.le_of_ble_eq_true rfl) rfl (s_X8_put (b := 17) ha (by omega)) ?_
      exact ev_vret dX8_begin_71 rfl (⟨rfl, ((((((hs.put _ _).put _ _).put _ _).put _ _).put _ _).put _ _)⟩)
    · omega
  | d + 1, i, M1, h, hs => by
    refine ev_iload 5 dX8_begin_3 rfl rfl ?_
    refine ev_bipush 7 (nI 18) dX8_begin_5 (by decide) rfl ?_
    refine ev_icmp_geN 10 24 dX8_begin_7 (by decide) rfl (by omega) (by omega) (fun c7 => ?_) (fun c7 => ?_)
    · omega
    · refine ev_aload_n 11 dX8_begin_10 rfl rfl ?_
      refine ev_iload_n 12 dX8_begin_11 rfl rfl ?_
      refine ev_iload 14 dX8_begin_12 rfl rfl ?_
      refine ev_iconst 15 (nI 0) dX8_begin_14 (by decide) rfl ?_
      refine ev_cV3V _ 18 dX8_begin_15 mlX8_60 moX8_put rfl imX8_put ⟨_, _, rfl, rfl, rfl⟩ (Nat.le_of_ble_eq_true rfl) (Nat.le_of_ble_eq_true rfl) rfl (s_X8_put (b := i) ha (by omega)) ?_
      refine ev_iincN 21 _ dX8_begin_18 rfl (by decide) rfl rfl rfl ?_
      refine ev_goto 3 dX8_begin_21 (by decide) ?_
      exact s_X8_begin_k ha k x d (i + 1) _ (by omega) (by rw [← bgF_s]; exact hs.put _ _)
theorem s_X8_begin {M : Mm} {a k : Nat} {x : Int32} (ha : a < 24) (hz : ∀ j, a * 18 ≤ j → M 1 j = 0) : Ct MSh mX8_begin [.ref 0, .int (nI a), .int (nI k), .int x] M (fun r M2 => r = none ∧ Sm1 M M2 (pfH (M 1) a x k)) := by
  have e : bgF (M 1) a 18 = M 1 := by
    funext j
    unfold bgF
    split
    · rename_i q; exact (hz j q.1).symm
    · rfl
  show Ev _ _ 0 [.ref 0, .int (nI a), .int (nI k), .int x, .null] [] M _
  refine ev_iconst 1 (nI 0) dX8_begin_0 (by decide) rfl ?_
  refine ev_istore 3 _ dX8_begin_1 (by decide) rfl rfl rfl ?_
  have z := s_X8_begin_k (M := M) ha (nI k) x 18 0 M (by omega) ⟨fun _ _ => rfl, (bgF_0 _ _).symm⟩
  rw [e] at z
  exact z
theorem s_X8_isShown_k {M : Mm} {n : Nat} (ht : TR (M 1) n) (hn : n ≤ 24) (x : Int32) : ∀ l, clo (M 1) n l → Ev MSh mX8_isShown 2 [.ref 0, .int x, .int (hdF l)] [] M (RetI (bI (l.all (fun q => M 1 (q * 18 + 5) == 0))) M)
  | [], hc => by
    show Ev _ _ _ [.ref 0, .int x, .int (-1)] _ _ _
    refine ev_iload_n 3 dX8_isShown_2 rfl rfl ?_
    refine ev_iconst 4 (-1) dX8_isShown_3 (by decide) rfl ?_
    refine ev_icmp_eq 7 27 dX8_isShown_4 (by decide) rfl (fun c4 => ?_) (fun c4 => ?_)
    · refine ev_iload_n 28 dX8_isShown_27 rfl rfl ?_
      refine ev_iconst 29 (-1) dX8_isShown_28 (by decide) rfl ?_
      refine ev_icmp_ne 32 36 dX8_isShown_29 (by decide) rfl (fun c29 => ?_) (fun c29 => ?_)
      · exact absurd rfl c29
      · refine ev_iconst 33 (nI 1) dX8_isShown_32 (by decide) rfl ?_
        refine ev_goto 37 dX8_isShown_33 (by decide) ?_
        exact ev_zret dX8_isShown_37 rfl (Or.inr rfl) (⟨rfl, rfl⟩)
    · exact absurd rfl c4
  | b :: t, hc => by
    obtain ⟨hb, e⟩ := hc b t rfl
    have hup : M 1 (b * 18 + 11) = hdF t := by rw [e]; exact hd_up ht hb
    show Ev _ _ _ [.ref 0, .int x, .int (nI b)] _ _ _
    refine ev_iload_n 3 dX8_isShown_2 rfl rfl ?_
    refine ev_iconst 4 (-1) dX8_isShown_3 (by decide) rfl ?_
    refine ev_icmp_eq 7 27 dX8_isShown_4 (by decide) rfl (fun c4 => ?_) (fun c4 => ?_)
    · exact absurd c4 (nI_m1 (by omega))
    · refine ev_aload_n 8 dX8_isShown_7 rfl rfl ?_
      refine ev_iload_n 9 dX8_isShown_8 rfl rfl ?_
      refine ev_iconst 10 (nI 5) dX8_isShown_9 (by decide) rfl ?_
      refine ev_cV2I (M 1 (b * 18 + 5)) M 13 dX8_isShown_10 mlX8_74 moX8_get rfl imX8_get ⟨_, _, rfl, rfl, rfl⟩ (Nat.le_of_ble_eq_true rfl) (Nat.le_of_ble_eq_true rfl) rfl (s_X8_get (a := b) (b := 5) (by omega) (by omega)) ?_
      refine ev_if_ne 16 27 dX8_isShown_13 (by decide) rfl (fun c13 => ?_) (fun c13 => ?_)
      · refine ev_iload_n 28 dX8_isShown_27 rfl rfl ?_
        refine ev_iconst 29 (-1) dX8_isShown_28 (by decide) rfl ?_
        refine ev_icmp_ne 32 36 dX8_isShown_29 (by decide) rfl (fun c29 => ?_) (fun c29 => ?_)
        · refine ev_iconst 37 (nI 0) dX8_isShown_36 (by decide) rfl ?_
          exact ev_zret dX8_isShown_37 rfl (Or.inl rfl) (⟨by rw [List.all_cons, beq_eq_false_iff_ne.mpr c13]; rfl, rfl⟩)
        · exact absurd c29 (nI_m1 (by omega))
      · refine ev_aload_n 17 dX8_isShown_16 rfl rfl ?_
        refine ev_iload_n 18 dX8_isShown_17 rfl rfl ?_
        refine ev_bipush 20 (nI 11) dX8_isShown_18 (by decide) rfl ?_
        refine ev_cV2I (hdF t) M 23 dX8_isShown_20 mlX8_74 moX8_get rfl imX8_get ⟨_, _, rfl, rfl, rfl⟩ (Nat.le_of_ble_eq_true rfl) (Nat.le_of_ble_eq_true rfl) rfl (by have z := s_X8_get (M := M) (a := b) (b := 11) (by omega) (by omega); rwa [hup] at z) ?_
        refine ev_istore_n 24 _ dX8_isShown_23 (by decide) rfl rfl rfl ?_
        refine ev_goto 2 dX8_isShown_24 (by decide) ?_
        rw [List.all_cons, beq_iff_eq.mpr c13, Bool.true_and]
        exact s_X8_isShown_k ht hn x t (clo_tail ht hc)
theorem s_X8_isShown {M : Mm} {n a : Nat} (ht : TR (M 1) n) (hn : n ≤ 24) (ha : a < n) : Ct MSh mX8_isShown [.ref 0, .int (nI a)] M (RetI (bI (shwn (M 1) a)) M) := by
  show Ev _ _ 0 [.ref 0, .int (nI a), .null] [] M _
  refine ev_iload_n 1 dX8_isShown_0 rfl rfl ?_
  refine ev_istore_n 2 _ dX8_isShown_1 (by decide) rfl rfl rfl ?_
  exact s_X8_isShown_k ht hn _ (a :: chain (M 1) a) (clo_self ha)
theorem s_X8_lies_k {M : Mm} {n w : Nat} (ht : TR (M 1) n) (hn : n ≤ 24) (x : Value) (hw : w < 24) : ∀ l, clo (M 1) n l → Ev MSh mX8_lies 8 [.ref 0, x, .int (nI w), .int (hdF l)] [] M (RetI (bI (decide (w ∈ l))) M)
  | [], hc => by
    show Ev _ _ _ [.ref 0, x, .int (nI w), .int (-1)] _ _ _
    refine ev_iload_n 9 dX8_lies_8 rfl rfl ?_
    refine ev_iconst 10 (-1) dX8_lies_9 (by decide) rfl ?_
    refine ev_icmp_eq 13 29 dX8_lies_10 (by decide) rfl (fun c10 => ?_) (fun c10 => ?_)
    · refine ev_iload_n 30 dX8_lies_29 rfl rfl ?_
      refine ev_iload_n 31 dX8_lies_30 rfl rfl ?_
      refine ev_icmp_ne 34 38 dX8_lies_31 (by decide) rfl (fun c31 => ?_) (fun c31 => ?_)
      · refine ev_iconst 39 (nI 0) dX8_lies_38 (by decide) rfl ?_
        exact ev_zret dX8_lies_39 rfl (Or.inl rfl) (⟨by rw [decide_eq_false (by simp)]; rfl, rfl⟩)
      · exact absurd c31.symm (nI_m1 (by omega))
    · exact absurd rfl c10
  | b :: t, hc => by
    obtain ⟨hb, e⟩ := hc b t rfl
    have hup : M 1 (b * 18 + 11) = hdF t := by rw [e]; exact hd_up ht hb
    show Ev _ _ _ [.ref 0, x, .int (nI w), .int (nI b)] _ _ _
    refine ev_iload_n 9 dX8_lies_8 rfl rfl ?_
    refine ev_iconst 10 (-1) dX8_lies_9 (by decide) rfl ?_
    refine ev_icmp_eq 13 29 dX8_lies_10 (by decide) rfl (fun c10 => ?_) (fun c10 => ?_)
    · exact absurd c10 (nI_m1 (by omega))
    · refine ev_iload_n 14 dX8_lies_13 rfl rfl ?_
      refine ev_iload_n 15 dX8_lies_14 rfl rfl ?_
      refine ev_icmp_eqN 18 29 dX8_lies_15 (by decide) rfl (by omega) (by omega) (fun c15 => ?_) (fun c15 => ?_)
      · refine ev_iload_n 30 dX8_lies_29 rfl rfl ?_
        refine ev_iload_n 31 dX8_lies_30 rfl rfl ?_
        refine ev_icmp_neN 34 38 dX8_lies_31 (by decide) rfl (by omega) (by omega) (fun c31 => ?_) (fun c31 => ?_)
        · exact absurd c15 c31
        · refine ev_iconst 35 (nI 1) dX8_lies_34 (by decide) rfl ?_
          refine ev_goto 39 dX8_lies_35 (by decide) ?_
          exact ev_zret dX8_lies_39 rfl (Or.inr rfl) (⟨by rw [decide_eq_true (by simp [c15])]; rfl, rfl⟩)
      · refine ev_aload_n 19 dX8_lies_18 rfl rfl ?_
        refine ev_iload_n 20 dX8_lies_19 rfl rfl ?_
        refine ev_bipush 22 (nI 11) dX8_lies_20 (by decide) rfl ?_
        refine ev_cV2I (hdF t) M 25 dX8_lies_22 mlX8_74 moX8_get rfl imX8_get ⟨_, _, rfl, rfl, rfl⟩ (Nat.le_of_ble_eq_true rfl) (Nat.le_of_ble_eq_true rfl) rfl (by have z := s_X8_get (M := M) (a := b) (b := 11) (by omega) (by omega); rwa [hup] at z) ?_
        refine ev_istore_n 26 _ dX8_lies_25 (by decide) rfl rfl rfl ?_
        refine ev_goto 8 dX8_lies_26 (by decide) ?_
        have z := s_X8_lies_k ht hn x hw t (clo_tail ht hc)
        rw [show decide (w ∈ t) = decide (w ∈ b :: t) from decide_eq_decide.mpr (by simp [Ne.symm c15])] at z
        exact z
theorem s_X8_lies {M : Mm} {n a w : Nat} (ht : TR (M 1) n) (hn : n ≤ 24) (ha : a < n) (hw : w < 24) : Ct MSh mX8_lies [.ref 0, .int (nI a), .int (nI w)] M (RetI (bI (decide (w ∈ chain (M 1) a))) M) := by
  show Ev _ _ 0 [.ref 0, .int (nI a), .int (nI w), .null] [] M _
  refine ev_aload_n 1 dX8_lies_0 rfl rfl ?_
  refine ev_iload_n 2 dX8_lies_1 rfl rfl ?_
  refine ev_bipush 4 (nI 11) dX8_lies_2 (by decide) rfl ?_
  refine ev_cV2I (hdF (chain (M 1) a)) M 7 dX8_lies_4 mlX8_74 moX8_get rfl imX8_get ⟨_, _, rfl, rfl, rfl⟩ (Nat.le_of_ble_eq_true rfl) (Nat.le_of_ble_eq_true rfl) rfl (by have z := s_X8_get (M := M) (a := a) (b := 11) (by omega) (by omega); rwa [hd_up ht ha] at z) ?_
  refine ev_istore_n 8 _ dX8_lies_7 (by decide) rfl rfl rfl ?_
  exact s_X8_lies_k ht hn _ hw _ (clo_chain ht ha)
theorem s_X8_innermost_k {M : Mm} {n : Nat} (ht : TR (M 1) n) (hn : n ≤ 24) (x : Value) (k : Nat) : ∀ l, clo (M 1) n l → Ev MSh mX8_innermost 8 [.ref 0, x, .int (nI k), .int (hdF l)] [] M (RetI (optI (l.find? (fun q => M 1 (q * 18 + 10) == nI k))) M)
  | [], hc => by
    show Ev _ _ _ [.ref 0, x, .int (nI k), .int (-1)] _ _ _
    refine ev_iload_n 9 dX8_innermost_8 rfl rfl ?_
    refine ev_iconst 10 (-1) dX8_innermost_9 (by decide) rfl ?_
    refine ev_icmp_eq 13 35 dX8_innermost_10 (by decide) rfl (fun c10 => ?_) (fun c10 => ?_)
    · refine ev_iload_n 36 dX8_innermost_35 rfl rfl ?_
      exact ev_iret dX8_innermost_36 rfl (⟨rfl, rfl⟩)
    · exact absurd rfl c10
  | b :: t, hc => by
    obtain ⟨hb, e⟩ := hc b t rfl
    have hup : M 1 (b * 18 + 11) = hdF t := by rw [e]; exact hd_up ht hb
    show Ev _ _ _ [.ref 0, x, .int (nI k), .int (nI b)] _ _ _
    refine ev_iload_n 9 dX8_innermost_8 rfl rfl ?_
    refine ev_iconst 10 (-1) dX8_innermost_9 (by decide) rfl ?_
    refine ev_icmp_eq 13 35 dX8_innermost_10 (by decide) rfl (fun c10 => ?_) (fun c10 => ?_)
    · exact absurd c10 (nI_m1 (by omega))
    · refine ev_aload_n 14 dX8_innermost_13 rfl rfl ?_
      refine ev_iload_n 15 dX8_innermost_14 rfl rfl ?_
      refine ev_bipush 17 (nI 10) dX8_innermost_15 (by decide) rfl ?_
      refine ev_cV2I (M 1 (b * 18 + 10)) M 20 dX8_innermost_17 mlX8_74 moX8_get rfl imX8_get ⟨_, _, rfl, rfl, rfl⟩ (Nat.le_of_ble_eq_true rfl) (Nat.le_of_ble_eq_true rfl) rfl (s_X8_get (a := b) (b := 10) (by omega) (by omega)) ?_
      refine ev_iload_n 21 dX8_innermost_20 rfl rfl ?_
      refine ev_icmp_eq 24 35 dX8_innermost_21 (by decide) rfl (fun c21 => ?_) (fun c21 => ?_)
      · refine ev_iload_n 36 dX8_innermost_35 rfl rfl ?_
        exact ev_iret dX8_innermost_36 rfl (⟨by rw [List.find?_cons, beq_iff_eq.mpr c21]; rfl, rfl⟩)
      · refine ev_aload_n 25 dX8_innermost_24 rfl rfl ?_
        refine ev_iload_n 26 dX8_innermost_25 rfl rfl ?_
        refine ev_bipush 28 (nI 11) dX8_innermost_26 (by decide) rfl ?_
        refine ev_cV2I (hdF t) M 31 dX8_innermost_28 mlX8_74 moX8_get rfl imX8_get ⟨_, _, rfl, rfl, rfl⟩ (Nat.le_of_ble_eq_true rfl) (Nat.le_of_ble_eq_true rfl) rfl (by have z := s_X8_get (M := M) (a := b) (b := 11) (by omega) (by omega); rwa [hup] at z) ?_
        refine ev_istore_n 32 _ dX8_innermost_31 (by decide) rfl rfl rfl ?_
        refine ev_goto 8 dX8_innermost_32 (by decide) ?_
        rw [List.find?_cons, beq_eq_false_iff_ne.mpr c21]
        exact s_X8_innermost_k ht hn x k t (clo_tail ht hc)
theorem s_X8_innermost {M : Mm} {n a k : Nat} (ht : TR (M 1) n) (hn : n ≤ 24) (ha : a < n) : Ct MSh mX8_innermost [.ref 0, .int (nI a), .int (nI k)] M (RetI (optI (inm (M 1) a k)) M) := by
  show Ev _ _ 0 [.ref 0, .int (nI a), .int (nI k), .null] [] M _
  refine ev_aload_n 1 dX8_innermost_0 rfl rfl ?_
  refine ev_iload_n 2 dX8_innermost_1 rfl rfl ?_
  refine ev_bipush 4 (nI 11) dX8_innermost_2 (by decide) rfl ?_
  refine ev_cV2I (hdF (chain (M 1) a)) M 7 dX8_innermost_4 mlX8_74 moX8_get rfl imX8_get ⟨_, _, rfl, rfl, rfl⟩ (Nat.le_of_ble_eq_true rfl) (Nat.le_of_ble_eq_true rfl) rfl (by have z := s_X8_get (M := M) (a := a) (b := 11) (by omega) (by omega); rwa [hd_up ht ha] at z) ?_
  refine ev_istore_n 8 _ dX8_innermost_7 (by decide) rfl rfl rfl ?_
  exact s_X8_innermost_k ht hn _ k _ (clo_chain ht ha)
def trS (h : Nat → Int32) (t : Nat) : Option Nat := match t with
  | 0 => none
  | a + 1 => inm h a 5
theorem s_X8_trapOf {M : Mm} {n : Nat} (ht : TR (M 1) n) (hn : n ≤ 24) : ∀ t, t ≤ n → Ct MSh mX8_trapOf [.ref 0, .int (pm t)] M (RetI (optI (trS (M 1) t)) M)
  | 0, _ => by
    rw [pm_0]
    show Ev _ _ 0 [.ref 0, .int (-1)] [] M _
    refine ev_iload_n 1 dX8_trapOf_0 rfl rfl ?_
    refine ev_iconst 2 (-1) dX8_trapOf_1 (by decide) rfl ?_
    refine ev_icmp_ne 5 9 dX8_trapOf_2 (by decide) rfl (fun c2 => ?_) (fun c2 => ?_)
    · exact absurd rfl c2
    · refine ev_iconst 6 (-1) dX8_trapOf_5 (by decide) rfl ?_
      refine ev_goto 15 dX8_trapOf_6 (by decide) ?_
      exact ev_iret dX8_trapOf_15 rfl (⟨rfl, rfl⟩)
  | a + 1, ha => by
    rw [pm_s]
    show Ev _ _ 0 [.ref 0, .int (nI a)] [] M _
    refine ev_iload_n 1 dX8_trapOf_0 rfl rfl ?_
    refine ev_iconst 2 (-1) dX8_trapOf_1 (by decide) rfl ?_
    refine ev_icmp_ne 5 9 dX8_trapOf_2 (by decide) rfl (fun c2 => ?_) (fun c2 => ?_)
    · refine ev_aload_n 10 dX8_trapOf_9 rfl rfl ?_
      refine ev_iload_n 11 dX8_trapOf_10 rfl rfl ?_
      refine ev_iconst 12 (nI 5) dX8_trapOf_11 (by decide) rfl ?_
      refine ev_cV2I _ M 15 dX8_trapOf_12 mlX8_86 moX8_innermost rfl imX8_innermost ⟨_, _, rfl, rfl, rfl⟩ (Nat.le_of_ble_eq_true rfl) (Nat.le_of_ble_eq_true rfl) rfl (s_X8_innermost ht hn ha) ?_
      exact ev_iret dX8_trapOf_15 rfl (⟨rfl, rfl⟩)
    · exact absurd c2 (nI_m1 (by omega))
def opB (h : Nat → Int32) (x : Int32) (a : Nat) : Nat → Bool
  | 0 => false
  | k + 1 => opB h x a k || (decide (¬ nI k = x) && (h (k * 18 + 7) == nI a))
theorem s_X8_isOpenedBy_k {M : Mm} {n : Nat} (hn : n ≤ 24) (hm : M 0 0 = nI n) (x : Int32) (a : Nat) : ∀ d i, i + d = n → Ev MSh mX8_isOpenedBy 5 [.ref 0, .int (nI a), .int x, .int (bI (opB (M 1) x a i)), .int (nI i)] [] M (RetI (bI (opB (M 1) x a n)) M)
  | 0, i, h => by
    refine ev_iload 7 dX8_isOpenedBy_5 rfl rfl ?_
    refine ev_aload_n 8 dX8_isOpenedBy_7 rfl rfl ?_
    refine ev_getIv 11 (nI n) dX8_isOpenedBy_8 rfl flX8_57 rfl rfl hm ?_
    refine ev_icmp_geN 14 48 dX8_isOpenedBy_11 (by decide) rfl (by omega) (by omega) (fun c11 => ?_) (fun c11 => ?_)
    · refine ev_iload_n 49 dX8_isOpenedBy_48 rfl rfl ?_
      exact ev_zretB dX8_isOpenedBy_49 rfl (⟨by rw [show i = n by omega], rfl⟩)
    · omega
  | d + 1, i, h => by
    refine ev_iload 7 dX8_isOpenedBy_5 rfl rfl ?_
    refine ev_aload_n 8 dX8_isOpenedBy_7 rfl rfl ?_
    refine ev_getIv 11 (nI n) dX8_isOpenedBy_8 rfl flX8_57 rfl rfl hm ?_
    refine ev_icmp_geN 14 48 dX8_isOpenedBy_11 (by decide) rfl (by omega) (by omega) (fun c11 => ?_) (fun c11 => ?_)
    · omega
    · refine ev_iload_n 15 dX8_isOpenedBy_14 rfl rfl ?_
      refine ev_if_neB 18 36 dX8_isOpenedBy_15 (by decide) rfl (fun c15 => ?_) (fun c15 => ?_)
      · refine ev_iconst 37 (nI 1) dX8_isOpenedBy_36 (by decide) rfl ?_
        refine ev_goto 41 dX8_isOpenedBy_37 (by decide) ?_
        refine ev_eqI ((by rw [opB, c15]; rfl ) : _ = bI (opB (M 1) x a (i + 1))) ?_
        refine ev_istore_n 42 _ dX8_isOpenedBy_41 (by decide) rfl rfl rfl ?_
        refine ev_iincN 45 _ dX8_isOpenedBy_42 rfl (by decide) rfl rfl rfl ?_
        refine ev_goto 5 dX8_isOpenedBy_45 (by decide) ?_
        exact s_X8_isOpenedBy_k hn hm x a d (i + 1) (by omega)
      · refine ev_iload 20 dX8_isOpenedBy_18 rfl rfl ?_
        refine ev_iload_n 21 dX8_isOpenedBy_20 rfl rfl ?_
        refine ev_icmp_eq 24 40 dX8_isOpenedBy_21 (by decide) rfl (fun c21 => ?_) (fun c21 => ?_)
        · refine ev_iconst 41 (nI 0) dX8_isOpenedBy_40 (by decide) rfl ?_
          refine ev_eqI ((by rw [opB, c15, decide_eq_false (fun z => z c21)]; rfl ) : _ = bI (opB (M 1) x a (i + 1))) ?_
          refine ev_istore_n 42 _ dX8_isOpenedBy_41 (by decide) rfl rfl rfl ?_
          refine ev_iincN 45 _ dX8_isOpenedBy_42 rfl (by decide) rfl rfl rfl ?_
          refine ev_goto 5 dX8_isOpenedBy_45 (by decide) ?_
          exact s_X8_isOpenedBy_k hn hm x a d (i + 1) (by omega)
        · refine ev_aload_n 25 dX8_isOpenedBy_24 rfl rfl ?_
          refine ev_iload 27 dX8_isOpenedBy_25 rfl rfl ?_
          refine ev_bipush 29 (nI 7) dX8_isOpenedBy_27 (by decide) rfl ?_
          refine ev_cV2I (M 1 (i * 18 + 7)) M 32 dX8_isOpenedBy_29 mlX8_74 moX8_get rfl imX8_get ⟨_, _, rfl, rfl, rfl⟩ (Nat.le_of_ble_eq_true rfl) (Nat.le_of_ble_eq_true rfl) rfl (s_X8_get (a := i) (b := 7) (by omega) (by omega)) ?_
          refine ev_iload_n 33 dX8_isOpenedBy_32 rfl rfl ?_
          refine ev_icmp_ne 36 40 dX8_isOpenedBy_33 (by decide) rfl (fun c33 => ?_) (fun c33 => ?_)
          · refine ev_iconst 41 (nI 0) dX8_isOpenedBy_40 (by decide) rfl ?_
            refine ev_eqI ((by rw [opB, c15, beq_eq_false_iff_ne.mpr c33, Bool.and_false]; rfl ) : _ = bI (opB (M 1) x a (i + 1))) ?_
            refine ev_istore_n 42 _ dX8_isOpenedBy_41 (by decide) rfl rfl rfl ?_
            refine ev_iincN 45 _ dX8_isOpenedBy_42 rfl (by decide) rfl rfl rfl ?_
            refine ev_goto 5 dX8_isOpenedBy_45 (by decide) ?_
            exact s_X8_isOpenedBy_k hn hm x a d (i + 1) (by omega)
          · refine ev_iconst 37 (nI 1) dX8_isOpenedBy_36 (by decide) rfl ?_
            refine ev_goto 41 dX8_isOpenedBy_37 (by decide) ?_
            refine ev_eqI ((by rw [opB, c15, decide_eq_true c21, beq_iff_eq.mpr c33]; rfl ) : _ = bI (opB (M 1) x a (i + 1))) ?_
            refine ev_istore_n 42 _ dX8_isOpenedBy_41 (by decide) rfl rfl rfl ?_
            refine ev_iincN 45 _ dX8_isOpenedBy_42 rfl (by decide) rfl rfl rfl ?_
            refine ev_goto 5 dX8_isOpenedBy_45 (by decide) ?_
            exact s_X8_isOpenedBy_k hn hm x a d (i + 1) (by omega)
theorem s_X8_isOpenedBy {M : Mm} {n : Nat} (hn : n ≤ 24) (hm : M 0 0 = nI n) (x : Int32) (a : Nat) : Ct MSh mX8_isOpenedBy [.ref 0, .int (nI a), .int x] M (RetI (bI (opB (M 1) x a n)) M) := by
  show Ev _ _ 0 [.ref 0, .int (nI a), .int x, .null, .null] [] M _
  refine ev_iconst 1 (nI 0) dX8_isOpenedBy_0 (by decide) rfl ?_
  refine ev_istore_n 2 _ dX8_isOpenedBy_1 (by decide) rfl rfl rfl ?_
  refine ev_iconst 3 (nI 0) dX8_isOpenedBy_2 (by decide) rfl ?_
  refine ev_istore 5 _ dX8_isOpenedBy_3 (by decide) rfl rfl rfl ?_
  exact s_X8_isOpenedBy_k hn hm x a n 0 (by omega)
