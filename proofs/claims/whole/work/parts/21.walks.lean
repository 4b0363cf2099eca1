/-! Walks: what a look is made of -/
abbrev Qe : Type := Nat × Nat × Int32
def qs (q : List Qe) (i : Nat) : Nat := (q.getD i (0, 0, 0)).1
def ql (q : List Qe) (i : Nat) : Nat := (q.getD i (0, 0, 0)).2.1
def qk (q : List Qe) (i : Nat) : Int32 := (q.getD i (0, 0, 0)).2.2
theorem q_app {q : List Qe} {e : Qe} {i : Nat} (h : i < q.length) : qs (q ++ [e]) i = qs q i ∧ ql (q ++ [e]) i = ql q i ∧ qk (q ++ [e]) i = qk q i := by
  simp [qs, ql, qk, List.getElem?_append_left h]
theorem q_last (q : List Qe) (e : Qe) : qs (q ++ [e]) q.length = e.1 ∧ ql (q ++ [e]) q.length = e.2.1 ∧ qk (q ++ [e]) q.length = e.2.2 := by simp [qs, ql, qk]
theorem qs_mem {q : List Qe} {i : Nat} (h : i < q.length) : qs q i ∈ q.map (fun e => e.1) := by
  rw [List.mem_map]
  exact ⟨q[i], List.getElem_mem h, by simp [qs, List.getElem?_eq_getElem h]⟩
def WkS : List Nat := [13, 14, 15, 16, 17, 18]
def wkF (M M1 : Mm) : Prop := ∀ k, k ∉ WkS → M1 k = M k
def dI (M1 : Mm) (dl : List Nat) (hg : Int32) : Prop := M1 13 3 = nI dl.length ∧ dl.length ≤ 6 ∧ (∀ i, i < dl.length → M1 14 i = nI (nth dl i)) ∧ M1 13 4 = hg
def lkI (M1 : Mm) (L : Nat) (q : List Qe) : Prop := M1 13 10 = nI L ∧ ∀ s, s < 1600 → ∃ k, k ≤ L ∧ M1 18 s = nI k ∧ (k = L ↔ s ∈ q.map (fun e => e.1))
def qR (M1 : Mm) (q : List Qe) : Prop := M1 13 8 = nI q.length ∧ q.length ≤ 1600 ∧ ∀ i, i < q.length → M1 15 i = nI (qs q i) ∧ M1 16 i = nI (ql q i) ∧ M1 17 i = qk q i ∧ qs q i < 1600 ∧ ql q i ≤ i
def qI (M M1 : Mm) (L : Nat) (dl : List Nat) (hg : Int32) (q : List Qe) : Prop := wkF M M1 ∧ dI M1 dl hg ∧ lkI M1 L q ∧ qR M1 q
def comeF (q : List Qe) (e : Qe) : List Qe := if e.1 ∈ q.map (fun z => z.1) ∨ ¬ q.length < 1600 then q else q ++ [e]
theorem comeF_pre (q : List Qe) (e : Qe) : ∃ t, comeF q e = q ++ t := by
  unfold comeF
  split
  · exact ⟨[], by simp⟩
  · exact ⟨_, rfl⟩
theorem st_eq (b t : Nat) : nI b * nI 25 + pm t + nI 1 = nI (b * 25 + t) := by
  rw [Int32.add_assoc, pm_1, pk_mul, nI_add]

theorem qI.push {M M1 : Mm} {L : Nat} {dl : List Nat} {hg : Int32} {q : List Qe} {s len : Nat} {fk : Int32} (h : qI M M1 L dl hg q) (hs : s < 1600) (hn : s ∉ q.map (fun e => e.1)) (hl : q.length < 1600) (hle : len ≤ q.length) :
    qI M (mst (mst (mst (mst (mst M1 18 s (nI L)) 15 q.length (nI s)) 16 q.length (nI len)) 17 q.length fk) 13 8 (nI (q.length + 1))) L dl hg (q ++ [(s, len, fk)]) := by
  obtain ⟨h1, ⟨d1, d2, d3, d4⟩, ⟨l1, l2⟩, r1, r2, r3⟩ := h
  have e13 : ∀ j, j ≠ 8 → mst (mst (mst (mst (mst M1 18 s (nI L)) 15 q.length (nI s)) 16 q.length (nI len)) 17 q.length fk) 13 8 (nI (q.length + 1)) 13 j = M1 13 j := fun j hj => by
    rw [mst_same, upd, if_neg hj]; iterate 4 rw [mst_other _ _ _ (by decide)]
  have e14 : mst (mst (mst (mst (mst M1 18 s (nI L)) 15 q.length (nI s)) 16 q.length (nI len)) 17 q.length fk) 13 8 (nI (q.length + 1)) 14 = M1 14 := by
    iterate 5 rw [mst_other _ _ _ (by decide)]
  have e15 : mst (mst (mst (mst (mst M1 18 s (nI L)) 15 q.length (nI s)) 16 q.length (nI len)) 17 q.length fk) 13 8 (nI (q.length + 1)) 15 = upd (M1 15) q.length (nI s) := by
    iterate 3 rw [mst_other _ _ _ (by decide)]
    rw [mst_same]; iterate 1 rw [mst_other _ _ _ (by decide)]
  have e16 : mst (mst (mst (mst (mst M1 18 s (nI L)) 15 q.length (nI s)) 16 q.length (nI len)) 17 q.length fk) 13 8 (nI (q.length + 1)) 16 = upd (M1 16) q.length (nI len) := by
    iterate 2 rw [mst_other _ _ _ (by decide)]
    rw [mst_same]; iterate 2 rw [mst_other _ _ _ (by decide)]
  have e17 : mst (mst (mst (mst (mst M1 18 s (nI L)) 15 q.length (nI s)) 16 q.length (nI len)) 17 q.length fk) 13 8 (nI (q.length + 1)) 17 = upd (M1 17) q.length fk := by
    iterate 1 rw [mst_other _ _ _ (by decide)]
    rw [mst_same]; iterate 3 rw [mst_other _ _ _ (by decide)]
  have e18 : mst (mst (mst (mst (mst M1 18 s (nI L)) 15 q.length (nI s)) 16 q.length (nI len)) 17 q.length fk) 13 8 (nI (q.length + 1)) 18 = upd (M1 18) s (nI L) := by
    iterate 4 rw [mst_other _ _ _ (by decide)]
    rw [mst_same]
  refine ⟨fun k hk => ?_, ⟨?_, d2, fun i hi => ?_, ?_⟩, ⟨?_, fun z hz => ?_⟩, ?_, ?_, fun i hi => ?_⟩
  · have n1 : k ≠ 13 := fun e => hk (by rw [e]; decide)
    have n2 : k ≠ 15 := fun e => hk (by rw [e]; decide)
    have n3 : k ≠ 16 := fun e => hk (by rw [e]; decide)
    have n4 : k ≠ 17 := fun e => hk (by rw [e]; decide)
    have n5 : k ≠ 18 := fun e => hk (by rw [e]; decide)
    rw [mst_other _ _ _ n1, mst_other _ _ _ n4, mst_other _ _ _ n3, mst_other _ _ _ n2, mst_other _ _ _ n5]
    exact h1 k hk
  · rw [e13 3 (by decide)]; exact d1
  · rw [e14]; exact d3 i hi
  · rw [e13 4 (by decide)]; exact d4
  · rw [e13 10 (by decide)]; exact l1
  · rw [e18, upd]
    by_cases e : z = s
    · exact ⟨L, Nat.le_refl _, by rw [if_pos e], by simp [e]⟩
    · obtain ⟨k, k1, k2, k3⟩ := l2 z hz
      refine ⟨k, k1, by rw [if_neg e]; exact k2, k3.trans ?_⟩
      rw [List.map_append, List.mem_append]
      simp [e]
  · rw [mst_same, upd, if_pos rfl, List.length_append]; rfl
  · rw [List.length_append]; exact hl
  · rw [List.length_append] at hi
    rw [e15, e16, e17]
    by_cases e : i = q.length
    · subst e
      obtain ⟨a1, a2, a3⟩ := q_last q (s, len, fk)
      rw [a1, a2, a3]
      simp [upd, hs, hle]
    · have hi2 : i < q.length := by simp at hi; omega
      obtain ⟨a1, a2, a3⟩ := q_app (e := (s, len, fk)) hi2
      rw [a1, a2, a3]
      simp only [upd, e, if_false]
      exact r3 i hi2
theorem s_X6_come {M M1 : Mm} {L : Nat} {dl : List Nat} {hg : Int32} {q : List Qe} (h : qI M M1 L dl hg q) (hL : L < 2 ^ 30) {b t len : Nat} (hb : b < 64) (ht : t ≤ 24) (hle : len ≤ q.length) (fk : Int32) : Ct XSh mX6_come [.ref 13, .int (nI b), .int (pm t), .int (nI len), .int fk] M1 (fun r M2 => r = none ∧ qI M M2 L dl hg (comeF q (b * 25 + t, len, fk))) := by
  have hq := h.2.2.2.2.1
  have hs : b * 25 + t < 1600 := by omega
  obtain ⟨k0, hk1, hk0, hk2⟩ := h.2.2.1.2 (b * 25 + t) hs
  show Ev _ _ 0 [.ref 13, .int (nI b), .int (pm t), .int (nI len), .int fk, .null] [] M1 _
  refine ev_iload_n 1 dX6_come_0 rfl rfl ?_
  refine ev_bipush 3 (nI 25) dX6_come_1 (by decide) rfl ?_
  refine ev_imulN 4 dX6_come_3 rfl ?_
  refine ev_iload_n 5 dX6_come_4 rfl rfl ?_
  refine ev_iadd 6 dX6_come_5 rfl ?_
  refine ev_iconst 7 (nI 1) dX6_come_6 (by decide) rfl ?_
  refine ev_iadd 8 dX6_come_7 rfl ?_
  refine ev_eqI (show nI (b * 25) + pm t + nI 1 = nI (b * 25 + t) from by rw [← pk_mul]; exact st_eq b t) ?_
  refine ev_istore 10 _ dX6_come_8 (by decide) rfl rfl rfl ?_
  refine ev_iload 12 dX6_come_10 rfl rfl ?_
  refine ev_if_ltN 15 100 dX6_come_12 (by decide) rfl (by omega) ?_
  refine ev_iload 17 dX6_come_15 rfl rfl ?_
  refine ev_sipush 20 (nI 1600) dX6_come_17 (by decide) rfl ?_
  refine ev_icmp_geN 23 100 dX6_come_20 (by decide) rfl (by omega) (by omega) (fun c20 => ?_) (fun c20 => ?_)
  · omega
  · refine ev_aload_n 24 dX6_come_23 rfl rfl ?_
    refine ev_getR 27 dX6_come_24 rfl flX6_24 rfl rfl ?_
    refine ev_iload 29 dX6_come_27 rfl rfl ?_
    refine ev_iaN 30 (nI k0) dX6_come_29 rfl (by omega) (by decide) rfl hk0 ?_
    refine ev_aload_n 31 dX6_come_30 rfl rfl ?_
    refine ev_getIv 34 (nI L) dX6_come_31 rfl flX6_45 rfl rfl h.2.2.1.1 ?_
    refine ev_icmp_eqN 37 100 dX6_come_34 (by decide) rfl (by omega) (by omega) (fun c34 => ?_) (fun c34 => ?_)
    · exact ev_vret dX6_come_100 rfl (⟨rfl, by rw [comeF, if_pos (Or.inl (hk2.mp (by omega)))]; exact h⟩)
    · refine ev_aload_n 38 dX6_come_37 rfl rfl ?_
      refine ev_getIv 41 (nI q.length) dX6_come_38 rfl flX6_42 rfl rfl h.2.2.2.1 ?_
      refine ev_sipush 44 (nI 1600) dX6_come_41 (by decide) rfl ?_
      refine ev_icmp_geN 47 100 dX6_come_44 (by decide) rfl (by omega) (by omega) (fun c44 => ?_) (fun c44 => ?_)
      · exact ev_vret dX6_come_100 rfl (⟨rfl, by rw [comeF, if_pos (Or.inr (by omega))]; exact h⟩)
      · refine ev_aload_n 48 dX6_come_47 rfl rfl ?_
        refine ev_getR 51 dX6_come_48 rfl flX6_24 rfl rfl ?_
        refine ev_iload 53 dX6_come_51 rfl rfl ?_
        refine ev_aload_n 54 dX6_come_53 rfl rfl ?_
        refine ev_getIv 57 (nI L) dX6_come_54 rfl flX6_45 rfl rfl h.2.2.1.1 ?_
        refine ev_iaS 58 dX6_come_57 rfl (by omega) (by decide) rfl ?_
        refine ev_aload_n 59 dX6_come_58 rfl rfl ?_
        refine ev_getR 62 dX6_come_59 rfl flX6_15 rfl rfl ?_
        refine ev_aload_n 63 dX6_come_62 rfl rfl ?_
        refine ev_getIv 66 (nI q.length) dX6_come_63 rfl flX6_42 rfl rfl (by rw [mst_other _ _ _ (by decide)]; exact h.2.2.2.1) ?_
        refine ev_iload 68 dX6_come_66 rfl rfl ?_
        refine ev_iaS 69 dX6_come_68 rfl (by omega) (by decide) rfl ?_
        refine ev_aload_n 70 dX6_come_69 rfl rfl ?_
        refine ev_getR 73 dX6_come_70 rfl flX6_18 rfl rfl ?_
        refine ev_aload_n 74 dX6_come_73 rfl rfl ?_
        refine ev_getIv 77 (nI q.length) dX6_come_74 rfl flX6_42 rfl rfl (by rw [mst_other _ _ _ (by decide)]; rw [mst_other _ _ _ (by decide)]; exact h.2.2.2.1) ?_
        refine ev_iload_n 78 dX6_come_77 rfl rfl ?_
        refine ev_iaS 79 dX6_come_78 rfl (by omega) (by decide) rfl ?_
        refine ev_aload_n 80 dX6_come_79 rfl rfl ?_
        refine ev_getR 83 dX6_come_80 rfl flX6_21 rfl rfl ?_
        refine ev_aload_n 84 dX6_come_83 rfl rfl ?_
        refine ev_getIv 87 (nI q.length) dX6_come_84 rfl flX6_42 rfl rfl (by rw [mst_other _ _ _ (by decide)]; rw [mst_other _ _ _ (by decide)]; rw [mst_other _ _ _ (by decide)]; exact h.2.2.2.1) ?_
        refine ev_iload 89 dX6_come_87 rfl rfl ?_
        refine ev_iaS 90 dX6_come_89 rfl (by omega) (by decide) rfl ?_
        refine ev_aload_n 91 dX6_come_90 rfl rfl ?_
        refine ev_dup 92 dX6_come_91 rfl rfl ?_
        refine ev_getIv 95 (nI q.length) dX6_come_92 rfl flX6_42 rfl rfl (by rw [mst_other _ _ _ (by decide)]; rw [mst_other _ _ _ (by decide)]; rw [mst_other _ _ _ (by decide)]; rw [mst_other _ _ _ (by decide)]; exact h.2.2.2.1) ?_
        refine ev_iconst 96 (nI 1) dX6_come_95 (by decide) rfl ?_
        refine ev_iaddN 97 dX6_come_96 rfl ?_
        refine ev_putI 100 dX6_come_97 rfl flX6_42 fiX6_8 rfl rfl ?_
        exact ev_vret dX6_come_100 rfl (⟨rfl, by rw [comeF, if_neg (fun z => z.elim (fun z => c34 (by have := hk2.mpr z; omega)) (fun z => z (by omega)))]; exact h.push hs (fun z => c34 (by have := hk2.mpr z; omega)) (by omega) hle⟩)
def cfE (q : List Qe) (a s : Nat) (pr : Int32) : Qe := (s, ql q a + 1, if ql q a = 0 then pr else qk q a)
theorem s_X6_comeFrom {M M1 : Mm} {L : Nat} {dl : List Nat} {hg : Int32} {q : List Qe} (h : qI M M1 L dl hg q) (hL : L < 2 ^ 30) {a b t : Nat} (ha : a < q.length) (hb : b < 64) (ht : t ≤ 24) (pr : Int32) : Ct XSh mX6_comeFrom [.ref 13, .int (nI a), .int pr, .int (nI b), .int (pm t)] M1 (fun r M2 => r = none ∧ qI M M2 L dl hg (comeF q (cfE q a (b * 25 + t) pr))) := by
  have hq := h.2.2.2.2.1
  have hr := h.2.2.2.2.2 a ha
  have hra := hr.2.2.2.2
  show Ev _ _ 0 [.ref 13, .int (nI a), .int pr, .int (nI b), .int (pm t)] [] M1 _
  refine ev_iload_n 1 dX6_comeFrom_0 rfl rfl ?_
  refine ev_if_ltN 4 46 dX6_comeFrom_1 (by decide) rfl (by omega) ?_
  refine ev_iload_n 5 dX6_comeFrom_4 rfl rfl ?_
  refine ev_aload_n 6 dX6_comeFrom_5 rfl rfl ?_
  refine ev_getIv 9 (nI q.length) dX6_comeFrom_6 rfl flX6_42 rfl rfl h.2.2.2.1 ?_
  refine ev_icmp_geN 12 46 dX6_comeFrom_9 (by decide) rfl (by omega) (by omega) (fun c9 => ?_) (fun c9 => ?_)
  · omega
  · refine ev_aload_n 13 dX6_comeFrom_12 rfl rfl ?_
    refine ev_iload_n 14 dX6_comeFrom_13 rfl rfl ?_
    refine ev_iload 16 dX6_comeFrom_14 rfl rfl ?_
    refine ev_aload_n 17 dX6_comeFrom_16 rfl rfl ?_
    refine ev_getR 20 dX6_comeFrom_17 rfl flX6_18 rfl rfl ?_
    refine ev_iload_n 21 dX6_comeFrom_20 rfl rfl ?_
    refine ev_iaN 22 (nI (ql q a)) dX6_comeFrom_21 rfl (by omega) (by decide) rfl (hr.2.1) ?_
    refine ev_iconst 23 (nI 1) dX6_comeFrom_22 (by decide) rfl ?_
    refine ev_iaddN 24 dX6_comeFrom_23 rfl ?_
    refine ev_aload_n 25 dX6_comeFrom_24 rfl rfl ?_
    refine ev_getR 28 dX6_comeFrom_25 rfl flX6_18 rfl rfl ?_
    refine ev_iload_n 29 dX6_comeFrom_28 rfl rfl ?_
    refine ev_iaN 30 (nI (ql q a)) dX6_comeFrom_29 rfl (by omega) (by decide) rfl (hr.2.1) ?_
    refine ev_if_neN 33 37 dX6_comeFrom_30 (by decide) rfl (by omega) (fun c30 => ?_) (fun c30 => ?_)
    · refine ev_aload_n 38 dX6_comeFrom_37 rfl rfl ?_
      refine ev_getR 41 dX6_comeFrom_38 rfl flX6_21 rfl rfl ?_
      refine ev_iload_n 42 dX6_comeFrom_41 rfl rfl ?_
      refine ev_iaN 43 (qk q a) dX6_comeFrom_42 rfl (by omega) (by decide) rfl hr.2.2.1 ?_
      refine ev_cV4 46 dX6_comeFrom_43 mlX6_65 moX6_come rfl imX6_come ⟨_, _, rfl, rfl, rfl⟩ (Nat.le_of_ble_eq_true rfl) (Nat.le_of_ble_eq_true rfl) rfl (s_X6_come h hL hb ht (by omega) _) ?_
      rintro r M2 ⟨rfl, h2⟩
      exact ev_vret dX6_comeFrom_46 rfl (⟨rfl, by rw [cfE, if_neg c30]; exact h2⟩)
    · refine ev_iload_n 34 dX6_comeFrom_33 rfl rfl ?_
      refine ev_goto 43 dX6_comeFrom_34 (by decide) ?_
      refine ev_cV4 46 dX6_comeFrom_43 mlX6_65 moX6_come rfl imX6_come ⟨_, _, rfl, rfl, rfl⟩ (Nat.le_of_ble_eq_true rfl) (Nat.le_of_ble_eq_true rfl) rfl (s_X6_come h hL hb ht (by omega) _) ?_
      rintro r M2 ⟨rfl, h2⟩
      exact ev_vret dX6_comeFrom_46 rfl (⟨rfl, by rw [cfE, if_pos c30]; exact h2⟩)
theorem s_focusIn {Sh : Shp} {M : Mm} {s : Nat} (hs : s < 1600) : Ct Sh mX6_focusIn [.int (nI s)] M (RetI (pm (s % 25)) M) := by
  show Ev _ _ 0 [.int (nI s)] [] M _
  refine ev_iload_n 1 dX6_focusIn_0 rfl rfl ?_
  refine ev_bipush 3 (nI 25) dX6_focusIn_1 (by decide) rfl ?_
  refine ev_irem 4 dX6_focusIn_3 (by decide) rfl ?_
  refine ev_eqI (pk_rem (by omega) (by omega) (by omega)) ?_
  refine ev_iconst 5 (nI 1) dX6_focusIn_4 (by decide) rfl ?_
  refine ev_isub 6 dX6_focusIn_5 rfl ?_
  exact ev_iret dX6_focusIn_6 rfl (⟨rfl, rfl⟩)
def dofF (dl : List Nat) (op : Int32) : Nat → Nat
  | 0 => 0
  | d + 1 => if nI (nth dl (dl.length - (d + 1))) = op then (dl.length - (d + 1)) + 1 else dofF dl op d
def obF (M : Mm) (x : Int32) : Int32 := if hB (M 4 2) x then M 1 (x.toNatClampNeg * 18 + 7) else -1
theorem s_X6_doorOf_k {M : Mm} {dl : List Nat} {hg : Int32} (hd : dI M dl hg) (x op : Int32) : ∀ d i, i + d = dl.length → Ev XSh mX6_doorOf 11 [.ref 13, .int x, .int op, .int (nI i)] [] M (RetI (pm (dofF dl op d)) M)
  | 0, i, h => by
    have hle := hd.2.1
    refine ev_iload_n 12 dX6_doorOf_11 rfl rfl ?_
    refine ev_aload_n 13 dX6_doorOf_12 rfl rfl ?_
    refine ev_getIv 16 (nI dl.length) dX6_doorOf_13 rfl flX6_35 rfl rfl hd.1 ?_
    refine ev_icmp_geN 19 37 dX6_doorOf_16 (by decide) rfl (by omega) (by omega) (fun c16 => ?_) (fun c16 => ?_)
    · refine ev_iconst 38 (-1) dX6_doorOf_37 (by decide) rfl ?_
      exact ev_iret dX6_doorOf_38 rfl (⟨by rw [dofF, pm_0], rfl⟩)
    · omega
  | d + 1, i, h => by
    have hle := hd.2.1
    refine ev_iload_n 12 dX6_doorOf_11 rfl rfl ?_
    refine ev_aload_n 13 dX6_doorOf_12 rfl rfl ?_
    refine ev_getIv 16 (nI dl.length) dX6_doorOf_13 rfl flX6_35 rfl rfl hd.1 ?_
    refine ev_icmp_geN 19 37 dX6_doorOf_16 (by decide) rfl (by omega) (by omega) (fun c16 => ?_) (fun c16 => ?_)
    · omega
    · refine ev_aload_n 20 dX6_doorOf_19 rfl rfl ?_
      refine ev_getR 23 dX6_doorOf_20 rfl flX6_11 rfl rfl ?_
      refine ev_iload_n 24 dX6_doorOf_23 rfl rfl ?_
      refine ev_iaN 25 (nI (nth dl i)) dX6_doorOf_24 rfl (by omega) (by decide) rfl (hd.2.2.1 i (by omega)) ?_
      refine ev_iload_n 26 dX6_doorOf_25 rfl rfl ?_
      refine ev_icmp_ne 29 31 dX6_doorOf_26 (by decide) rfl (fun c26 => ?_) (fun c26 => ?_)
      · refine ev_iincN 34 _ dX6_doorOf_31 rfl (by decide) rfl rfl rfl ?_
        refine ev_goto 11 dX6_doorOf_34 (by decide) ?_
        rw [dofF, if_neg (by rw [show dl.length - (d + 1) = i by omega]; exact c26)]
        exact s_X6_doorOf_k hd x op d (i + 1) (by omega)
      · refine ev_iload_n 30 dX6_doorOf_29 rfl rfl ?_
        exact ev_iret dX6_doorOf_30 rfl (⟨by rw [dofF, show dl.length - (d + 1) = i by omega, if_pos c26, pm_s], rfl⟩)
theorem s_X6_doorOf {M : Mm} {dl : List Nat} {hg : Int32} (hd : dI M dl hg) (x : Int32) : Ct XSh mX6_doorOf [.ref 13, .int x] M (RetI (pm (dofF dl (obF M x) dl.length)) M) := by
  show Ev _ _ 0 [.ref 13, .int x, .null, .null] [] M _
  refine ev_aload_n 1 dX6_doorOf_0 rfl rfl ?_
  refine ev_getR 4 dX6_doorOf_1 rfl flX6_27 rfl rfl ?_
  refine ev_iload_n 5 dX6_doorOf_4 rfl rfl ?_
  refine ev_cV1I (obF M x) M 8 dX6_doorOf_5 mlX6_110 moX2_openedByButton rfl imX2_openedByButton ⟨_, _, rfl, rfl, rfl⟩ (Nat.le_of_ble_eq_true rfl) (Nat.le_of_ble_eq_true rfl) rfl (s_X2_openedByButton x) ?_
  refine ev_istore_n 9 _ dX6_doorOf_8 (by decide) rfl rfl rfl ?_
  refine ev_iconst 10 (nI 0) dX6_doorOf_9 (by decide) rfl ?_
  refine ev_istore_n 11 _ dX6_doorOf_10 (by decide) rfl rfl rfl ?_
  exact s_X6_doorOf_k hd x _ dl.length 0 (by omega)
def hdnF (dl : List Nat) (hg : Int32) (b : Int32) : Nat → Int32
  | 0 => hg
  | d + 1 => if bt b d then hdnF dl hg b d ||| (nI 1 <<< (nI (nth dl d) &&& 31)) else hdnF dl hg b d
def shIf (M : Mm) (n : Nat) (dl : List Nat) (hg : Int32) (b : Int32) : Int32 := mkM (shwP M (hdnF dl hg b dl.length)) n
theorem s_X6_shownIf_k {M : Mm} {n : Nat} {dl : List Nat} {hg : Int32} (hn : n ≤ 24) (hsz : M 0 5 = nI n) (hd : dI M dl hg) (b : Int32) : ∀ d i, i + d = dl.length → Ev XSh mX6_shownIf 7 [.ref 13, .int b, .int (hdnF dl hg b i), .int (nI i)] [] M (RetI (shIf M n dl hg b) M)
  | 0, i, h => by
    have hle := hd.2.1
    refine ev_iload_n 8 dX6_shownIf_7 rfl rfl ?_
    refine ev_aload_n 9 dX6_shownIf_8 rfl rfl ?_
    refine ev_getIv 12 (nI dl.length) dX6_shownIf_9 rfl flX6_35 rfl rfl hd.1 ?_
    refine ev_icmp_geN 15 40 dX6_shownIf_12 (by decide) rfl (by omega) (by omega) (fun c12 => ?_) (fun c12 => ?_)
    · refine ev_aload_n 41 dX6_shownIf_40 rfl rfl ?_
      refine ev_getR 44 dX6_shownIf_41 rfl flX6_27 rfl rfl ?_
      refine ev_iload_n 45 dX6_shownIf_44 rfl rfl ?_
      refine ev_cV1I _ M 48 dX6_shownIf_45 mlX6_92 moX2_shownUnder rfl imX2_shownUnder ⟨_, _, rfl, rfl, rfl⟩ (Nat.le_of_ble_eq_true rfl) (Nat.le_of_ble_eq_true rfl) rfl (s_X2_shownUnder _ hn hsz) ?_
      exact ev_iret dX6_shownIf_48 rfl (⟨by rw [shIf, show dl.length = i by omega], rfl⟩)
    · omega
  | d + 1, i, h => by
    have hle := hd.2.1
    refine ev_iload_n 8 dX6_shownIf_7 rfl rfl ?_
    refine ev_aload_n 9 dX6_shownIf_8 rfl rfl ?_
    refine ev_getIv 12 (nI dl.length) dX6_shownIf_9 rfl flX6_35 rfl rfl hd.1 ?_
    refine ev_icmp_geN 15 40 dX6_shownIf_12 (by decide) rfl (by omega) (by omega) (fun c12 => ?_) (fun c12 => ?_)
    · omega
    · refine ev_iload_n 16 dX6_shownIf_15 rfl rfl ?_
      refine ev_iload_n 17 dX6_shownIf_16 rfl rfl ?_
      refine ev_ishr 18 dX6_shownIf_17 rfl ?_
      refine ev_iconst 19 (nI 1) dX6_shownIf_18 (by decide) rfl ?_
      refine ev_iand 20 dX6_shownIf_19 rfl ?_
      refine ev_eqI (bt_bit b (by omega)) ?_
      refine ev_if_eqB 23 34 dX6_shownIf_20 (by decide) rfl (fun c20 => ?_) (fun c20 => ?_)
      · refine ev_iincN 37 _ dX6_shownIf_34 rfl (by decide) rfl rfl rfl ?_
        refine ev_goto 7 dX6_shownIf_37 (by decide) ?_
        rw [show hdnF dl hg b i = hdnF dl hg b (i + 1) from (if_neg (by rw [c20]; decide)).symm]
        exact s_X6_shownIf_k hn hsz hd b d (i + 1) (by omega)
      · refine ev_iload_n 24 dX6_shownIf_23 rfl rfl ?_
        refine ev_iconst 25 (nI 1) dX6_shownIf_24 (by decide) rfl ?_
        refine ev_aload_n 26 dX6_shownIf_25 rfl rfl ?_
        refine ev_getR 29 dX6_shownIf_26 rfl flX6_11 rfl rfl ?_
        refine ev_iload_n 30 dX6_shownIf_29 rfl rfl ?_
        refine ev_iaN 31 (nI (nth dl i)) dX6_shownIf_30 rfl (by omega) (by decide) rfl (hd.2.2.1 i (by omega)) ?_
        refine ev_ishl 32 dX6_shownIf_31 rfl ?_
        refine ev_ior 33 dX6_shownIf_32 rfl ?_
        refine ev_eqI (show _ = hdnF dl hg b (i + 1) from (if_pos c20).symm) ?_
        refine ev_istore_n 34 _ dX6_shownIf_33 (by decide) rfl rfl rfl ?_
        refine ev_iincN 37 _ dX6_shownIf_34 rfl (by decide) rfl rfl rfl ?_
        refine ev_goto 7 dX6_shownIf_37 (by decide) ?_
        exact s_X6_shownIf_k hn hsz hd b d (i + 1) (by omega)
theorem s_X6_shownIf {M : Mm} {n : Nat} {dl : List Nat} {hg : Int32} (hn : n ≤ 24) (hsz : M 0 5 = nI n) (hd : dI M dl hg) (b : Int32) : Ct XSh mX6_shownIf [.ref 13, .int b] M (RetI (shIf M n dl hg b) M) := by
  show Ev _ _ 0 [.ref 13, .int b, .null, .null] [] M _
  refine ev_aload_n 1 dX6_shownIf_0 rfl rfl ?_
  refine ev_getIv 4 hg dX6_shownIf_1 rfl flX6_39 rfl rfl hd.2.2.2 ?_
  refine ev_istore_n 5 _ dX6_shownIf_4 (by decide) rfl rfl rfl ?_
  refine ev_iconst 6 (nI 0) dX6_shownIf_5 (by decide) rfl ?_
  refine ev_istore_n 7 _ dX6_shownIf_6 (by decide) rfl rfl rfl ?_
  exact s_X6_shownIf_k hn hsz hd b dl.length 0 (by omega)
