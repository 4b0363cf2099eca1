/-! the reference: spread -/
theorem dsF_mem {h : Nat → Int32} {n x : Nat} : ∀ {k : Nat}, x ∈ dsF h n k ↔ x < k ∧ opC h (-1) n x = true
  | 0 => by
    constructor
    · intro z; cases z
    · intro z; omega
  | k + 1 => by
    rw [dsF, List.mem_append, dsF_mem (k := k)]
    constructor
    · rintro (z | z)
      · exact ⟨by omega, z.2⟩
      · split at z
        · rename_i e; simp at z; subst z; exact ⟨by omega, e⟩
        · cases z
    · rintro ⟨z1, z2⟩
      by_cases e : x = k
      · right; subst e; rw [if_pos z2]; simp
      · left; exact ⟨by omega, z2⟩
theorem opB_yes {h : Nat → Int32} {x : Int32} {c a : Nat} (h1 : ¬ nI a = x) (h2 : h (a * 18 + 7) = nI c) : ∀ {n : Nat}, a < n → opB h x c n = true
  | 0, z => by omega
  | n + 1, z => by
    by_cases e : a = n
    · subst e; rw [opB, decide_eq_true h1, beq_iff_eq.mpr h2]; simp
    · rw [opB, opB_yes h1 h2 (by omega), Bool.true_or]
theorem door_mem {h : Nat → Int32} {n c a : Nat} (hn : n ≤ 24) (h0 : 0 < c) (hc : c < n) (ha : a < n) (e : h (a * 18 + 7) = nI c) : c ∈ dsF h n n :=
  dsF_mem.mpr ⟨hc, by rw [opC, decide_eq_true (show 1 ≤ c from h0), opB_yes (nI_m1 (by omega)) e ha]; rfl⟩
theorem lkS_le (h : Nat → Int32) (t : Nat) : lkS h t ≤ t := by
  cases t with
  | zero => exact Nat.le_refl _
  | succ a => rw [lkS]; split <;> omega
theorem pkS_ok {h h1 : Nat → Int32} {n key t : Nat} {dl : List Nat} (ht : TR h1 n) (hn0 : 0 < n) (hn : n ≤ 24) (ho : opsOK h n) (hd : ∀ a c, a < n → 0 < c → c < n → h (a * 18 + 7) = nI c → c ∈ dl) (e : eqD h h1 dl) (h0 : ∀ x ∈ dl, h01 h1 x) (ht2 : t ≤ n) : (pkS h1 n key t).2 ≤ n ∧ eqD h (pkS h1 n key t).1 dl ∧ ∀ x ∈ dl, h01 (pkS h1 n key t).1 x := by
  unfold pkS
  split
  · refine ⟨?_, e, h0⟩
    show nxtT _ _ _ ≤ n
    unfold nxtT
    split
    · exact ht2
    · rename_i hne
      have hj := nxtI_lt (key := key) (show 0 < (stpF h1 n t).length by omega) (ixF_le (stpF h1 n t) (pm t) (stpF h1 n t).length)
      have := (ord_facts n hn0 (by omega) ht).2.2 _ (stpL_mem.mp (getD_mem hj)).1
      exact this
  · cases he : entP h1 t with
    | none => exact ⟨ht2, e, h0⟩
    | some c =>
      obtain ⟨a, rfl, e1, e2, e3, e4⟩ := entP_some hn (e.ops ho) ht2 he
      have hcd : c ∈ dl := hd a c (by omega) e3 e4 (by rw [← e.at a (by omega) (by omega)]; exact e2)
      refine ⟨show lkS (tgl h1 c) (a + 1) ≤ n from Nat.le_trans (lkS_le _ _) ht2, fun j hj => ?_, fun x hx => ?_⟩
      · show tgl h1 c j = h j
        rw [tgl, upd, if_neg (hj c hcd)]; exact e j hj
      · show h01 (tgl h1 c) x
        unfold h01 tgl
        rw [upd]
        by_cases q : x = c
        · rw [if_pos (by rw [q])]
          rcases h0 c hcd with z | z
          · rw [z]; exact Or.inr (by decide)
          · rw [z]; exact Or.inl (by decide)
        · rw [if_neg (by omega)]; exact h0 x hx
def nxR (h : Nat → Int32) (n : Nat) (dl : List Nat) (key s : Nat) : Nat := stS (pkS (cmH h dl (s / 25) dl.length) n key (s % 25)).1 dl (pkS (cmH h dl (s / 25) dl.length) n key (s % 25)).2
def comeR (q : List (Nat × Nat)) (e : Nat × Nat) : List (Nat × Nat) := if e.1 ∈ q.map (fun z => z.1) then q else q ++ [e]
def qW (n : Nat) (q : List (Nat × Nat)) : Prop := (q.map (fun z => z.1)).Nodup ∧ ∀ i, i < q.length → pr1 q i % 25 ≤ n ∧ pr2 q i ≤ i
def spI (M M1 : Mm) (n : Nat) (dl sp : List Nat) (q : List (Nat × Nat)) : Prop := (∀ k, 5 ≤ k → k ≠ 8 → k ≠ 9 → k ≠ 10 → k ≠ 11 → M1 k = M k) ∧ (∀ j, j ≠ 2 → j ≠ 3 → j ≠ 12 → j ≠ 14 → j ≠ 17 → M1 0 j = M 0 j) ∧ eqD (M 1) (M1 1) dl ∧ (∀ x ∈ dl, h01 (M1 1) x) ∧ rowAt M1 9 0 14 dl ∧ rowAt M1 2 0 3 sp ∧ rI M1 q ∧ qW n q
theorem pr_mem {q : List (Nat × Nat)} {i : Nat} (h : i < q.length) : pr1 q i ∈ q.map (fun z => z.1) := by
  rw [List.mem_map]
  exact ⟨q[i], List.getElem_mem h, by simp [pr1, List.getElem?_eq_getElem h]⟩
theorem mem_pr {q : List (Nat × Nat)} {s : Nat} (h : s ∈ q.map (fun z => z.1)) : ∃ i, i < q.length ∧ pr1 q i = s := by
  obtain ⟨e, he, rfl⟩ := List.mem_map.mp h
  obtain ⟨i, hi, z⟩ := List.mem_iff_getElem.mp he
  exact ⟨i, hi, by simp [pr1, List.getElem?_eq_getElem hi, z]⟩
theorem rI.push {M : Mm} {q : List (Nat × Nat)} {s d : Nat} (h : rI M q) (hs : s < 1600) (hn : s ∉ q.map (fun z => z.1)) (hl : q.length < 1600) (hd : d < 2 ^ 30) : rI (mst (mst (mst M 10 s (nI d)) 11 q.length (nI s)) 0 17 (nI (q.length + 1))) (q ++ [(s, d)]) := by
  refine ⟨by rw [mst_same, upd, if_pos rfl, List.length_append]; rfl, by rw [List.length_append]; exact hl, fun i hi => ?_, fun z hz hzn => ?_⟩
  · rw [List.length_append] at hi
    rw [mst_other _ _ _ (by decide), mst_same, mst_other _ _ _ (show (11 : Nat) ≠ 10 by decide), mst_other _ _ _ (show (10 : Nat) ≠ 0 by decide), mst_other _ _ _ (show (10 : Nat) ≠ 11 by decide), mst_same]
    by_cases e : i = q.length
    · subst e
      rw [(pr_last q (s, d)).1, (pr_last q (s, d)).2]
      simp [upd, hs, hd]
    · have hi2 : i < q.length := by simp at hi; omega
      rw [(pr_app1 hi2).1, (pr_app1 hi2).2]
      obtain ⟨a1, a2, a3, a4⟩ := h.2.2.1 i hi2
      have hne : pr1 q i ≠ s := fun z => hn (by rw [← z]; exact pr_mem hi2)
      simp only [upd, e, hne, if_false]
      exact ⟨a1, a2, a3, a4⟩
  · rw [mst_other _ _ _ (by decide), mst_other _ _ _ (by decide), mst_same, upd]
    rw [List.map_append, List.mem_append] at hzn
    have h1 : z ≠ s := fun e => hzn (Or.inr (by simp [e]))
    rw [if_neg h1]
    exact h.2.2.2 z hz (fun w => hzn (Or.inl w))

theorem s_X8_spread_67 {M M1 : Mm} {n a key : Nat} {dl sp : List Nat} {q : List (Nat × Nat)} {bg : Int32} {u : Value} {Q : Pst} (ht : TR (M 1) n) (hn0 : 0 < n) (hn : n ≤ 24) (hm : M 0 0 = nI n) (hpl : ∀ y, y < n → plOK (M 1) y) (ho : opsOK (M 1) n) (hdo : ∀ a c, a < n → 0 < c → c < n → M 1 (a * 18 + 7) = nI c → c ∈ dl) (h6 : dl.length ≤ 6) (hdb : ∀ x ∈ dl, x < 24) (hnd : sp.Nodup) (hsb : ∀ y ∈ sp, y < 24) (hI : spI M M1 n dl sp q) (ha : a < q.length) (hk : key < 3) (k : ∀ M2 (v : Int32), spI M M2 n dl sp (comeR q (nxR (M 1) n dl key (pr1 q a), pr2 q a + 1)) → Ev MSh mX8_spread 141 [.ref 0, .int bg, .int (nI a), .int (nI key), .int v] [] M2 Q) : Ev MSh mX8_spread 67 [.ref 0, .int bg, .int (nI a), .int (nI key), u] [] M1 Q := by
  have hqa := hI.2.2.2.2.2.2.1.2.2.1 a ha
  have hq1 := hI.2.2.2.2.2.2.1.2.1
  have hw25 := (hI.2.2.2.2.2.2.2.2 a ha).1
  have hwle := (hI.2.2.2.2.2.2.2.2 a ha).2
  have hq16 := hqa.2.1
  refine ev_aload_n 68 dX8_spread_67 rfl rfl ?_
  refine ev_aload_n 69 dX8_spread_68 rfl rfl ?_
  refine ev_getR 72 dX8_spread_69 rfl flX8_40 rfl rfl ?_
  refine ev_iload_n 73 dX8_spread_72 rfl rfl ?_
  refine ev_iaN 74 (nI (pr1 q a)) dX8_spread_73 rfl (by omega) (by decide) rfl hqa.1 ?_
  refine ev_cV1 77 dX8_spread_74 mlX8_188 moX8_come rfl imX8_come ⟨_, _, rfl, rfl, rfl⟩ (Nat.le_of_ble_eq_true rfl) (Nat.le_of_ble_eq_true rfl) rfl (s_X8_come hI.2.2.2.2.1 h6 hdb hqa.2.1) ?_
  rintro r M2 ⟨rfl, c1, c2, c3, c4⟩
  rw [cmH_eq hI.2.2.1] at c1
  have eD2 : eqD (M 1) (M2 1) dl := by rw [c1]; exact cmH_D _ _ _
  have h02 : ∀ x ∈ dl, h01 (M2 1) x := fun x hx => by
    rw [c1]
    obtain ⟨i, hi, ei⟩ := mem_nth.mp hx
    exact cmH_01 _ (Nat.le_refl _) x (Or.inr ⟨i, hi, ei.symm⟩)
  have hok := pkS_ok (key := key) (t := pr1 q a % 25) (eD2.tr ht) hn0 hn ho hdo eD2 h02 hw25
  rw [c1] at hok
  refine ev_aload_n 78 dX8_spread_77 rfl rfl ?_
  refine ev_iload_n 79 dX8_spread_78 rfl rfl ?_
  refine ev_iconst 80 (nI 0) dX8_spread_79 (by decide) rfl ?_
  refine ev_cV2 83 dX8_spread_80 mlX8_171 moX8_pressed rfl imX8_pressed ⟨_, _, rfl, rfl, rfl⟩ (Nat.le_of_ble_eq_true rfl) (Nat.le_of_ble_eq_true rfl) rfl (s_X8_pressed_any (eD2.tr ht) hn0 hn (by rw [c3 0 (by decide), hI.2.1 0 (by decide) (by decide) (by decide) (by decide) (by decide)]; exact hm) (fun y hy => eD2.pl (hpl y hy)) (eD2.ops ho) hw25 c4 hk (hI.2.2.2.2.2.1.of (c2 2 (by decide) (by decide)) (c3 3 (by decide))) hnd hsb) ?_
  rintro r M3 ⟨rfl, p1, p2, p3, p4⟩
  rw [c1] at p2 p3
  have hd3 : rowAt M3 9 0 14 dl := hI.2.2.2.2.1.of (by rw [p1.1 9 (by decide) (by decide) (by decide) (by decide) (by decide) (by decide), c2 9 (by decide) (by decide)]) (by rw [p1.2 14 (by decide) (by decide) (by decide), c3 14 (by decide)])
  have f10 : M3 10 = M1 10 := by rw [p1.1 10 (by decide) (by decide) (by decide) (by decide) (by decide) (by decide), c2 10 (by decide) (by decide)]
  have f11 : M3 11 = M1 11 := by rw [p1.1 11 (by decide) (by decide) (by decide) (by decide) (by decide) (by decide), c2 11 (by decide) (by decide)]
  have f17 : M3 0 17 = M1 0 17 := by rw [p1.2 17 (by decide) (by decide) (by decide), c3 17 (by decide)]
  have hS : nxR (M 1) n dl key (pr1 q a) < 1600 := by
    have := mkN_lt (hdP (pkS (cmH (M 1) dl (pr1 q a / 25) dl.length) n key (pr1 q a % 25)).1 dl) dl.length
    have h64 : 2 ^ dl.length ≤ 2 ^ 6 := Nat.pow_le_pow_right (by omega) h6
    have := hok.1
    unfold nxR stS
    omega
  have hS25 : nxR (M 1) n dl key (pr1 q a) % 25 ≤ n := by
    have := hok.1
    unfold nxR stS
    omega
  have hI3 : ∀ q2, rI M3 q2 → qW n q2 → spI M M3 n dl sp q2 := fun q2 r2 w2 => ⟨fun k a1 a2 a3 a4 a5 => by rw [p1.1 k (by omega) (by omega) (by omega) (by omega) (by omega) a2, c2 k (by omega) (by omega)]; exact hI.1 k a1 a2 a3 a4 a5, fun j a1 a2 a3 a4 a5 => by rw [p1.2 j a1 a2 a3, c3 j a1]; exact hI.2.1 j a1 a2 a3 a4 a5, by rw [p2]; exact hok.2.1, fun x hx => by rw [p2]; exact hok.2.2 x hx, hd3, p4, r2, w2⟩
  refine ev_aload_n 84 dX8_spread_83 rfl rfl ?_
  refine ev_cV0I (nI (nxR (M 1) n dl key (pr1 q a))) M3 87 dX8_spread_84 mlX8_181 moX8_state rfl imX8_state ⟨_, _, rfl, rfl, rfl⟩ (Nat.le_of_ble_eq_true rfl) (Nat.le_of_ble_eq_true rfl) rfl (by have z := s_X8_state hd3 h6 hdb (fun x hx => by rw [p2]; exact hok.2.2 x hx) p3; rwa [p2] at z) ?_
  refine ev_istore 89 _ dX8_spread_87 (by decide) rfl rfl rfl ?_
  refine ev_aload_n 90 dX8_spread_89 rfl rfl ?_
  refine ev_getR 93 dX8_spread_90 rfl flX8_37 rfl rfl ?_
  refine ev_iload 95 dX8_spread_93 rfl rfl ?_
  refine ev_iaN 96 (M1 10 (nxR (M 1) n dl key (pr1 q a))) dX8_spread_95 rfl hS (by decide) rfl (by rw [f10]) ?_
  refine ev_iconst 97 (-1) dX8_spread_96 (by decide) rfl ?_
  refine ev_icmp_ne 100 141 dX8_spread_97 (by decide) rfl (fun c97 => ?_) (fun c97 => ?_)
  · have hin : nxR (M 1) n dl key (pr1 q a) ∈ q.map (fun z => z.1) := Classical.byContradiction fun z => c97 (hI.2.2.2.2.2.2.1.2.2.2 _ hS z)
    refine k M3 _ ?_
    rw [comeR, if_pos hin]
    have hr := hI.2.2.2.2.2.2.1
    exact hI3 q ⟨by rw [f17]; exact hr.1, hr.2.1, fun i hi => by rw [f10, f11]; exact hr.2.2.1 i hi, fun z h1 h2 => by rw [f10]; exact hr.2.2.2 z h1 h2⟩ hI.2.2.2.2.2.2.2
  · have hnin : nxR (M 1) n dl key (pr1 q a) ∉ q.map (fun z => z.1) := fun z => by
      obtain ⟨i, hi, ei⟩ := mem_pr z
      have := hI.2.2.2.2.2.2.1.2.2.1 i hi
      rw [ei] at this
      exact nI_m1 (by omega) (this.2.2.1.symm.trans c97)
    have hql : q.length < 1600 := by
      have := nodup_ltN hI.2.2.2.2.2.2.2.1 (fun y hy => by
        obtain ⟨i, hi, ei⟩ := mem_pr hy
        rw [← ei]; exact (hI.2.2.2.2.2.2.1.2.2.1 i hi).2.1) hS hnin
      rwa [List.length_map] at this
    refine ev_aload_n 101 dX8_spread_100 rfl rfl ?_
    refine ev_getR 104 dX8_spread_101 rfl flX8_37 rfl rfl ?_
    refine ev_iload 106 dX8_spread_104 rfl rfl ?_
    refine ev_aload_n 107 dX8_spread_106 rfl rfl ?_
    refine ev_getR 110 dX8_spread_107 rfl flX8_37 rfl rfl ?_
    refine ev_aload_n 111 dX8_spread_110 rfl rfl ?_
    refine ev_getR 114 dX8_spread_111 rfl flX8_40 rfl rfl ?_
    refine ev_iload_n 115 dX8_spread_114 rfl rfl ?_
    refine ev_iaN 116 (nI (pr1 q a)) dX8_spread_115 rfl (by omega) (by decide) rfl (by rw [f11]; exact hqa.1) ?_
    refine ev_iaN 117 (nI (pr2 q a)) dX8_spread_116 rfl (by omega) (by decide) rfl (by rw [f10]; exact hqa.2.2.1) ?_
    refine ev_iconst 118 (nI 1) dX8_spread_117 (by decide) rfl ?_
    refine ev_iaddN 119 dX8_spread_118 rfl ?_
    refine ev_iaS 120 dX8_spread_119 rfl hS (by decide) rfl ?_
    refine ev_aload_n 121 dX8_spread_120 rfl rfl ?_
    refine ev_getR 124 dX8_spread_121 rfl flX8_40 rfl rfl ?_
    refine ev_aload_n 125 dX8_spread_124 rfl rfl ?_
    refine ev_getIv 128 (nI q.length) dX8_spread_125 rfl flX8_185 rfl rfl (by rw [mst_other _ _ _ (by decide), f17]; exact hI.2.2.2.2.2.2.1.1) ?_
    refine ev_iload 130 dX8_spread_128 rfl rfl ?_
    refine ev_iaS 131 dX8_spread_130 rfl (by omega) (by decide) rfl ?_
    refine ev_aload_n 132 dX8_spread_131 rfl rfl ?_
    refine ev_dup 133 dX8_spread_132 rfl rfl ?_
    refine ev_getIv 136 (nI q.length) dX8_spread_133 rfl flX8_185 rfl rfl (by rw [mst_other _ _ _ (by decide), mst_other _ _ _ (by decide), f17]; exact hI.2.2.2.2.2.2.1.1) ?_
    refine ev_iconst 137 (nI 1) dX8_spread_136 (by decide) rfl ?_
    refine ev_iaddN 138 dX8_spread_137 rfl ?_
    refine ev_putI 141 dX8_spread_138 rfl flX8_185 fiX8_17 rfl rfl ?_
    refine k _ _ ?_
    have hr := hI.2.2.2.2.2.2.1
    rw [comeR, if_neg hnin]
    have z := hI3 q ⟨by rw [f17]; exact hr.1, hr.2.1, fun i hi => by rw [f10, f11]; exact hr.2.2.1 i hi, fun z h1 h2 => by rw [f10]; exact hr.2.2.2 z h1 h2⟩ hI.2.2.2.2.2.2.2
    refine ⟨fun k a1 a2 a3 a4 a5 => by rw [mst_other _ _ _ (by omega), mst_other _ _ _ a5, mst_other _ _ _ a4]; exact z.1 k a1 a2 a3 a4 a5, fun j a1 a2 a3 a4 a5 => by rw [mst_same, upd, if_neg a5, mst_other _ _ _ (by decide), mst_other _ _ _ (by decide)]; exact z.2.1 j a1 a2 a3 a4 a5, by rw [mst_other _ _ _ (by decide), mst_other _ _ _ (by decide), mst_other _ _ _ (by decide)]; exact z.2.2.1, fun x hx => by rw [mst_other _ _ _ (by decide), mst_other _ _ _ (by decide), mst_other _ _ _ (by decide)]; exact z.2.2.2.1 x hx, z.2.2.2.2.1.of (by rw [mst_other _ _ _ (by decide), mst_other _ _ _ (by decide), mst_other _ _ _ (by decide)]) (by rw [mst_same, upd, if_neg (by decide), mst_other _ _ _ (by decide), mst_other _ _ _ (by decide)]), z.2.2.2.2.2.1.of (by rw [mst_other _ _ _ (by decide), mst_other _ _ _ (by decide), mst_other _ _ _ (by decide)]) (by rw [mst_same, upd, if_neg (by decide), mst_other _ _ _ (by decide), mst_other _ _ _ (by decide)]), z.2.2.2.2.2.2.1.push hS hnin hql (by omega), ?_, fun i hi => ?_⟩
    · rw [List.map_append, List.nodup_append]
      exact ⟨hI.2.2.2.2.2.2.2.1, by simp, fun x hx y hy e => by simp at hy; rw [e, hy] at hx; exact hnin hx⟩
    · rw [List.length_append] at hi
      by_cases e : i = q.length
      · subst e
        rw [(pr_last q _).1, (pr_last q _).2]
        exact ⟨hS25, by have := (hI.2.2.2.2.2.2.2.2 a ha).2; show pr2 q a + 1 ≤ q.length; omega⟩
      · have hi2 : i < q.length := by simp at hi; omega
        rw [(pr_app1 hi2).1, (pr_app1 hi2).2]
        exact hI.2.2.2.2.2.2.2.2 i hi2
