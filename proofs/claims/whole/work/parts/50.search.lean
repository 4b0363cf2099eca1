section
/-! walk, key, keeper: what the class's search finds is what the reference tells -/
def gl (goals : Int32) (s : Nat) : Bool := hB goals (pm (s % 25))
theorem fnd_cg {nx : Nat → Nat → Nat} {V : Nat → Prop} {s0 : Nat} {pa : List Qe → Nat → List Qe} (goals : Int32) (hV : clsd nx V) (hpa : ∀ q a, a < q.length → V (qe q a).1 → pa q a = pk3 nx q a) : ∀ d a q, LI nx V s0 a q → fndF pa goals d a q = fndF (pk3 nx) goals d a q
  | 0, _, _, _ => rfl
  | d + 1, a, q, hI => by
    rw [fndF, fndF]
    by_cases c : a < q.length
    · rw [if_pos c, if_pos c, hpa q a c (hI.1.2.2.1 _ (qe_mem c)).2, fnd_cg goals hV hpa d (a + 1) _ (li_step hV hI c)]
    · rw [if_neg c, if_neg c]
theorem fnd_spec {nx : Nat → Nat → Nat} {V : Nat → Prop} {s0 : Nat} (goals : Int32) (hV : clsd nx V) : ∀ d a q, a + d = 1600 → LI nx V s0 a q → (∀ i, i < a → i < q.length → gl goals (qe q i).1 = false) →
    ((fndF (pk3 nx) goals d a q).1 = -1 ∧ ∀ i, i < (fullF nx d a q).length → gl goals (qe (fullF nx d a q) i).1 = false) ∨
    (∃ j, j < (fullF nx d a q).length ∧ (fndF (pk3 nx) goals d a q).1 = nI j ∧ qe (fndF (pk3 nx) goals d a q).2 j = qe (fullF nx d a q) j ∧ gl goals (qe (fullF nx d a q) j).1 = true ∧ ∀ i, i < j → gl goals (qe (fullF nx d a q) i).1 = false)
  | 0, a, q, h, hI, hg => by
    left
    have hl := bi_len hI.1
    refine ⟨rfl, fun i hi => ?_⟩
    rw [fullF] at hi ⊢
    exact hg i (by omega) hi
  | d + 1, a, q, h, hI, hg => by
    obtain ⟨t, ht⟩ := full_pre nx (d + 1) a q
    rw [fndF]
    by_cases c : a < q.length
    · rw [if_pos c]
      by_cases g : hB goals (pm (qs q a % 25)) = true
      · right
        rw [if_pos g, ht]
        refine ⟨a, by rw [List.length_append]; omega, rfl, (qe_app c).symm, by rw [qe_app c]; exact g, fun i hi => ?_⟩
        rw [qe_app (by omega)]
        exact hg i hi (by omega)
      · rw [if_neg g, fullF, if_pos c]
        refine fnd_spec goals hV d (a + 1) _ (by omega) (li_step hV hI c) (fun i h1 h2 => ?_)
        obtain ⟨t2, ht2⟩ := pk3_pre nx q a
        rw [ht2]
        by_cases e : i = a
        · rw [e, qe_app c]; exact Bool.eq_false_iff.mpr g
        · rw [qe_app (by omega)]; exact hg i (by omega) (by omega)
    · rw [if_neg c, fullF, if_neg c]
      exact Or.inl ⟨rfl, fun i hi => hg i (by omega) hi⟩
-- the reference's queue
def pj (e : Qe) : Nat × Nat := (e.1, e.2.1)
theorem map_pj (q : List Qe) : (q.map pj).map (fun z => z.1) = q.map (fun e => e.1) := by rw [List.map_map]; rfl
theorem pr_pj {q : List Qe} {i : Nat} (h : i < q.length) : pr1 (q.map pj) i = (qe q i).1 ∧ pr2 (q.map pj) i = (qe q i).2.1 := by
  rw [qe_get h]
  constructor
  · simp [pr1, h, pj]
  · simp [pr2, h, pj]
theorem come_map {nx : Nat → Nat → Nat} {V : Nat → Prop} {s0 : Nat} {q : List Qe} {e : Qe} (h : BI nx V s0 q) (h16 : e.1 < 1600) : comeR (q.map pj) (e.1, e.2.1) = (comeF q e).map pj := by
  rw [comeR, map_pj]
  by_cases m : e.1 ∈ q.map (fun z => z.1)
  · rw [if_pos m, come_in m]
  · rw [if_neg m, bi_new h h16 m, List.map_append]
    rfl
theorem rk_map {h : Nat → Int32} {n s0 a : Nat} {dl : List Nat} {V : Nat → Prop} {q : List Qe} (hV : clsd (nxR h n dl) V) (hB : BI (nxR h n dl) V s0 q) (ha : a < q.length) (hc : ∀ z ∈ q, wE z ≤ cwE (qe q a) 0) : rkF h n dl (q.map pj) a 3 = (pk3 (nxR h n dl) q a).map pj := by
  have hm := qe_mem ha
  have hs := hB.2.2.2.2 _ hm
  have hv := (hB.2.2.1 _ hm).2
  have mono : ∀ k k2, k ≤ k2 → cwE (qe q a) k ≤ cwE (qe q a) k2 := fun k k2 hk => by
    unfold cwE
    split <;> omega
  obtain ⟨b1, c1, -⟩ := bi_push (c := cwE (qe q a) 0) hB hc (hV _ 0 hv (by omega)).2 (hV _ 0 hv (by omega)).1 (chE_w hs _ (by omega)) (chE_s hs (by omega))
  obtain ⟨b2, -, -⟩ := bi_push (c := cwE (qe q a) 1) b1 (fun z hz => Nat.le_trans (c1 z hz) (mono 0 1 (by omega))) (hV _ 1 hv (by omega)).2 (hV _ 1 hv (by omega)).1 (chE_w hs _ (by omega)) (chE_s hs (by omega))
  show comeR (comeR (comeR (q.map pj) (nxR h n dl 0 (pr1 (q.map pj) a), pr2 (q.map pj) a + 1)) (nxR h n dl 1 (pr1 (q.map pj) a), pr2 (q.map pj) a + 1)) (nxR h n dl 2 (pr1 (q.map pj) a), pr2 (q.map pj) a + 1) = _
  rw [(pr_pj ha).1, (pr_pj ha).2, pk3]
  have e1 := come_map (e := chE (qe q a) (nxR h n dl 0 (qe q a).1) 0) hB (hV _ 0 hv (by omega)).2
  have e2 := come_map (e := chE (qe q a) (nxR h n dl 1 (qe q a).1) 1) b1 (hV _ 1 hv (by omega)).2
  have e3 := come_map (e := chE (qe q a) (nxR h n dl 2 (qe q a).1) 2) b2 (hV _ 2 hv (by omega)).2
  rw [← e3, ← e2, ← e1]
  rfl
theorem rbfs_map {h : Nat → Int32} {n s0 : Nat} {dl : List Nat} {V : Nat → Prop} (hV : clsd (nxR h n dl) V) : ∀ d a q, LI (nxR h n dl) V s0 a q → rbfs h n dl d a (q.map pj) = (fullF (nxR h n dl) d a q).map pj
  | 0, _, _, _ => rfl
  | d + 1, a, q, hI => by
    rw [rbfs, fullF, List.length_map]
    by_cases c : a < q.length
    · rw [if_pos c, if_pos c, rk_map hV hI.1 c (hI.2.2 c), rbfs_map hV d (a + 1) _ (li_step hV hI c)]
    · rw [if_neg c, if_neg c]
-- lengths are small
def dle (q : List Qe) : Prop := ∀ i, i < q.length → (qe q i).2.1 ≤ i
theorem qe_last (q : List Qe) (e : Qe) : qe (q ++ [e]) q.length = e := by simp [qe]
theorem dle_come {q : List Qe} {e : Qe} (h : dle q) (he : e.2.1 ≤ q.length) : dle (comeF q e) := by
  rw [comeF]
  split
  · exact h
  · intro i hi
    rw [List.length_append, List.length_singleton] at hi
    by_cases c : i = q.length
    · rw [c, qe_last]; exact he
    · rw [qe_app (by omega)]; exact h i (by omega)
theorem come_len (q : List Qe) (e : Qe) : q.length ≤ (comeF q e).length := by
  obtain ⟨t, ht⟩ := comeF_pre q e
  rw [ht, List.length_append]; omega
theorem dle_pk3 {nx : Nat → Nat → Nat} {q : List Qe} {a : Nat} (h : dle q) (ha : a < q.length) : dle (pk3 nx q a) := by
  have h1 := h a ha
  have hd : ∀ s k, (chE (qe q a) s k).2.1 ≤ q.length := fun s k => by
    show (qe q a).2.1 + 1 ≤ _
    omega
  have l1 := come_len q (chE (qe q a) (nx 0 (qe q a).1) 0)
  have l2 := come_len (comeF q (chE (qe q a) (nx 0 (qe q a).1) 0)) (chE (qe q a) (nx 1 (qe q a).1) 1)
  exact dle_come (dle_come (dle_come h (hd _ _)) (Nat.le_trans (hd _ _) l1)) (Nat.le_trans (hd _ _) (Nat.le_trans l1 l2))
theorem dle_full {nx : Nat → Nat → Nat} : ∀ d a q, dle q → dle (fullF nx d a q)
  | 0, _, _, h => h
  | d + 1, a, q, h => by
    rw [fullF]
    split
    · rename_i c
      exact dle_full d (a + 1) _ (dle_pk3 h c)
    · exact h
theorem dle_QF (nx : Nat → Nat → Nat) (s0 : Nat) : dle (QF nx s0) := dle_full _ _ _ (fun i hi => by
  have : i = 0 := by simp [Q0] at hi; omega
  rw [this]; exact Nat.le_refl _)
-- the least length
theorem lst_no {q : List (Nat × Nat)} {x : Int32} : ∀ k, (∀ i, i < k → ¬ pm (pr1 q i % 25) = x) → lstF q x k = -1
  | 0, _ => rfl
  | k + 1, h => by
    rw [lstF, if_neg (fun z => h k (by omega) z.1)]
    exact lst_no k (fun i hi => h i (by omega))
theorem lst_at {q : List (Nat × Nat)} {x : Int32} {j : Nat} (hd : ∀ i, i < q.length → pr2 q i < 2 ^ 30) (hs : ∀ i, j ≤ i → i < q.length → pr2 q j ≤ pr2 q i) (hj : pm (pr1 q j % 25) = x) (hf : ∀ i, i < j → ¬ pm (pr1 q i % 25) = x) : ∀ k, j < k → k ≤ q.length → lstF q x k = nI (pr2 q j)
  | 0, h, _ => absurd h (Nat.not_lt_zero _)
  | k + 1, h, hk => by
    rw [lstF]
    by_cases c : k = j
    · rw [c, if_pos ⟨hj, Or.inl (lst_no j hf)⟩]
    · rw [lst_at hd hs hj hf k (by omega) (by omega), if_neg]
      rintro ⟨-, z | z⟩
      · exact nI_m1 (by have := hd j (by omega); omega) z
      · have h1 := hs k (by omega) (by omega)
        have h2 := hd j (by omega)
        have h3 := hd k (by omega)
        rw [fa_lt, nI_toInt (by omega), nI_toInt (by omega)] at z
        omega
theorem gl_p {s p : Nat} (hp : p < 24) : gl (nI 1 <<< (nI p &&& 31)) s = true ↔ pm (s % 25) = nI p := by
  rw [gl]
  have hs : s % 25 < 25 := Nat.mod_lt _ (by omega)
  cases e : s % 25 with
  | zero =>
    rw [pm_0, hB_m1]
    exact ⟨fun z => absurd z (by decide), fun z => absurd z.symm (nI_m1 (by omega))⟩
  | succ f => rw [pm_s, hB_nI (by omega), bt_1shl (by omega) (by omega), decide_eq_true_eq, nI_eq (by omega) (by omega)]
def lst (nx : Nat → Nat → Nat) (p s : Nat) : Int32 := lstF ((QF nx s).map pj) (nI p) (QF nx s).length
theorem lst_first {nx : Nat → Nat → Nat} {V : Nat → Prop} {p s0 j : Nat} (hV : clsd nx V) (h16 : s0 < 1600) (hv : V s0) (hp : p < 24) (hj : j < (QF nx s0).length) (h1 : gl (nI 1 <<< (nI p &&& 31)) (qe (QF nx s0) j).1 = true) (h2 : ∀ i, i < j → gl (nI 1 <<< (nI p &&& 31)) (qe (QF nx s0) i).1 = false) : lst nx p s0 = nI (qe (QF nx s0) j).2.1 := by
  have hB := (QF_ok hV h16 hv).1
  have hl := bi_len hB
  have hd := dle_QF nx s0
  have z := lst_at (q := (QF nx s0).map pj) (x := nI p) (j := j) (fun i hi => by
      rw [List.length_map] at hi
      rw [(pr_pj hi).2]
      have := hd i hi
      omega) (fun i a b => by
      rw [List.length_map] at b
      rw [(pr_pj hj).2, (pr_pj b).2]
      have z := bi_srt hB a b
      refine wE_d (k := (qe (QF nx s0) i).2.2.toNatClampNeg) (Nat.le_trans z ?_) ?_
      · unfold wE; split <;> omega
      · rcases hB.2.2.2.2 _ (qe_mem b) with e | ⟨-, f, hf, e, -⟩
        · rw [e]; exact (show (-1 : Int32).toNatClampNeg < 3 by decide)
        · rw [e, nI_clamp (by omega)]; exact hf)
    (by rw [(pr_pj hj).1]; exact (gl_p hp).mp h1) (fun i hi z => by
      rw [(pr_pj (show i < (QF nx s0).length by omega)).1] at z
      have := h2 i hi
      rw [(gl_p hp).mpr z] at this
      exact absurd this (by decide)) (QF nx s0).length hj (by rw [List.length_map]; exact Nat.le_refl _)
  rw [(pr_pj hj).2] at z
  exact z
theorem lst_none {nx : Nat → Nat → Nat} {p s0 : Nat} (hp : p < 24) (h2 : ∀ i, i < (QF nx s0).length → gl (nI 1 <<< (nI p &&& 31)) (qe (QF nx s0) i).1 = false) : lst nx p s0 = -1 := by
  refine lst_no _ (fun i hi z => ?_)
  rw [(pr_pj hi).1] at z
  have := h2 i hi
  rw [(gl_p hp).mpr z] at this
  exact absurd this (by decide)
theorem gl_first {nx : Nat → Nat → Nat} (goals : Int32) (s0 : Nat) : (∀ i, i < (QF nx s0).length → gl goals (qe (QF nx s0) i).1 = false) ∨ ∃ j, j < (QF nx s0).length ∧ gl goals (qe (QF nx s0) j).1 = true ∧ ∀ i, i < j → gl goals (qe (QF nx s0) i).1 = false := by
  by_cases c : ∃ i, i < (QF nx s0).length ∧ gl goals (qe (QF nx s0) i).1 = true
  · obtain ⟨j, h1, h2, h3⟩ := fb_first c
    exact Or.inr ⟨j, h1, h2, fun i hi => Bool.eq_false_iff.mpr (h3 i hi)⟩
  · exact Or.inl (fun i hi => Bool.eq_false_iff.mpr (fun z => c ⟨i, hi, z⟩))
theorem lst_char {nx : Nat → Nat → Nat} {V : Nat → Prop} {p s0 : Nat} (hV : clsd nx V) (h16 : s0 < 1600) (hv : V s0) (hp : p < 24) :
    (lst nx p s0 = -1 ∧ ∀ m g, RR nx m s0 g → ¬ pm (g % 25) = nI p) ∨ (∃ m, m < 1600 ∧ lst nx p s0 = nI m ∧ (∃ g, RR nx m s0 g ∧ pm (g % 25) = nI p) ∧ ∀ m2 g, RR nx m2 s0 g → pm (g % 25) = nI p → m ≤ m2) := by
  obtain ⟨hB, hC⟩ := QF_ok hV h16 hv
  rcases gl_first (nx := nx) (nI 1 <<< (nI p &&& 31)) s0 with h | ⟨j, hj, h1, h2⟩
  · left
    refine ⟨lst_none hp h, fun m g hr e => ?_⟩
    obtain ⟨z, hz, e1, -⟩ := QF_C hB hC m g hr
    obtain ⟨i, hi, rfl⟩ := List.mem_iff_getElem.mp hz
    have := h i hi
    rw [qe_get hi, e1, (gl_p hp).mpr e] at this
    exact absurd this (by decide)
  · right
    have hl := bi_len hB
    have hd := dle_QF nx s0 j hj
    refine ⟨(qe (QF nx s0) j).2.1, by omega, lst_first hV h16 hv hp hj h1 h2, ⟨_, QF_S hB (qe_mem hj), (gl_p hp).mp h1⟩, fun m2 g hr e => ?_⟩
    obtain ⟨z, hz, e1, e2⟩ := QF_C hB hC m2 g hr
    obtain ⟨i, hi, rfl⟩ := List.mem_iff_getElem.mp hz
    rw [← qe_get hi] at e1 e2
    rcases Nat.lt_or_ge i j with c | c
    · have := h2 i c
      rw [e1, (gl_p hp).mpr e] at this
      exact absurd this (by decide)
    · have z := bi_srt hB c hi
      refine Nat.le_trans (wE_d (k := (qe (QF nx s0) i).2.2.toNatClampNeg) (Nat.le_trans z ?_) ?_) e2
      · unfold wE; split <;> omega
      · rcases hB.2.2.2.2 _ (qe_mem hi) with e | ⟨-, f, hf, e, -⟩
        · rw [e]; exact (show (-1 : Int32).toNatClampNeg < 3 by decide)
        · rw [e, nI_clamp (by omega)]; exact hf
theorem walk_eq {nx : Nat → Nat → Nat} {V : Nat → Prop} {p s0 : Nat} (hV : clsd nx V) (h16 : s0 < 1600) (hv : V s0) (hp : p < 24) : resL (fndF (pk3 nx) (nI 1 <<< (nI p &&& 31)) 1600 0 (Q0 s0)) = lst nx p s0 := by
  have hl := bi_len (QF_ok hV h16 hv).1
  rcases fnd_spec (nI 1 <<< (nI p &&& 31)) hV 1600 0 (Q0 s0) rfl (li_0 h16 hv) (fun i hi => absurd hi (Nat.not_lt_zero _)) with ⟨e, h⟩ | ⟨j, hj, e, e2, h1, h2⟩
  · rw [resL, if_pos e, lst_none hp h]
  · have hl2 : j < 1600 := by
      have : j < (QF nx s0).length := hj
      omega
    rw [resL, e, if_neg (nI_m1 (by omega)), nI_clamp (by omega), lst_first hV h16 hv hp hj h1 h2]
    show nI (qe _ j).2.1 = _
    rw [e2]
    rfl
def kyF (L : Int32) (Lk : Nat → Int32) : Int32 := if L < nI 1 then -1 else if Lk 0 = L - nI 1 then nI 0 else if Lk 1 = L - nI 1 then nI 1 else if Lk 2 = L - nI 1 then nI 2 else -1
theorem kyF_at {L : Int32} {Lk : Nat → Int32} {f : Nat} (h0 : ¬ L < nI 1) (hf : f < 3) (h1 : Lk f = L - nI 1) (h2 : ∀ k, k < f → ¬ Lk k = L - nI 1) : kyF L Lk = nI f := by
  rw [kyF, if_neg h0]
  rcases (show f = 0 ∨ f = 1 ∨ f = 2 by omega) with rfl | rfl | rfl
  · rw [if_pos h1]
  · rw [if_neg (h2 0 (by omega)), if_pos h1]
  · rw [if_neg (h2 0 (by omega)), if_neg (h2 1 (by omega)), if_pos h1]
theorem key_eq {nx : Nat → Nat → Nat} {V : Nat → Prop} {p s0 : Nat} (hV : clsd nx V) (h16 : s0 < 1600) (hv : V s0) (hp : p < 24) : resK (fndF (pk3 nx) (nI 1 <<< (nI p &&& 31)) 1600 0 (Q0 s0)) = kyF (lst nx p s0) (fun k => lst nx p (nx k s0)) := by
  obtain ⟨hB, hC⟩ := QF_ok hV h16 hv
  have hl := bi_len hB
  rcases fnd_spec (nI 1 <<< (nI p &&& 31)) hV 1600 0 (Q0 s0) rfl (li_0 h16 hv) (fun i hi => absurd hi (Nat.not_lt_zero _)) with ⟨e, h⟩ | ⟨j, hj, e, e2, h1, h2⟩
  · rw [resK, if_pos e, lst_none hp h, kyF, if_pos (by decide)]
  · have hj' : j < (QF nx s0).length := hj
    have hL := lst_first hV h16 hv hp hj h1 h2
    have hd := dle_QF nx s0 j hj
    rw [resK, e, if_neg (nI_m1 (by omega)), nI_clamp (by omega)]
    show (qe _ j).2.2 = _
    rw [e2]
    show (qe (QF nx s0) j).2.2 = _
    rcases hB.2.2.2.2 _ (qe_mem hj') with z | ⟨hd1, f, hf, z, hr⟩
    · have e0 : (qe (QF nx s0) j).2.1 = 0 := by rw [z]
      rw [hL, e0, kyF, if_pos (by decide), z]
    · rw [z]
      have e1 : nI (qe (QF nx s0) j).2.1 - nI 1 = nI ((qe (QF nx s0) j).2.1 - 1) := pk_sub hd1
      have hG := (gl_p hp).mp h1
      refine (kyF_at (f := f) ?_ hf ?_ ?_).symm
      · rw [hL, fa_lt, nI_toInt (by omega), nI_toInt (by omega)]
        omega
      · show lst nx p (nx f s0) = _
        rw [hL, e1]
        have hk := hV s0 f hv hf
        rcases lst_char hV hk.2 hk.1 hp with ⟨-, b⟩ | ⟨m, a1, a2, ⟨g, a3, a4⟩, a5⟩
        · exact absurd hG (b _ _ hr)
        · rw [a2]
          have b1 := a5 _ _ hr hG
          have b2 : (qe (QF nx s0) j).2.1 ≤ m + 1 := by
            rcases lst_char hV h16 hv hp with ⟨-, b⟩ | ⟨m3, a31, a32, -, a35⟩
            · exact absurd a4 (b _ _ (RR_first.mpr ⟨f, hf, a3⟩))
            · rw [hL, nI_eq (by omega) (by omega)] at a32
              rw [a32]
              exact a35 _ _ (RR_first.mpr ⟨f, hf, a3⟩) a4
          rw [show m = (qe (QF nx s0) j).2.1 - 1 by omega]
      · intro k hk y
        have y2 : lst nx p (nx k s0) = nI ((qe (QF nx s0) j).2.1 - 1) := by rw [← e1, ← hL]; exact y
        have hk2 := hV s0 k hv (by omega)
        rcases lst_char hV hk2.2 hk2.1 hp with ⟨b, -⟩ | ⟨m, a1, a2, ⟨g, a3, a4⟩, -⟩
        · rw [y2] at b
          exact nI_m1 (by omega) b
        · rw [y2, nI_eq (by omega) (by omega)] at a2
          obtain ⟨w, hw, w1, w2⟩ := QF_K hB hC (show k < 3 by omega) m g a3
          obtain ⟨i, hi, rfl⟩ := List.mem_iff_getElem.mp hw
          rw [← qe_get hi] at w1 w2
          have hwj : wE (qe (QF nx s0) j) = 3 * (qe (QF nx s0) j).2.1 + f := by rw [wE, if_neg (by omega), z, nI_clamp (by omega)]
          rcases Nat.lt_or_ge i j with c | c
          · have := h2 i c
            have q : gl (nI 1 <<< (nI p &&& 31)) (qe (QF nx s0) i).1 = true := by rw [w1]; exact (gl_p hp).mpr a4
            have q2 : gl (nI 1 <<< (nI p &&& 31)) (qe (QF nx s0) i).1 = false := this
            rw [q] at q2
            exact absurd q2 (by decide)
          · have := bi_srt hB c hi
            omega
end
