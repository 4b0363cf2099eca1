section
/-! a part more -/
def TB (n : Nat) (h h1 : Nat → Int32) : Prop := ∀ p, p < n → ∀ w, w < 18 → h1 (p * 18 + w) = h (p * 18 + w)
theorem tb_par {n : Nat} {h h1 : Nat → Int32} (e : TB n h h1) {p : Nat} (hp : p < n) : par h1 p = par h p := by
  unfold par
  rw [e p hp 11 (by omega)]
theorem tb_chain {n : Nat} {h h1 : Nat → Int32} (e : TB n h h1) (p : Nat) : p < n → chain h1 p = chain h p := by
  induction p using Nat.strongRecOn with
  | _ p ih =>
    intro hp
    rw [chain_def h1 p, chain_def h p]
    by_cases q : 0 < p ∧ par h p < p
    · rw [if_pos q, if_pos (by rw [tb_par e hp]; exact q), tb_par e hp, ih _ q.2 (by omega)]
    · rw [if_neg q, if_neg (by rw [tb_par e hp]; exact q)]
theorem tb_pd {n : Nat} {h h1 : Nat → Int32} (e : TB n h h1) (p : Nat) : ∀ d, (d = 0 ∨ p + d < n) → pd h1 p d = pd h p d
  | 0, _ => rfl
  | d + 1, hd => by rw [pd, pd, tb_pd e p d (by omega), e (p + d + 1) (by omega) 11 (by omega)]
theorem tb_pre {n : Nat} {h h1 : Nat → Int32} (e : TB n h h1) : ∀ f p, preF h1 n f p = preF h n f p
  | 0, _ => rfl
  | f + 1, p => by
    have z : preF h1 n f = preF h n f := funext (tb_pre e f)
    rw [preF, preF, kids, kids, tb_pd e p _ (by omega), z]
theorem tb_shwn {n : Nat} {h h1 : Nat → Int32} (e : TB n h h1) {p : Nat} (hp : p < n) : shwn h1 p = shwn h p := by
  unfold shwn
  rw [tb_chain e p hp, Bool.eq_iff_iff, List.all_eq_true, List.all_eq_true]
  have hlt : ∀ q ∈ p :: chain h p, q < n := fun q hq => by
    rcases List.mem_cons.mp hq with z | z
    · omega
    · have := chain_lt h p q z; omega
  constructor
  · intro z q hq
    have := z q hq
    rwa [e q (hlt q hq) 5 (by omega)] at this
  · intro z q hq
    rw [e q (hlt q hq) 5 (by omega)]
    exact z q hq
theorem pf_old {h : Nat → Int32} {n k : Nat} {x : Int32} : TB n h (pfH h n x k) := fun p hp w hw => by
  unfold pfH
  rw [upd_at _ n p 17 w _ (by omega) hw, if_neg (by omega), upd_at _ n p 11 w _ (by omega) hw, if_neg (by omega), upd_at _ n p 10 w _ (by omega) hw, if_neg (by omega), upd_at _ n p 7 w _ (by omega) hw, if_neg (by omega), upd_at _ n p 4 w _ (by omega) hw, if_neg (by omega), upd_at _ n p 3 w _ (by omega) hw, if_neg (by omega)]
theorem pf_new (h : Nat → Int32) (n k : Nat) (x : Int32) {w : Nat} (hw : w < 18) : pfH h n x k (n * 18 + w) = if w = 17 then nI 16777215 else if w = 11 then x else if w = 10 then nI k else if w = 7 ∨ w = 4 ∨ w = 3 then -1 else h (n * 18 + w) := by
  unfold pfH
  rw [upd_at _ n n 17 w _ (by omega) hw, upd_at _ n n 11 w _ (by omega) hw, upd_at _ n n 10 w _ (by omega) hw, upd_at _ n n 7 w _ (by omega) hw, upd_at _ n n 4 w _ (by omega) hw, upd_at _ n n 3 w _ (by omega) hw]
  by_cases c1 : w = 17
  · rw [if_pos ⟨rfl, c1⟩, if_pos c1]
  rw [if_neg (fun z => c1 z.2), if_neg c1]
  by_cases c2 : w = 11
  · rw [if_pos ⟨rfl, c2⟩, if_pos c2]
  rw [if_neg (fun z => c2 z.2), if_neg c2]
  by_cases c3 : w = 10
  · rw [if_pos ⟨rfl, c3⟩, if_pos c3]
  rw [if_neg (fun z => c3 z.2), if_neg c3]
  by_cases c4 : w = 7
  · rw [if_pos ⟨rfl, c4⟩, if_pos (Or.inl c4)]
  rw [if_neg (fun z => c4 z.2)]
  by_cases c5 : w = 4
  · rw [if_pos ⟨rfl, c5⟩, if_pos (Or.inr (Or.inl c5))]
  rw [if_neg (fun z => c5 z.2)]
  by_cases c6 : w = 3
  · rw [if_pos ⟨rfl, c6⟩, if_pos (Or.inr (Or.inr c6))]
  rw [if_neg (fun z => c6 z.2), if_neg (by omega)]
theorem pf_far {h : Nat → Int32} {n k j : Nat} {x : Int32} (hj : (n + 1) * 18 ≤ j) : pfH h n x k j = h j := by
  unfold pfH
  rw [upd, if_neg (by omega), upd, if_neg (by omega), upd, if_neg (by omega), upd, if_neg (by omega), upd, if_neg (by omega), upd, if_neg (by omega)]
theorem pf_tr {h : Nat → Int32} {n c k : Nat} (ht : TR h n) (hn0 : 0 < n) (hn : n < 24) (hc : c < n) : TR (pfH h n (nI c) k) (n + 1) := by
  refine ⟨by rw [pf_old 0 hn0 11 (by omega)]; exact ht.1, fun p h0 hp => ?_⟩
  by_cases e : p = n
  · have e2 : pfH h n (nI c) k (n * 18 + 11) = nI c := by rw [pf_new h n k _ (by omega), if_neg (by omega), if_pos rfl]
    have e3 : par (pfH h n (nI c) k) n = c := by rw [par, e2, nI_clamp (by omega)]
    rw [e, e2, e3]
    exact ⟨hc, rfl⟩
  · rw [tb_par pf_old (show p < n by omega), pf_old p (by omega) 11 (by omega)]
    exact ht.2 p h0 (by omega)
theorem pf_chain {h : Nat → Int32} {n c k : Nat} (ht : TR h n) (hn0 : 0 < n) (hn : n < 24) (hc : c < n) : chain (pfH h n (nI c) k) n = c :: chain h c := by
  have e2 : pfH h n (nI c) k (n * 18 + 11) = nI c := by rw [pf_new h n k _ (by omega), if_neg (by omega), if_pos rfl]
  have e3 : par (pfH h n (nI c) k) n = c := by rw [par, e2, nI_clamp (by omega)]
  rw [chain_s (pf_tr (k := k) ht hn0 hn hc) hn0 (by omega), e3, tb_chain pf_old c hc]
theorem pf_g0 {h : Nat → Int32} {n c k : Nat} (g : G0 h n) (hn : n < 24) (hc : c < n) : G0 (pfH h n (nI c) k) (n + 1) := by
  obtain ⟨g1, g2, g3, g4, g5, g6, g7, g8⟩ := g
  have z : ∀ w, w < 18 → w ≠ 17 → w ≠ 11 → w ≠ 10 → w ≠ 7 → w ≠ 4 → w ≠ 3 → pfH h n (nI c) k (n * 18 + w) = 0 := fun w h1 h2 h3 h4 h5 h6 h7 => by
    rw [pf_new h n k _ h1, if_neg h2, if_neg h3, if_neg h4, if_neg (by omega)]
    exact g8 _ (by omega)
  have m1 : ∀ w, w = 7 ∨ w = 4 ∨ w = 3 → pfH h n (nI c) k (n * 18 + w) = -1 := fun w hw => by
    rw [pf_new h n k _ (by omega), if_neg (by omega), if_neg (by omega), if_neg (by omega), if_pos hw]
  refine ⟨⟨by omega, by omega⟩, pf_tr g2 (by omega) hn hc, fun a ha u hu => ?_, fun a ha => ?_, fun a ha => ?_, fun a ha => ?_, fun a ha => ?_, fun j hj => ?_⟩
  · by_cases e : a = n
    · rw [e]; exact Or.inl (m1 u (by omega))
    · rw [pf_old a (by omega) u (by omega)]
      rcases g3 a (by omega) u hu with y | ⟨q, h1, h2⟩
      · exact Or.inl y
      · exact Or.inr ⟨q, by omega, h2⟩
  · by_cases e : a = n
    · rw [e]; exact ⟨0, by omega, z 6 (by omega) (by omega) (by omega) (by omega) (by omega) (by omega) (by omega)⟩
    · unfold plOK
      rw [pf_old a (by omega) 6 (by omega)]
      exact g4 a (by omega)
  · by_cases e : a = n
    · rw [e]
      exact ⟨⟨0, by omega, z 16 (by omega) (by omega) (by omega) (by omega) (by omega) (by omega) (by omega)⟩, 16777215, by omega, by rw [pf_new h n k _ (by omega), if_pos rfl]⟩
    · unfold colOK
      rw [pf_old a (by omega) 16 (by omega), pf_old a (by omega) 17 (by omega)]
      exact g5 a (by omega)
  · by_cases e : a = n
    · rw [e]; exact Or.inl (z 5 (by omega) (by omega) (by omega) (by omega) (by omega) (by omega) (by omega))
    · unfold h01
      rw [pf_old a (by omega) 5 (by omega)]
      exact g6 a (by omega)
  · by_cases e : a = n
    · rw [e]; exact Or.inl (m1 7 (by omega))
    · rw [pf_old a (by omega) 7 (by omega)]
      rcases g7 a (by omega) with y | ⟨q, h0, h1, h2⟩
      · exact Or.inl y
      · exact Or.inr ⟨q, h0, by omega, h2⟩
  · rw [pf_far hj]
    exact g8 j (by omega)
theorem pf_ds {h : Nat → Int32} {n c k : Nat} (g : G0 h n) (hn : n < 24) (h6 : (dsF h n n).length ≤ 6) : (dsF (pfH h n (nI c) k) (n + 1) (n + 1)).length ≤ 6 := by
  rw [ds_len] at h6 ⊢
  have key : ∀ i, i < n + 1 → opC (pfH h n (nI c) k) (-1) (n + 1) i = true → i < n ∧ opC h (-1) n i = true := fun i hi e => by
    rw [opC, Bool.and_eq_true, opB_iff] at e
    obtain ⟨e1, q, h1, h2, h3⟩ := e
    by_cases y : q = n
    · rw [y, pf_new h n k _ (by omega), if_neg (by omega), if_neg (by omega), if_neg (by omega), if_pos (Or.inl rfl)] at h3
      exact absurd h3.symm (nI_m1 (by omega))
    · rw [pf_old q (by omega) 7 (by omega)] at h3
      have : i < n := by
        rcases g.2.2.2.2.2.2.1 q (by omega) with z | ⟨d, d0, d1, z⟩
        · rw [z] at h3; exact absurd h3.symm (nI_m1 (by omega))
        · rw [z, nI_eq (by omega) (by omega)] at h3
          omega
      refine ⟨this, ?_⟩
      rw [opC, Bool.and_eq_true, opB_iff]
      exact ⟨e1, q, by omega, h2, h3⟩
  rw [fb_ct_succ, if_neg (fun z => absurd (key n (by omega) z).1 (Nat.lt_irrefl _))]
  exact Nat.le_trans (fb_ct_sub (fun i hi e => (key i (by omega) e).2)) h6
theorem gs_part {h : Nat → Int32} {n t c k : Nat} {sp : List Nat} (g : GS (h, n, t, sp)) (hn : n < 24) (hc : c < n) : GS (pfH h n (nI c) k, n + 1, t, sp) := by
  obtain ⟨g1, g2, g3, g4, g5, g6⟩ := g
  have g3' : t ≤ n := g3
  refine ⟨pf_g0 g1 hn hc, pf_ds g1 hn g2, by show t ≤ n + 1; omega, fun a e => ?_, g5, g6⟩
  have e' : t = a + 1 := e
  show shwn (pfH h n (nI c) k) a = true
  rw [tb_shwn pf_old (show a < n by omega)]
  exact g4 a e
theorem mk_part {M M2 : Mm} {h : Nat → Int32} {n c k kk : Nat} {ol : List Nat} (ht : TR h n) (hn0 : 0 < n) (hn : n < 24) (hc : c < n) (hk7 : k < 7) (hl : ol.length = n) (mk : MK M h n) (ad : adQ M M2 ol (nI c) k kk) : MK M2 (pfH h n (nI c) k) (n + 1) := by
  obtain ⟨-, -, a2, a3, a4, -, -⟩ := ad
  rw [hl] at a2 a3 a4
  have hch := pf_chain (k := k) ht hn0 hn hc
  have har : ∀ i, i < 32 → bt (arF M n (nI c)) i = decide (i ∈ c :: chain h c) := fun i hi => by
    rw [arF, inB_nI (by omega), decide_eq_true hc, if_pos rfl, nI_clamp (by omega), b_or, mk.1 c hc i hi, bt_1shl (by omega) hi, Bool.or_comm, ← Bool.decide_or]
    exact decide_eq_decide.mpr List.mem_cons.symm
  refine ⟨fun p hp i hi => ?_, fun q hq i hi => ?_, fun u hu i hi => ?_⟩
  · rw [a2, upd]
    by_cases e : p = n
    · rw [if_pos e, e, har i hi, hch]
    · rw [if_neg e, mk.1 p (by omega) i hi, tb_chain pf_old p (by omega)]
  · rw [a3, wiF]
    by_cases e : i = n
    · rw [e, hch]
      have z0 : bt (M 3 q) n = false := by rw [mk.2.1 q hq n (by omega)]; exact decide_eq_false (fun z => absurd z.1 (Nat.lt_irrefl _))
      by_cases c2 : q < n ∧ bt (arF M n (nI c)) q = true
      · rw [if_pos c2, b_or, bt_1shl (by omega) (by omega), decide_eq_true rfl, Bool.or_true]
        rw [har q (by omega), decide_eq_true_eq] at c2
        exact (decide_eq_true ⟨by omega, c2.2⟩).symm
      · rw [if_neg c2, z0]
        refine (decide_eq_false (fun z => c2 ?_)).symm
        refine ⟨?_, by rw [har q (by omega)]; exact decide_eq_true z.2⟩
        rcases List.mem_cons.mp z.2 with y | y
        · omega
        · have := chain_lt h c q y; omega
    · have e1 : bt (if q < n ∧ bt (arF M n (nI c)) q = true then M 3 q ||| (nI 1 <<< (nI n &&& 31)) else M 3 q) i = bt (M 3 q) i := by
        split
        · rw [b_or, bt_1shl (by omega) hi, decide_eq_false e, Bool.or_false]
        · rfl
      rw [e1, mk.2.1 q hq i hi]
      by_cases c3 : i < n
      · rw [tb_chain pf_old i c3]
        exact decide_eq_decide.mpr ⟨fun z => ⟨by omega, z.2⟩, fun z => ⟨c3, z.2⟩⟩
      · rw [decide_eq_false (fun z => c3 z.1), decide_eq_false (fun z => by omega)]
  · have e10 : pfH h n (nI c) k (n * 18 + 10) = nI k := by rw [pf_new h n k _ (by omega), if_neg (by omega), if_neg (by omega), if_pos rfl]
    have key : ∀ i, i < 32 → i ≠ n → bt (M 4 u) i = decide (i < n + 1 ∧ pfH h n (nI c) k (i * 18 + 10) = nI u) := fun i hi e => by
      rw [mk.2.2 u hu i hi]
      by_cases c3 : i < n
      · rw [pf_old i c3 10 (by omega)]
        exact decide_eq_decide.mpr ⟨fun z => ⟨by omega, z.2⟩, fun z => ⟨c3, z.2⟩⟩
      · rw [decide_eq_false (fun z => c3 z.1), decide_eq_false (fun z => by omega)]
    have z0 : bt (M 4 u) n = false := by rw [mk.2.2 u hu n (by omega)]; exact decide_eq_false (fun z => absurd z.1 (Nat.lt_irrefl _))
    rw [a4, upd]
    by_cases cu : u = k
    · subst cu
      rw [if_pos rfl, b_or, bt_1shl (by omega) hi]
      by_cases e : i = n
      · rw [decide_eq_true e, Bool.or_true, e, e10]
        exact (decide_eq_true ⟨by omega, rfl⟩).symm
      · rw [decide_eq_false e, Bool.or_false]
        exact key i hi e
    · rw [if_neg cu]
      by_cases e : i = n
      · rw [e, z0, e10]
        refine (decide_eq_false (fun z => ?_)).symm
        exact cu ((nI_eq (by omega) (by omega)).mp z.2).symm
      · exact key i hi e
theorem ord_part {M : Mm} {h : Nat → Int32} {n c k : Nat} (ht : TR h n) (hn0 : 0 < n) (hn : n < 24) (hc : c < n) (mk : MK M h n) : ∃ kk, inK M (ordF h n) (nI c) kk ∧ ordF (pfH h n (nI c) k) (n + 1) = (ordF h n).take kk ++ n :: (ordF h n).drop kk := by
  obtain ⟨o1, o2, o3⟩ := ord_facts n hn0 (by omega) ht
  have ht2 := pf_tr (k := k) ht hn0 hn hc
  have e0 : pfH h n (nI c) k (n * 18 + 11) = nI c := by rw [pf_new h n k _ (by omega), if_neg (by omega), if_pos rfl]
  have e3 : par (pfH h n (nI c) k) n = c := by rw [par, e0, nI_clamp (by omega)]
  obtain ⟨L, R, e1, e2⟩ := ord_step ht2 hn0 (by omega)
  have p1 : pre (pfH h n (nI c) k) n c = pre h n c := tb_pre pf_old n c
  have p2 : ordF (pfH h n (nI c) k) n = ordF h n := tb_pre pf_old n 0
  rw [e3, p1] at e1 e2
  rw [p2] at e1
  have hpl := pre_len (h := h) (a := c) (n - c - 1) (by rw [show c + 1 + (n - c - 1) = n by omega]; exact ht) (by omega)
  rw [show c + 1 + (n - c - 1) = n by omega] at hpl
  have hpop : popN (M 3 c) = fb_ct (fun x => decide (c ∈ chain h x)) n := pop_cnt (by omega) (fun i hi => by rw [mk.2.1 c (by omega) i hi, Bool.decide_and])
  have hpe := pre_eq (h := h) (n := n) hc
  have hlen : (L ++ (pre h n c ++ R)).length = n := by rw [← e1]; exact o1
  rw [List.length_append, List.length_append] at hlen
  have hat : nth (ordF h n) L.length = c := by
    have z := nth_r (A := L) (B := pre h n c ++ R) (i := 0) (by rw [List.length_append]; omega)
    rw [e1]
    rw [Nat.add_zero] at z
    rw [z, hpe]
    rfl
  refine ⟨L.length + (pre h n c).length, Or.inl ⟨c, L.length, rfl, by omega, ⟨by omega, hat, fun i hi e => ?_⟩, by omega, by omega⟩, ?_⟩
  · exact nth_inj o2 hi (by omega) (by rw [e, hat])
  · rw [e2, e1, ← List.append_assoc, ← List.append_assoc, List.take_left' (by rw [List.length_append]), List.drop_left' (by rw [List.length_append])]
end
