section
/-! the common state, and what changes keep -/
def UE (w : Nat) (h h1 : Nat → Int32) : Prop := ∀ p v, v < 18 → v ≠ w → h1 (p * 18 + v) = h (p * 18 + v)
theorem ue_upd (h : Nat → Int32) {p w : Nat} (hw : w < 18) (x : Int32) : UE w h (upd h (p * 18 + w) x) := fun q v hv hne => by
  rw [upd, if_neg (by omega)]
theorem ue_par {w : Nat} {h h1 : Nat → Int32} (e : UE w h h1) (hw : w ≠ 11) (p : Nat) : par h1 p = par h p := by
  unfold par
  rw [e p 11 (by omega) (Ne.symm hw)]
theorem ue_chain {w : Nat} {h h1 : Nat → Int32} (e : UE w h h1) (hw : w ≠ 11) (p : Nat) : chain h1 p = chain h p := by
  induction p using Nat.strongRecOn with
  | _ p ih =>
    rw [chain_def h1 p, chain_def h p]
    by_cases q : 0 < p ∧ par h p < p
    · rw [if_pos q, if_pos (by rw [ue_par e hw]; exact q), ue_par e hw, ih _ q.2]
    · rw [if_neg q, if_neg (by rw [ue_par e hw]; exact q)]
theorem ue_rk {w : Nat} {h h1 : Nat → Int32} (e : UE w h h1) (hw : w ≠ 6) (a : Nat) : rkN h1 a = rkN h a := by
  unfold rkN
  rw [e a 6 (by omega) (Ne.symm hw)]
theorem ue_stK {w : Nat} {h h1 : Nat → Int32} (e : UE w h h1) (hw : w ≠ 10) (a : Nat) : stK h1 a = stK h a := by
  unfold stK
  rw [e a 10 (by omega) (Ne.symm hw)]
theorem ue_pd {w : Nat} {h h1 : Nat → Int32} (e : UE w h h1) (hw : w ≠ 11) (p : Nat) : ∀ d, pd h1 p d = pd h p d
  | 0 => rfl
  | d + 1 => by rw [pd, pd, ue_pd e hw p d, e (p + d + 1) 11 (by omega) (Ne.symm hw)]
theorem ue_pre {w : Nat} {h h1 : Nat → Int32} (e : UE w h h1) (hw : w ≠ 11) (n : Nat) : ∀ f p, preF h1 n f p = preF h n f p
  | 0, _ => rfl
  | f + 1, p => by
    have z : preF h1 n f = preF h n f := funext (ue_pre e hw n f)
    rw [preF, preF, kids, kids, ue_pd e hw, z]
theorem ue_ord {w : Nat} {h h1 : Nat → Int32} (e : UE w h h1) (hw : w ≠ 11) (n : Nat) : ordF h1 n = ordF h n := ue_pre e hw n n 0
theorem ue_opB {w : Nat} {h h1 : Nat → Int32} (e : UE w h h1) (hw : w ≠ 7) (x : Int32) (a : Nat) : ∀ k, opB h1 x a k = opB h x a k
  | 0 => rfl
  | k + 1 => by rw [opB, opB, ue_opB e hw x a k, e k 7 (by omega) (Ne.symm hw)]
theorem ue_ds {w : Nat} {h h1 : Nat → Int32} (e : UE w h h1) (hw : w ≠ 7) (n : Nat) : ∀ k, dsF h1 n k = dsF h n k
  | 0 => rfl
  | k + 1 => by rw [dsF, dsF, ue_ds e hw n k, opC, opC, ue_opB e hw]
theorem ue_shwn {w : Nat} {h h1 : Nat → Int32} (e : UE w h h1) (hw : w ≠ 11) (hw5 : w ≠ 5) (p : Nat) : shwn h1 p = shwn h p := by
  unfold shwn
  rw [ue_chain e hw]
  congr 1
  funext q
  rw [e q 5 (by omega) (Ne.symm hw5)]
theorem ue_arr {w : Nat} {h h1 : Nat → Int32} (e : UE w h h1) (hw : w ≠ 6) (hw2 : w ≠ 10) (ol : List Nat) : arrF h1 ol = arrF h ol := by
  unfold arrF
  rw [insL_cg (ue_rk e hw), show stK h1 = stK h from funext (ue_stK e hw2)]
theorem ue_mk {w n : Nat} {M M1 : Mm} {h h1 : Nat → Int32} (e : UE w h h1) (hw : w ≠ 11) (hw2 : w ≠ 10) (m2 : M1 2 = M 2) (m3 : M1 3 = M 3) (m4 : M1 4 = M 4) (mk : MK M h n) : MK M1 h1 n := by
  refine ⟨fun p hp i hi => ?_, fun q hq i hi => ?_, fun k hk i hi => ?_⟩
  · rw [m2, ue_chain e hw]; exact mk.1 p hp i hi
  · rw [m3, ue_chain e hw]; exact mk.2.1 q hq i hi
  · rw [m4, e i 10 (by omega) (Ne.symm hw2)]; exact mk.2.2 k hk i hi
/-- what holds of the values of n parts -/
def G0 (h : Nat → Int32) (n : Nat) : Prop := (1 ≤ n ∧ n ≤ 24) ∧ TR h n ∧ (∀ a, a < n → labOK h n a) ∧ (∀ a, a < n → plOK h a) ∧ (∀ a, a < n → colOK h a) ∧ (∀ a, a < n → h01 h a) ∧ opsOK h n ∧ ∀ j, n * 18 ≤ j → h j = 0
def okW (n w : Nat) (v : Int32) : Prop := w < 18 ∧ w ≠ 10 ∧ w ≠ 11 ∧ (w = 3 ∨ w = 4 → v = -1 ∨ ∃ q, q < n ∧ v = nI q) ∧ (w = 6 → ∃ u, u ≤ 100 ∧ v = nI u) ∧ (w = 16 ∨ w = 17 → ∃ u, u < 2 ^ 24 ∧ v = nI u) ∧ (w = 5 → v = nI 0 ∨ v = nI 1) ∧ (w = 7 → v = -1 ∨ ∃ c, 0 < c ∧ c < n ∧ v = nI c)
theorem upd_at (h : Nat → Int32) (p a w u : Nat) (v : Int32) (hw : w < 18) (hu : u < 18) : upd h (p * 18 + w) v (a * 18 + u) = if a = p ∧ u = w then v else h (a * 18 + u) := by
  rw [upd]
  by_cases c : a = p ∧ u = w
  · rw [if_pos c, if_pos (by rw [c.1, c.2])]
  · rw [if_neg c, if_neg (by omega)]
theorem g0_upd {h : Nat → Int32} {n p w : Nat} {v : Int32} (g : G0 h n) (hp : p < n) (ok : okW n w v) : G0 (upd h (p * 18 + w) v) n := by
  obtain ⟨g1, g2, g3, g4, g5, g6, g7, g8⟩ := g
  obtain ⟨k0, k1, k2, k3, k4, k5, k6, k7⟩ := ok
  refine ⟨g1, TR_upd g2 k0 k2 v, fun a ha u hu => ?_, fun a ha => ?_, fun a ha => ⟨?_, ?_⟩, fun a ha => ?_, fun a ha => ?_, fun j hj => ?_⟩
  · rw [upd_at h p a w u v k0 (by omega)]
    split
    · rename_i c
      exact k3 (by omega)
    · exact g3 a ha u hu
  · unfold plOK
    rw [upd_at h p a w 6 v k0 (by omega)]
    split
    · rename_i c
      exact k4 (by omega)
    · exact g4 a ha
  · rw [upd_at h p a w 16 v k0 (by omega)]
    split
    · rename_i c
      exact k5 (by omega)
    · exact (g5 a ha).1
  · rw [upd_at h p a w 17 v k0 (by omega)]
    split
    · rename_i c
      exact k5 (by omega)
    · exact (g5 a ha).2
  · unfold h01
    rw [upd_at h p a w 5 v k0 (by omega)]
    split
    · rename_i c
      exact k6 (by omega)
    · exact g6 a ha
  · rw [upd_at h p a w 7 v k0 (by omega)]
    split
    · rename_i c
      exact k7 (by omega)
    · exact g7 a ha
  · rw [upd, if_neg (by omega)]
    exact g8 j hj
abbrev St : Type := (Nat → Int32) × Nat × Nat × List Nat
def GS (s : St) : Prop := G0 s.1 s.2.1 ∧ (dsF s.1 s.2.1 s.2.1).length ≤ 6 ∧ s.2.2.1 ≤ s.2.1 ∧ (∀ a, s.2.2.1 = a + 1 → shwn s.1 a = true) ∧ s.2.2.2.Nodup ∧ ∀ y ∈ s.2.2.2, y < 24
def XS (M : Mm) (s : St) (L : Nat) : Prop := M 1 = s.1 ∧ M 0 5 = nI s.2.1 ∧ rowAt M 5 0 5 (ordF s.1 s.2.1) ∧ MK M s.1 s.2.1 ∧ rowAt M 12 11 2 (arrF s.1 (ordF s.1 s.2.1)) ∧ rowAt M 23 22 1 s.2.2.2 ∧ M 24 7 = pm s.2.2.1 ∧ lk0 M L
def RS (M : Mm) (s : St) : Prop := M 1 = s.1 ∧ M 0 0 = nI s.2.1 ∧ M 0 2 = pm s.2.2.1 ∧ rowAt M 2 0 3 s.2.2.2
def XR (v : Int32) (s : St) (L : Nat) : Pst := fun r M => r = some (.int v) ∧ ∃ L2, L2 ≤ L + 1 ∧ XS M s L2
def RR1 (v : Int32) (s : St) : Pst := fun r M => r = some (.int v) ∧ RS M s
theorem gs_upd {h : Nat → Int32} {n t p w : Nat} {sp : List Nat} {v : Int32} (g : GS (h, n, t, sp)) (hp : p < n) (ok : okW n w v) (h5 : w ≠ 5) (h7 : w ≠ 7) : GS (upd h (p * 18 + w) v, n, t, sp) := by
  obtain ⟨g1, g2, g3, g4, g5, g6⟩ := g
  have e := ue_upd h (p := p) ok.1 v
  exact ⟨g0_upd g1 hp ok, by show (dsF (upd h (p * 18 + w) v) n n).length ≤ 6; rw [ue_ds e h7]; exact g2, g3, fun a z => by show shwn (upd h (p * 18 + w) v) a = true; rw [ue_shwn e ok.2.2.1 h5]; exact g4 a z, g5, g6⟩
theorem spkF_ok {l : List Nat} {x : Nat} (h1 : l.Nodup) (h2 : ∀ y ∈ l, y < 24) (hx : x < 24) : (spkF l x).Nodup ∧ ∀ y ∈ spkF l x, y < 24 := by
  rw [spkF]
  split
  · exact ⟨h1, h2⟩
  · rename_i c
    split
    · refine ⟨?_, fun y hy => ?_⟩
      · rw [List.nodup_append]
        refine ⟨h1, by simp, fun a ha b hb z => c ?_⟩
        have : b = x := by simpa using hb
        rw [← this, ← z]; exact ha
      · rcases List.mem_append.mp hy with hy | hy
        · exact h2 y hy
        · have : y = x := by simpa using hy
          omega
    · exact ⟨h1, h2⟩
theorem spkS_ok {h : Nat → Int32} {l : List Nat} {a : Nat} (h1 : l.Nodup) (h2 : ∀ y ∈ l, y < 24) (ha : a < 24) : (spkS h l a).Nodup ∧ ∀ y ∈ spkS h l a, y < 24 := by
  rw [spkS]
  split
  · exact ⟨h1, h2⟩
  · rename_i x e
    have := inm_lt e
    split
    · exact spkF_ok h1 h2 (by omega)
    · exact ⟨h1, h2⟩
/-- HIDDEN is changed, or OWN words: what lives, what FOCUS is then -/
def chgS (s : St) (p w : Nat) (v : Int32) : St := (upd s.1 (p * 18 + w) v, s.2.1, lkS (upd s.1 (p * 18 + w) v) s.2.2.1, if s.1 (p * 18 + w) ≠ v ∧ (w = 0 ∨ w = 5) then spkS (upd s.1 (p * 18 + w) v) s.2.2.2 p else s.2.2.2)
theorem lk_same {h : Nat → Int32} {t : Nat} (hs : ∀ a, t = a + 1 → shwn h a = true) : lkS h t = t := by
  cases t with
  | zero => rfl
  | succ a => rw [lkS, if_pos (hs a rfl)]
theorem gs_chg {s : St} {p w : Nat} {v : Int32} (g : GS s) (hp : p < s.2.1) (ok : okW s.2.1 w v) (h7 : (dsF (upd s.1 (p * 18 + w) v) s.2.1 s.2.1).length ≤ 6) : GS (chgS s p w v) := by
  obtain ⟨g1, g2, g3, g4, g5, g6⟩ := g
  obtain ⟨l1, l2⟩ := lkS_ok (h1 := upd s.1 (p * 18 + w) v) g3
  have hn := g1.1.2
  refine ⟨g0_upd g1 hp ok, h7, l1, l2, ?_, ?_⟩
  · unfold chgS
    dsimp only
    split
    · exact (spkS_ok g5 g6 (by omega)).1
    · exact g5
  · intro y hy
    unfold chgS at hy
    dsimp only at hy
    split at hy
    · exact (spkS_ok g5 g6 (by omega)).2 y hy
    · exact g6 y hy
-- what is opened, when one is set
theorem ds_len (h : Nat → Int32) (n : Nat) : ∀ k, (dsF h n k).length = fb_ct (opC h (-1) n) k
  | 0 => rfl
  | k + 1 => by
    rw [dsF, List.length_append, ds_len h n k, fb_ct_succ]
    split <;> rfl
theorem opB_iff {h : Nat → Int32} {x : Int32} {i : Nat} : ∀ {k : Nat}, opB h x i k = true ↔ ∃ q, q < k ∧ ¬ nI q = x ∧ h (q * 18 + 7) = nI i
  | 0 => ⟨fun e => absurd e Bool.false_ne_true, fun ⟨q, hq, _⟩ => absurd hq (Nat.not_lt_zero _)⟩
  | k + 1 => by
    rw [opB, Bool.or_eq_true, opB_iff, Bool.and_eq_true, decide_eq_true_eq, beq_iff_eq]
    constructor
    · rintro (⟨q, h1, h2⟩ | h2)
      · exact ⟨q, by omega, h2⟩
      · exact ⟨k, by omega, h2⟩
    · rintro ⟨q, h1, h2⟩
      by_cases c : q = k
      · right; rw [← c]; exact h2
      · left; exact ⟨q, by omega, h2⟩
theorem opC_sub {h : Nat → Int32} {n : Nat} {x : Int32} (hn : n ≤ 24) (i : Nat) (e : opC h x n i = true) : opC h (-1) n i = true := by
  rw [opC, Bool.and_eq_true, opB_iff] at e ⊢
  obtain ⟨e1, q, h1, h2, h3⟩ := e
  exact ⟨e1, q, h1, nI_m1 (by omega), h3⟩
theorem cnt_one {P : Nat → Bool} {c n : Nat} (h : ∀ k, k < n → P k = true → k = c) : fb_ct P n ≤ 1 := by
  induction n with
  | zero => exact Nat.zero_le _
  | succ n ih =>
    rw [fb_ct_succ]
    by_cases e : P n = true
    · have hz : fb_ct P n = 0 := fb_ct_zero.mpr (fun k hk => Bool.eq_false_iff.mpr (fun z => by
        have h1 := h k (by omega) z
        have h2 := h n (by omega) e
        omega))
      rw [hz, if_pos e]
      exact Nat.le_refl _
    · rw [if_neg e]
      exact ih (fun k hk => h k (by omega))
theorem cnt_sum {P Q R : Nat → Bool} : ∀ n, (∀ k, k < n → P k = true → Q k = true ∨ R k = true) → fb_ct P n ≤ fb_ct Q n + fb_ct R n
  | 0, _ => Nat.le_refl _
  | n + 1, h => by
    have ih := cnt_sum n (fun k hk => h k (by omega))
    rw [fb_ct_succ, fb_ct_succ, fb_ct_succ]
    by_cases e : P n = true
    · rw [if_pos e]
      rcases h n (by omega) e with z | z
      · rw [if_pos z]; split <;> omega
      · rw [if_pos z]; split <;> omega
    · rw [if_neg e]
      split <;> split <;> omega
def tooF (h : Nat → Int32) (n p : Nat) (v : Int32) : Bool := decide (¬ v = -1) && (!(opB h (nI p) v.toNatClampNeg n) && decide (6 ≤ fb_ct (opC h (nI p) n) n))
theorem ds_set {h : Nat → Int32} {n p : Nat} {v : Int32} (hn : n ≤ 24) (h6 : (dsF h n n).length ≤ 6) (hp : p < n) (hv : v = -1 ∨ ∃ c, 0 < c ∧ c < n ∧ v = nI c) (ht : tooF h n p v = false) : (dsF (upd h (p * 18 + 7) v) n n).length ≤ 6 := by
  rw [ds_len] at h6 ⊢
  have hle : fb_ct (opC h (nI p) n) n ≤ 6 := Nat.le_trans (fb_ct_sub (fun k hk e => opC_sub hn k e)) h6
  have key : ∀ k, k < n → opC (upd h (p * 18 + 7) v) (-1) n k = true → opC h (nI p) n k = true ∨ v = nI k := fun k hk e => by
    rw [opC, Bool.and_eq_true, opB_iff] at e
    obtain ⟨e1, q, h1, h2, h3⟩ := e
    rw [upd_at h p q 7 7 v (by omega) (by omega)] at h3
    by_cases c : q = p
    · rw [if_pos ⟨c, rfl⟩] at h3; exact Or.inr h3
    · rw [if_neg (fun z => c z.1)] at h3
      left
      rw [opC, Bool.and_eq_true, opB_iff]
      exact ⟨e1, q, h1, fun z => c ((nI_eq (by omega) (by omega)).mp z), h3⟩
  rcases hv with rfl | ⟨c, h0, hc, rfl⟩
  · refine Nat.le_trans (fb_ct_sub (fun k hk e => ?_)) hle
    rcases key k hk e with z | z
    · exact z
    · exact absurd z.symm (nI_m1 (by omega))
  · rw [tooF, decide_eq_true (nI_m1 (by omega)), nI_clamp (by omega), Bool.true_and, Bool.and_eq_false_iff] at ht
    rcases ht with z | z
    · rw [Bool.not_eq_false'] at z
      refine Nat.le_trans (fb_ct_sub (fun k hk e => ?_)) hle
      rcases key k hk e with y | y
      · exact y
      · rw [nI_eq (by omega) (by omega)] at y
        rw [← y, opC, z, decide_eq_true (show 1 ≤ c by omega)]; rfl
    · have z2 := of_decide_eq_false z
      have s := cnt_sum (P := opC (upd h (p * 18 + 7) (nI c)) (-1) n) (Q := opC h (nI p) n) (R := fun k => decide (k = c)) n (fun k hk e => by
        rcases key k hk e with y | y
        · exact Or.inl y
        · rw [nI_eq (by omega) (by omega)] at y
          exact Or.inr (decide_eq_true y.symm))
      have o := cnt_one (P := fun k => decide (k = c)) (c := c) (n := n) (fun k _ e => of_decide_eq_true e)
      omega
end
