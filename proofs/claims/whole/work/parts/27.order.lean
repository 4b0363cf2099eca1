/-! the order of parts: what an added part does to it -/
def pd (h : Nat → Int32) (p : Nat) : Nat → List Nat
  | 0 => []
  | d + 1 => (if h ((p + d + 1) * 18 + 11) = nI p then [p + d + 1] else []) ++ pd h p d
def kids (h : Nat → Int32) (n p : Nat) : List Nat := (pd h p (n - 1 - p)).reverse
def preF (h : Nat → Int32) (n : Nat) : Nat → Nat → List Nat
  | 0, p => [p]
  | f + 1, p => p :: (kids h n p).flatMap (preF h n f)
def pre (h : Nat → Int32) (n p : Nat) : List Nat := preF h n n p
def ordF (h : Nat → Int32) (n : Nat) : List Nat := pre h n 0
theorem pd_mem {h : Nat → Int32} {p q : Nat} : ∀ {d : Nat}, q ∈ pd h p d ↔ p < q ∧ q ≤ p + d ∧ h (q * 18 + 11) = nI p
  | 0 => by
    constructor
    · intro z; cases z
    · intro z; omega
  | d + 1 => by
    rw [pd, List.mem_append, pd_mem (d := d)]
    constructor
    · rintro (z | z)
      · split at z
        · rename_i e
          simp at z
          subst z
          exact ⟨by omega, by omega, e⟩
        · cases z
      · exact ⟨z.1, by omega, z.2.2⟩
    · rintro ⟨z1, z2, z3⟩
      by_cases e : q = p + d + 1
      · left; subst e; rw [if_pos z3]; simp
      · right; exact ⟨z1, by omega, z3⟩
theorem pd_nodup (h : Nat → Int32) (p : Nat) : ∀ d, (pd h p d).Nodup
  | 0 => List.nodup_nil
  | d + 1 => by
    rw [pd]
    split
    · rw [List.singleton_append, List.nodup_cons]
      exact ⟨fun z => by have := (pd_mem.mp z).2.1; omega, pd_nodup h p d⟩
    · rw [List.nil_append]; exact pd_nodup h p d
theorem kids_mem {h : Nat → Int32} {n p q : Nat} (hp : p < n) : q ∈ kids h n p ↔ p < q ∧ q < n ∧ h (q * 18 + 11) = nI p := by
  rw [kids, List.mem_reverse, pd_mem]
  constructor
  · rintro ⟨a, b, c⟩; exact ⟨a, by omega, c⟩
  · rintro ⟨a, b, c⟩; exact ⟨a, by omega, c⟩
theorem kids_nodup (h : Nat → Int32) (n p : Nat) : (kids h n p).Nodup := by
  exact (List.reverse_perm _).nodup_iff.mpr (pd_nodup h p _)
theorem kids_succ {h : Nat → Int32} {n p : Nat} (hp : p < n) : kids h (n + 1) p = kids h n p ++ (if h (n * 18 + 11) = nI p then [n] else []) := by
  have e : n + 1 - 1 - p = (n - 1 - p) + 1 := by omega
  have e2 : p + (n - 1 - p) + 1 = n := by omega
  rw [kids, e, pd, e2, List.reverse_append, kids]
  congr 1
  split <;> rfl
theorem flat_congr {l : List Nat} {f g : Nat → List Nat} (h : ∀ q ∈ l, f q = g q) : l.flatMap f = l.flatMap g := by
  induction l with
  | nil => rfl
  | cons a l ih => rw [List.flatMap_cons, List.flatMap_cons, h a List.mem_cons_self, ih (fun q hq => h q (List.mem_cons_of_mem _ hq))]
theorem preF_st (h : Nat → Int32) (n : Nat) : ∀ f p, p < n → n - p ≤ f → preF h n (f + 1) p = preF h n f p
  | 0, p, hp, hf => by omega
  | f + 1, p, hp, hf => by
    rw [preF, preF]
    congr 1
    refine flat_congr (fun q hq => ?_)
    obtain ⟨a, b, -⟩ := (kids_mem hp).mp hq
    exact preF_st h n f q b (by omega)
theorem pre_eq {h : Nat → Int32} {n p : Nat} (hp : p < n) : pre h n p = p :: (kids h n p).flatMap (pre h n) := by
  rw [pre, ← preF_st h n n p hp (by omega), preF]
  rfl
theorem chain_lin {h : Nat → Int32} {n a : Nat} (ht : TR h n) (ha : a < n) : ∀ x ∈ a :: chain h a, ∀ y ∈ a :: chain h a, x = y ∨ y ∈ chain h x ∨ x ∈ chain h y := by
  induction a using Nat.strongRecOn with
  | _ a ih =>
    intro x hx y hy
    rcases List.mem_cons.mp hx with ex | ex
    · rcases List.mem_cons.mp hy with ey | ey
      · exact Or.inl (ex.trans ey.symm)
      · rw [ex]; exact Or.inr (Or.inl ey)
    · rcases List.mem_cons.mp hy with ey | ey
      · rw [ey]; exact Or.inr (Or.inr ex)
      · rcases Nat.eq_zero_or_pos a with z | z
        · rw [z, chain_0] at ex; cases ex
        · have hl := (ht.2 a z ha).1
          rw [chain_s ht z ha] at ex ey
          exact ih _ hl (Nat.lt_trans hl ha) x ex y ey
theorem par_uniq {h : Nat → Int32} {n a x y p : Nat} (ht : TR h n) (hn : n < 2 ^ 31) (ha : a < n) (hx : x ∈ a :: chain h a) (hy : y ∈ a :: chain h a) (px : h (x * 18 + 11) = nI p) (py : h (y * 18 + 11) = nI p) (hxp : p < x) (hyp : p < y) : x = y := by
  have lt_of : ∀ z, z ∈ a :: chain h a → z < n := fun z hz => by
    rcases List.mem_cons.mp hz with e | e
    · omega
    · have := chain_lt h a z e; omega
  have key : ∀ u v, u < n → h (u * 18 + 11) = nI p → p < u → v ∈ chain h u → v ≤ p := fun u v hu pu hpu hv => by
    have h0 : 0 < u := by omega
    have e := (ht.2 u h0 hu).2
    have ep : par h u = p := by
      unfold par
      rw [pu, nI_clamp (by omega)]
    rw [chain_s ht h0 hu, ep] at hv
    rcases List.mem_cons.mp hv with q | q
    · omega
    · have := chain_lt h p v q; omega
  rcases chain_lin ht ha x hx y hy with e | e | e
  · exact e
  · have := key x y (lt_of x hx) px hxp e; omega
  · have := key y x (lt_of y hy) py hyp e; omega
theorem path_child {h : Nat → Int32} {n a p : Nat} (ht : TR h n) (ha : a < n) (hn : n < 2 ^ 31) (hp : p ∈ chain h a) : ∃ q, q ∈ a :: chain h a ∧ p < q ∧ q < n ∧ h (q * 18 + 11) = nI p := by
  induction a using Nat.strongRecOn with
  | _ a ih =>
    rcases Nat.eq_zero_or_pos a with z | z
    · rw [z, chain_0] at hp; cases hp
    · have hl := ht.2 a z ha
      rw [chain_s ht z ha] at hp ⊢
      rcases List.mem_cons.mp hp with e | e
      · exact ⟨a, List.mem_cons_self, by omega, ha, by rw [e]; exact hl.2⟩
      · obtain ⟨q, h1, h2, h3, h4⟩ := ih _ hl.1 (Nat.lt_trans hl.1 ha) e
        exact ⟨q, List.mem_cons_of_mem _ h1, h2, h3, h4⟩
theorem up_chain {h : Nat → Int32} {n q p : Nat} (ht : TR h n) (hq : q < n) (hn : n < 2 ^ 31) (hpq : p < q) (e : h (q * 18 + 11) = nI p) : chain h q = p :: chain h p := by
  rw [chain_s ht (by omega) hq, show par h q = p from by unfold par; rw [e, nI_clamp (by omega)]]
/-- an added part n, child of a: where p is not above a nothing changes, else n comes right behind all that is in a -/
theorem ins_lem {h : Nat → Int32} {n : Nat} (ht : TR h (n + 1)) (hn0 : 0 < n) (hn : n < 2 ^ 30) : ∀ k p, p < n → n - p ≤ k →
    (p ∉ par h n :: chain h (par h n) → pre h (n + 1) p = pre h n p) ∧ (p ∈ par h n :: chain h (par h n) → ∃ L R, pre h n p = L ++ (pre h n (par h n) ++ R) ∧ pre h (n + 1) p = L ++ (pre h n (par h n) ++ n :: R))
  | 0, p, hp, hk => by omega
  | k + 1, p, hp, hk => by
    have hl := ht.2 n hn0 (by omega)
    obtain ⟨a, ea⟩ : ∃ a, a = par h n := ⟨_, rfl⟩
    rw [← ea] at hl ⊢
    have ih := ins_lem ht hn0 hn k
    rw [← ea] at ih
    have htn : TR h n := ⟨ht.1, fun q a b => ht.2 q a (by omega)⟩
    have hnil : pre h (n + 1) n = [n] := by
      rw [pre_eq (by omega), kids, show n + 1 - 1 - n = 0 by omega]
      rfl
    have hp1 : p < n + 1 := by omega
    have hks := kids_succ (h := h) hp
    constructor
    · intro hna
      rw [pre_eq hp1, pre_eq hp, hks, if_neg (fun e => hna (by
        rw [hl.2] at e
        rw [(nI_eq (by omega) (by omega)).mp e]
        exact List.mem_cons_self)), List.append_nil]
      congr 1
      refine flat_congr (fun q hq => ?_)
      obtain ⟨q1, q2, q3⟩ := (kids_mem hp).mp hq
      refine (ih q q2 (by omega)).1 (fun z => hna ?_)
      have hc := up_chain htn q2 (by omega) q1 q3
      rcases List.mem_cons.mp z with e | e
      · rw [← e, hc]; exact List.mem_cons_of_mem _ List.mem_cons_self
      · refine List.mem_cons_of_mem _ (chain_trans htn hl.1 e p ?_)
        rw [hc]; exact List.mem_cons_self
    · intro hya
      by_cases epa : p = a
      · subst epa
        refine ⟨[], [], by simp, ?_⟩
        rw [pre_eq hp1, pre_eq hp, hks, if_pos hl.2, List.flatMap_append, List.flatMap_cons, List.flatMap_nil, hnil]
        have : (kids h n p).flatMap (pre h (n + 1)) = (kids h n p).flatMap (pre h n) := flat_congr (fun q hq => by
          obtain ⟨q1, q2, q3⟩ := (kids_mem hp).mp hq
          refine (ih q q2 (by omega)).1 (fun z => ?_)
          rcases List.mem_cons.mp z with e | e
          · omega
          · have := chain_lt h p q e; omega)
        rw [this]
        simp
      · have hpc : p ∈ chain h a := (List.mem_cons.mp hya).resolve_left epa
        obtain ⟨q0, c1, c2, c3, c4⟩ := path_child htn hl.1 (by omega) hpc
        have hq0 : q0 ∈ kids h n p := (kids_mem hp).mpr ⟨c2, c3, c4⟩
        obtain ⟨s, t, est⟩ := List.append_of_mem hq0
        have hnd := kids_nodup h n p
        rw [est] at hnd
        have hoth : ∀ q ∈ kids h n p, q ≠ q0 → pre h (n + 1) q = pre h n q := fun q hq hne => by
          obtain ⟨q1, q2, q3⟩ := (kids_mem hp).mp hq
          refine (ih q q2 (by omega)).1 (fun z => hne ?_)
          exact par_uniq htn (by omega) hl.1 z c1 q3 c4 q1 c2
        obtain ⟨L, R, e1, e2⟩ := (ih q0 c3 (by omega)).2 c1
        have hs : s.flatMap (pre h (n + 1)) = s.flatMap (pre h n) := flat_congr (fun q hq => hoth q (by rw [est]; exact List.mem_append_left _ hq) (fun e => by
          rw [List.nodup_append] at hnd
          exact hnd.2.2 q hq q0 List.mem_cons_self e))
        have htt : t.flatMap (pre h (n + 1)) = t.flatMap (pre h n) := flat_congr (fun q hq => hoth q (by rw [est]; exact List.mem_append_right _ (List.mem_cons_of_mem _ hq)) (fun e => by
          rw [List.nodup_append, List.nodup_cons] at hnd
          exact hnd.2.1.1 (e ▸ hq)))
        refine ⟨p :: (s.flatMap (pre h n) ++ L), R ++ t.flatMap (pre h n), ?_, ?_⟩
        · rw [pre_eq hp, est, List.flatMap_append, List.flatMap_cons, e1]
          simp
        · rw [pre_eq hp1, hks, if_neg (fun e => epa (by
            rw [hl.2] at e
            exact ((nI_eq (by omega) (by omega)).mp e).symm)), List.append_nil, est, List.flatMap_append, List.flatMap_cons, e2, hs, htt]
          simp
theorem zero_chain {h : Nat → Int32} {n a : Nat} (ht : TR h n) (ha : a < n) : 0 ∈ a :: chain h a := by
  induction a using Nat.strongRecOn with
  | _ a ih =>
    rcases Nat.eq_zero_or_pos a with z | z
    · rw [z]; exact List.mem_cons_self
    · have hl := (ht.2 a z ha).1
      rw [chain_s ht z ha]
      exact List.mem_cons_of_mem _ (ih _ hl (Nat.lt_trans hl ha))
theorem TR.sub {h : Nat → Int32} {n : Nat} (ht : TR h (n + 1)) : TR h n := ⟨ht.1, fun q a b => ht.2 q a (by omega)⟩
theorem ord_1 (h : Nat → Int32) : ordF h 1 = [0] := by
  rw [ordF, pre_eq (by omega)]; rfl
theorem ord_step {h : Nat → Int32} {n : Nat} (ht : TR h (n + 1)) (hn0 : 0 < n) (hn : n < 2 ^ 30) : ∃ L R, ordF h n = L ++ (pre h n (par h n) ++ R) ∧ ordF h (n + 1) = L ++ (pre h n (par h n) ++ n :: R) :=
  (ins_lem ht hn0 hn n 0 hn0 (by omega)).2 (zero_chain ht.sub (ht.2 n hn0 (by omega)).1)
theorem ord_facts {h : Nat → Int32} : ∀ n, 0 < n → n < 2 ^ 30 → TR h n → (ordF h n).length = n ∧ (ordF h n).Nodup ∧ ∀ x ∈ ordF h n, x < n
  | 0, h0, _, _ => by omega
  | 1, _, _, _ => by rw [ord_1]; simp
  | n + 2, _, hn, ht => by
    obtain ⟨i1, i2, i3⟩ := ord_facts (n + 1) (by omega) (by omega) ht.sub
    obtain ⟨L, R, e1, e2⟩ := ord_step ht (by omega) (by omega)
    have hnew : n + 1 ∉ ordF h (n + 1) := fun z => by have := i3 _ z; omega
    rw [e1] at i1 i2 i3 hnew
    rw [e2]
    refine ⟨?_, ?_, fun x hx => ?_⟩
    · simp only [List.length_append, List.length_cons] at i1 ⊢; omega
    · have hp : (L ++ (pre h (n + 1) (par h (n + 1)) ++ (n + 1) :: R)).Perm ((n + 1) :: (L ++ (pre h (n + 1) (par h (n + 1)) ++ R))) := by
        rw [← List.append_assoc, ← List.append_assoc]
        exact List.perm_middle
      rw [hp.nodup_iff, List.nodup_cons]
      exact ⟨hnew, i2⟩
    · simp only [List.mem_append, List.mem_cons] at hx i3
      rcases hx with z | z | z | z
      · have := i3 x (Or.inl z); omega
      · have := i3 x (Or.inr (Or.inl z)); omega
      · omega
      · have := i3 x (Or.inr (Or.inr z)); omega
theorem pre_len {h : Nat → Int32} {a : Nat} : ∀ d, TR h (a + 1 + d) → a + 1 + d < 2 ^ 30 → (pre h (a + 1 + d) a).length = 1 + fb_ct (fun x => decide (a ∈ chain h x)) (a + 1 + d)
  | 0, ht, _ => by
    rw [Nat.add_zero, pre_eq (by omega), kids, show a + 1 - 1 - a = 0 by omega]
    have : fb_ct (fun x => decide (a ∈ chain h x)) (a + 1) = 0 := fb_ct_zero.mpr (fun k hk => decide_eq_false (fun z => by have := chain_lt h k a z; omega))
    rw [this]; rfl
  | d + 1, ht, hn => by
    have ih := pre_len d ht.sub (by omega)
    have hi := ins_lem (n := a + 1 + d) ht (by omega) (by omega) (a + 1 + d) a (by omega) (by omega)
    rw [show a + 1 + (d + 1) = (a + 1 + d) + 1 by omega, fb_ct_succ]
    have hc : a ∈ chain h (a + 1 + d) ↔ a ∈ par h (a + 1 + d) :: chain h (par h (a + 1 + d)) := by
      rw [chain_s ht (by omega) (by omega)]
    by_cases q : a ∈ par h (a + 1 + d) :: chain h (par h (a + 1 + d))
    · obtain ⟨L, R, e1, e2⟩ := hi.2 q
      rw [e2, if_pos (decide_eq_true (hc.mpr q))]
      rw [e1] at ih
      simp only [List.length_append, List.length_cons] at ih ⊢
      omega
    · rw [hi.1 q, if_neg (fun z => q (hc.mp (of_decide_eq_true z))), ih]; rfl

