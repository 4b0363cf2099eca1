/-! the tree of parts, as the held values tell it -/
def par (h : Nat → Int32) (p : Nat) : Nat := (h (p * 18 + 11)).toNatClampNeg
def chain (h : Nat → Int32) (p : Nat) : List Nat := if q : 0 < p ∧ par h p < p then par h p :: chain h (par h p) else []
termination_by p
decreasing_by exact q.2
def TR (h : Nat → Int32) (n : Nat) : Prop := h (0 * 18 + 11) = -1 ∧ ∀ p, 0 < p → p < n → par h p < p ∧ h (p * 18 + 11) = nI (par h p)
theorem chain_0 (h : Nat → Int32) : chain h 0 = [] := by
  rw [chain, dif_neg (fun z => absurd z.1 (Nat.lt_irrefl 0))]
theorem chain_s {h : Nat → Int32} {n p : Nat} (ht : TR h n) (h0 : 0 < p) (hp : p < n) : chain h p = par h p :: chain h (par h p) := by
  rw [chain, dif_pos ⟨h0, (ht.2 p h0 hp).1⟩]
theorem chain_lt (h : Nat → Int32) (p : Nat) : ∀ q ∈ chain h p, q < p := by
  induction p using Nat.strongRecOn with
  | _ p ih =>
    intro q hq
    rw [chain] at hq
    split at hq
    · rename_i z
      rcases List.mem_cons.mp hq with rfl | hq
      · exact z.2
      · exact Nat.lt_trans (ih _ z.2 q hq) z.2
    · cases hq
theorem hd_up {h : Nat → Int32} {n b : Nat} (ht : TR h n) (hb : b < n) : h (b * 18 + 11) = hdF (chain h b) := by
  rcases Nat.eq_zero_or_pos b with e | e
  · rw [e, chain_0]; exact ht.1
  · rw [chain_s ht e hb]; exact (ht.2 b e hb).2
def clo (h : Nat → Int32) (n : Nat) (l : List Nat) : Prop := ∀ b t, l = b :: t → b < n ∧ t = chain h b
theorem clo_chain {h : Nat → Int32} {n b : Nat} (ht : TR h n) (hb : b < n) : clo h n (chain h b) := by
  intro c t e
  rcases Nat.eq_zero_or_pos b with z | z
  · rw [z, chain_0] at e; cases e
  · rw [chain_s ht z hb] at e
    cases e
    exact ⟨Nat.lt_trans (ht.2 b z hb).1 hb, rfl⟩
theorem clo_self {h : Nat → Int32} {n b : Nat} (hb : b < n) : clo h n (b :: chain h b) := by
  intro c t e
  cases e
  exact ⟨hb, rfl⟩
theorem clo_tail {h : Nat → Int32} {n b : Nat} {t : List Nat} (ht : TR h n) (hc : clo h n (b :: t)) : clo h n t := by
  obtain ⟨h1, h2⟩ := hc b t rfl
  rw [h2]; exact clo_chain ht h1
def shwn (h : Nat → Int32) (p : Nat) : Bool := (p :: chain h p).all (fun q => h (q * 18 + 5) == 0)
def inm (h : Nat → Int32) (p k : Nat) : Option Nat := (chain h p).find? (fun q => h (q * 18 + 10) == nI k)
theorem chain_trans {h : Nat → Int32} {n : Nat} (ht : TR h n) {p : Nat} (hp : p < n) {q : Nat} (hq : q ∈ chain h p) : ∀ r ∈ chain h q, r ∈ chain h p := by
  induction p using Nat.strongRecOn with
  | _ p ih =>
    intro r hr
    rcases Nat.eq_zero_or_pos p with z | z
    · rw [z, chain_0] at hq; cases hq
    · rw [chain_s ht z hp] at hq ⊢
      have hl := (ht.2 p z hp).1
      rcases List.mem_cons.mp hq with e | e
      · rw [e] at hr; exact List.mem_cons_of_mem _ hr
      · exact List.mem_cons_of_mem _ (ih _ hl (Nat.lt_trans hl hp) e r hr)
theorem shwn_chain {h : Nat → Int32} {n : Nat} (ht : TR h n) {p q : Nat} (hp : p < n) (hs : shwn h p = true) (hq : q ∈ chain h p) : shwn h q = true := by
  unfold shwn at hs ⊢
  rw [List.all_eq_true] at hs ⊢
  intro x hx
  rcases List.mem_cons.mp hx with e | e
  · rw [e]; exact hs _ (List.mem_cons_of_mem _ hq)
  · exact hs _ (List.mem_cons_of_mem _ (chain_trans ht hp hq x e))
-- numbers of the reference
theorem in_eq (x : Int32) {c : Nat} (hc : c < 2 ^ 31) : decide (lN 0 ≤ x.toInt64 ∧ x.toInt64 ≤ lN c) = inB x (c + 1) := by
  unfold inB
  refine decide_eq_decide.mpr ?_
  rw [fa_le64, fa_le64, Int32.toInt_toInt64, lN_toInt (by omega), lN_toInt hc]
  omega
theorem pm_toInt {k : Nat} (h : k < 2 ^ 31) : (pm k).toInt = (k : Int) - 1 := by
  cases k with
  | zero => rw [pm_0]; decide
  | succ k => rw [pm_s, nI_toInt (by omega)]; omega
theorem in_pm (x : Int32) {k : Nat} (h : k < 2 ^ 31) : decide (lN 0 ≤ x.toInt64 ∧ x.toInt64 ≤ (pm k).toInt64) = inB x k := by
  unfold inB
  refine decide_eq_decide.mpr ?_
  rw [fa_le64, fa_le64, Int32.toInt_toInt64, Int32.toInt_toInt64, lN_toInt (by omega), pm_toInt h]
  omega

