/-! the reference: a key that speaks nothing, as one step -/
def pkS (h : Nat → Int32) (n key t : Nat) : (Nat → Int32) × Nat := if key < 2 then (h, nxtT (stpF h n t) key t) else match entP h t with
  | none => (h, t)
  | some c => (tgl h c, lkS (tgl h c) t)
def opsOK (h : Nat → Int32) (n : Nat) : Prop := ∀ a, a < n → h (a * 18 + 7) = -1 ∨ ∃ c, 0 < c ∧ c < n ∧ h (a * 18 + 7) = nI c
def pkF (M M2 : Mm) : Prop := (∀ k, k ≠ 0 → k ≠ 1 → k ≠ 2 → k ≠ 3 → k ≠ 4 → k ≠ 8 → M2 k = M k) ∧ ∀ j, j ≠ 2 → j ≠ 3 → j ≠ 12 → M2 0 j = M 0 j
theorem entP_some {h : Nat → Int32} {n t c : Nat} (hn : n ≤ 24) (ho : opsOK h n) (ht2 : t ≤ n) (e : entP h t = some c) : ∃ a, t = a + 1 ∧ h (a * 18 + 10) = nI 2 ∧ h (a * 18 + 7) = nI c ∧ 0 < c ∧ c < n := by
  cases t with
  | zero => cases e
  | succ a =>
    rw [entP] at e
    split at e
    · rename_i h1
      split at e
      · cases e
      · rename_i h2
        obtain ⟨c', h3, h4, h5⟩ := (ho a (by omega)).resolve_left h2
        rw [h5, nI_clamp (by omega)] at e
        cases e
        exact ⟨a, rfl, h1, h5, h3, h4⟩
    · cases e
theorem s_X8_pressed_any {M : Mm} {n t key : Nat} {sp : List Nat} (ht : TR (M 1) n) (hn0 : 0 < n) (hn : n ≤ 24) (hm : M 0 0 = nI n) (hpl : ∀ y, y < n → plOK (M 1) y) (ho : opsOK (M 1) n) (ht2 : t ≤ n) (hf : M 0 2 = pm t) (hk : key < 3) (hsp : rowAt M 2 0 3 sp) (hnd : sp.Nodup) (hb : ∀ y ∈ sp, y < 24) :
    Ct MSh mX8_pressed [.ref 0, .int (nI key), .int (nI 0)] M (fun r M2 => r = none ∧ pkF M M2 ∧ M2 1 = (pkS (M 1) n key t).1 ∧ M2 0 2 = pm (pkS (M 1) n key t).2 ∧ rowAt M2 2 0 3 sp) := by
  by_cases h2 : key < 2
  · have z := s_X8_pressed_01 (b := nI 0) ht hn0 hn hm hpl ht2 hf h2
    refine Ev.mono z (fun r M2 q => ⟨q.1, ⟨fun k a b c d e f => q.2.1.1 k a d e f, fun j a b c => q.2.1.2 j a c⟩, ?_, ?_, hsp.of (q.2.1.1 2 (by decide) (by decide) (by decide) (by decide)) (q.2.1.2 3 (by decide) (by decide))⟩)
    · rw [pkS, if_pos h2]; exact q.2.1.1 1 (by decide) (by decide) (by decide) (by decide)
    · rw [pkS, if_pos h2]; exact q.2.2
  · have hk2 : key = 2 := by omega
    subst hk2
    cases he : entP (M 1) t with
    | none =>
      have z := s_X8_enter_none (b := nI 0) hn t ht2 hf he
      refine Ev.mono z (fun r M2 q => ⟨q.1, ⟨fun k _ _ _ _ _ _ => by rw [q.2], fun j _ _ _ => by rw [q.2]⟩, ?_, ?_, by rw [q.2]; exact hsp⟩)
      · rw [q.2, pkS, if_neg (by omega), he]
      · rw [q.2, pkS, if_neg (by omega), he]; exact hf
    | some c =>
      obtain ⟨a, rfl, e1, e2, e3, e4⟩ := entP_some hn ho ht2 he
      have z := s_X8_enter_some (b := false) ht hn ht2 hf e1 e2 e4 hsp hnd hb
      refine Ev.mono z (fun r M2 q => ⟨q.1, ⟨fun k a b c _ _ _ => q.2.2.1 k a b c, fun j a b _ => q.2.2.2.1 j a b⟩, ?_, ?_, by have := q.2.2.2.2.2; rwa [if_neg (by decide)] at this⟩)
      · rw [pkS, if_neg (by omega), he]; exact q.2.1
      · rw [pkS, if_neg (by omega), he]; exact q.2.2.2.2.1
/-- two held rows that differ at the doors' hidden alone -/
def eqD (h h1 : Nat → Int32) (dl : List Nat) : Prop := ∀ j, (∀ x ∈ dl, j ≠ x * 18 + 5) → h1 j = h j
theorem eqD.at {h h1 : Nat → Int32} {dl : List Nat} (e : eqD h h1 dl) (p : Nat) {w : Nat} (hw : w < 18) (h5 : w ≠ 5) : h1 (p * 18 + w) = h (p * 18 + w) := e _ (fun x _ z => by omega)
theorem eqD.tr {h h1 : Nat → Int32} {dl : List Nat} {n : Nat} (e : eqD h h1 dl) (ht : TR h n) : TR h1 n := by
  refine ⟨by rw [e.at 0 (by omega) (by omega)]; exact ht.1, fun p a b => ?_⟩
  unfold par
  rw [e.at p (by omega) (by omega)]
  exact ht.2 p a b
theorem eqD.pl {h h1 : Nat → Int32} {dl : List Nat} (e : eqD h h1 dl) {y : Nat} (hp : plOK h y) : plOK h1 y := by
  obtain ⟨v, hv, z⟩ := hp
  exact ⟨v, hv, by rw [e.at y (by omega) (by omega)]; exact z⟩
theorem eqD.ops {h h1 : Nat → Int32} {dl : List Nat} {n : Nat} (e : eqD h h1 dl) (ho : opsOK h n) : opsOK h1 n := fun a ha => by
  rw [e.at a (by omega) (by omega)]; exact ho a ha
theorem cmH_off {h : Nat → Int32} {dl : List Nat} {b j : Nat} : ∀ k, k ≤ dl.length → (∀ x ∈ dl, j ≠ x * 18 + 5) → cmH h dl b k j = h j
  | 0, _, _ => rfl
  | k + 1, hk, hj => by
    rw [cmH, upd, if_neg (hj _ (getD_mem (by omega)))]
    exact cmH_off k (by omega) hj
theorem cmH_same {h h1 : Nat → Int32} {dl : List Nat} {b : Nat} : ∀ k, k ≤ dl.length → ∀ j, (h1 j = h j ∨ ∃ i, i < k ∧ j = nth dl i * 18 + 5) → cmH h1 dl b k j = cmH h dl b k j
  | 0, _, j, hj => by
    rcases hj with e | ⟨i, hi, _⟩
    · exact e
    · omega
  | k + 1, hk, j, hj => by
    rw [cmH, cmH, upd, upd]
    by_cases q : j = nth dl k * 18 + 5
    · rw [if_pos q, if_pos q]
    · rw [if_neg q, if_neg q]
      refine cmH_same k (by omega) j ?_
      rcases hj with e | ⟨i, hi, e⟩
      · exact Or.inl e
      · by_cases z : i = k
        · rw [z] at e; exact absurd e q
        · exact Or.inr ⟨i, by omega, e⟩
theorem cmH_eq {h h1 : Nat → Int32} {dl : List Nat} (e : eqD h h1 dl) (b : Nat) : cmH h1 dl b dl.length = cmH h dl b dl.length := by
  funext j
  refine cmH_same _ (Nat.le_refl _) j ?_
  by_cases q : ∃ x, x ∈ dl ∧ j = x * 18 + 5
  · obtain ⟨x, hx, ej⟩ := q
    obtain ⟨i, hi, ei⟩ := mem_nth.mp hx
    exact Or.inr ⟨i, hi, by rw [ei]; exact ej⟩
  · exact Or.inl (e j (fun x hx z => q ⟨x, hx, z⟩))
theorem cmH_D (h : Nat → Int32) (dl : List Nat) (b : Nat) : eqD h (cmH h dl b dl.length) dl := fun j hj => cmH_off _ (Nat.le_refl _) hj
theorem cmH_01 {h : Nat → Int32} {dl : List Nat} {b : Nat} : ∀ k, k ≤ dl.length → ∀ x, (h01 h x ∨ ∃ i, i < k ∧ x = nth dl i) → h01 (cmH h dl b k) x
  | 0, _, x, hx => by
    rcases hx with e | ⟨i, hi, _⟩
    · exact e
    · omega
  | k + 1, hk, x, hx => by
    unfold h01
    rw [cmH, upd]
    by_cases q : x = nth dl k
    · rw [if_pos (by rw [q])]
      rcases bI_01 (b.testBit k) with z | z
      · exact Or.inl z
      · exact Or.inr z
    · rw [if_neg (by omega)]
      refine cmH_01 k (by omega) x ?_
      rcases hx with e | ⟨i, hi, e⟩
      · exact Or.inl e
      · by_cases z : i = k
        · rw [z] at e; exact absurd e q
        · exact Or.inr ⟨i, by omega, e⟩
theorem nodup_ltN {N : Nat} {l : List Nat} {x : Nat} (hnd : l.Nodup) (hb : ∀ y ∈ l, y < N) (hx : x < N) (hn : x ∉ l) : l.length < N := by
  have h := fb_holes N (l.length + 1) (fun i => nth (l ++ [x]) i) (fun i hi => by
    have : nth (l ++ [x]) i ∈ l ++ [x] := getD_mem (by rw [List.length_append]; exact hi)
    rcases List.mem_append.mp this with z | z
    · exact hb _ z
    · simp at z; omega) (fun i j hij hj e => by
    have hnd2 : (l ++ [x]).Nodup := by
      rw [List.nodup_append]
      exact ⟨hnd, by simp, fun a ha b hb2 e9 => by simp at hb2; rw [e9, hb2] at ha; exact hn ha⟩
    have hl : (l ++ [x]).length = l.length + 1 := by rw [List.length_append]; rfl
    have e2 : (l ++ [x])[i]'(by omega) = (l ++ [x])[j]'(by omega) := by
      simp only [nth, List.getD_eq_getElem?_getD, List.getElem?_eq_getElem (show i < (l ++ [x]).length by omega), List.getElem?_eq_getElem (show j < (l ++ [x]).length by omega)] at e
      exact e
    have := (List.getElem_inj hnd2).mp e2
    omega)
  omega

