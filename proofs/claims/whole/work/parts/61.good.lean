section
/-! what the calls leave is good again -/
theorem gs_spPart {h : Nat → Int32} {n t : Nat} {sp : List Nat} (g : GS (h, n, t, sp)) (x k : Int32) : GS (spPart h n t sp x k).2 := by
  have hn : n ≤ 24 := g.1.1.2
  rw [spPart]
  split
  · exact g
  · rename_i c1
    split
    · exact g
    · split
      · exact g
      · rename_i c3
        obtain ⟨a, ha, rfl⟩ := inB_of (show inB x n = true from by simpa using c1) (by omega)
        exact gs_part g (by omega) ha
theorem gs_spBox {h : Nat → Int32} {n t : Nat} {sp : List Nat} (g : GS (h, n, t, sp)) (x a b c d : Int32) : GS (spBox h n t sp x a b c d).2 := by
  have hn : n ≤ 24 := g.1.1.2
  rw [spBox]
  split
  · exact g
  · rename_i c1
    split
    · exact g
    · obtain ⟨p, hp, rfl⟩ := inB_of (show inB x n = true from by simpa using c1) (by omega)
      rw [nI_clamp (show p < 2 ^ 31 by omega)]
      exact gs_upd (gs_upd (gs_upd (gs_upd g hp ⟨by omega, by omega, by omega, by omega, by omega, by omega, by omega, by omega⟩ (by omega) (by omega)) hp ⟨by omega, by omega, by omega, by omega, by omega, by omega, by omega, by omega⟩ (by omega) (by omega)) hp ⟨by omega, by omega, by omega, by omega, by omega, by omega, by omega, by omega⟩ (by omega) (by omega)) hp ⟨by omega, by omega, by omega, by omega, by omega, by omega, by omega, by omega⟩ (by omega) (by omega)
theorem gs_spCol {h : Nat → Int32} {n t : Nat} {sp : List Nat} (g : GS (h, n, t, sp)) (x a b : Int32) : GS (spCol h n t sp x a b).2 := by
  have hn : n ≤ 24 := g.1.1.2
  rw [spCol]
  split
  · exact g
  · rename_i c1
    split
    · exact g
    · rename_i c2
      have c2 : inB a 16777216 = true ∧ inB b 16777216 = true := by simpa using c2
      obtain ⟨p, hp, rfl⟩ := inB_of (show inB x n = true from by simpa using c1) (by omega)
      obtain ⟨va, hva, rfl⟩ := inB_of c2.1 (by omega)
      obtain ⟨vb, hvb, rfl⟩ := inB_of c2.2 (by omega)
      rw [nI_clamp (show p < 2 ^ 31 by omega)]
      exact gs_upd (gs_upd g hp ⟨by omega, by omega, by omega, by omega, by omega, fun _ => ⟨va, by omega, rfl⟩, by omega, by omega⟩ (by omega) (by omega)) hp ⟨by omega, by omega, by omega, by omega, by omega, fun _ => ⟨vb, by omega, rfl⟩, by omega, by omega⟩ (by omega) (by omega)
theorem gs_spSet {h : Nat → Int32} {n t : Nat} {sp : List Nat} (g : GS (h, n, t, sp)) (x w v : Int32) : GS (spSet h n t sp x w v).2 := by
  have hn : n ≤ 24 := g.1.1.2
  rw [spSet]
  split
  · exact g
  · rename_i c1
    split
    · exact g
    · rename_i c2
      split
      · exact g
      · split
        · exact g
        · rename_i c4
          have c2 : alw n w v = true := by simpa using c2
          obtain ⟨p, hp, rfl⟩ := inB_of (show inB x n = true from by simpa using c1) (by omega)
          obtain ⟨b, hb, rfl⟩ : ∃ b, b < 10 ∧ w = nI b := by
            by_cases q : inB w 10 = true
            · exact inB_of q (by omega)
            · rw [alw_out q] at c2; exact absurd c2 Bool.false_ne_true
          rw [nI_clamp (show p < 2 ^ 31 by omega)] at c4 ⊢
          rw [nI_clamp (show b < 2 ^ 31 by omega)]
          have ok := alw_ok hn hb c2
          have h6 : (dsF h n n).length ≤ 6 := g.2.1
          refine gs_chg g hp ok ?_
          show (dsF (upd h (p * 18 + b) v) n n).length ≤ 6
          by_cases e : b = 7
          · subst e
            exact ds_set hn h6 hp (ok.2.2.2.2.2.2.2 rfl) (Bool.eq_false_iff.mpr (fun z => c4 ⟨rfl, z⟩))
          · rw [ue_ds (ue_upd h (p := p) ok.1 v) e]
            exact h6
theorem gs_spPress {h : Nat → Int32} {n t : Nat} {sp : List Nat} (g : GS (h, n, t, sp)) (key : Int32) : GS (spPress h n t sp key).2 := by
  have hn0 : 0 < n := g.1.1.1
  have hn : n ≤ 24 := g.1.1.2
  have ht : TR h n := g.1.2.1
  have ho : opsOK h n := g.1.2.2.2.2.2.2.1
  have h0 : ∀ x, x < n → h01 h x := g.1.2.2.2.2.2.1
  have ht2 : t ≤ n := g.2.2.1
  have hfs : ∀ a, t = a + 1 → shwn h a = true := g.2.2.2.1
  have h6 : (dsF h n n).length ≤ 6 := g.2.1
  rw [spPress]
  split
  · exact g
  · split
    · cases e : entP h t with
      | none => exact g
      | some c =>
        obtain ⟨_, -, -, -, -, hc⟩ := entP_some hn ho ht2 e
        have z := gs_chg (s := (h, n, t, sp)) (p := c) (w := 5) g hc (ok_tgl (h0 c hc)) (by
          show (dsF (upd h (c * 18 + 5) (nI 1 - h (c * 18 + 5))) n n).length ≤ 6
          rw [ue_ds (ue_upd h (p := c) (w := 5) (by omega) _) (by omega)]
          exact h6)
        rw [chg_tgl (h0 c hc)] at z
        exact z
    · obtain ⟨a1, a2⟩ := nxt_ok (key := key.toNatClampNeg) ht hn0 hn ht2 hfs
      exact ⟨g.1, g.2.1, a1, a2, g.2.2.2.2.1, g.2.2.2.2.2⟩
theorem gs_leave {h : Nat → Int32} {n t : Nat} {sp : List Nat} (g : GS (h, n, t, sp)) : GS (h, n, 0, sp) := ⟨g.1, g.2.1, Nat.zero_le _, fun a e => absurd e (by show ¬ 0 = a + 1; omega), g.2.2.2.2.1, g.2.2.2.2.2⟩
theorem gs_hear {h : Nat → Int32} {n t : Nat} {sp : List Nat} (g : GS (h, n, t, sp)) : GS (h, n, t, sp.tail) := ⟨g.1, g.2.1, g.2.2.1, g.2.2.2.1, List.Pairwise.sublist (List.tail_sublist _) g.2.2.2.2.1, fun y hy => g.2.2.2.2.2 y (List.mem_of_mem_tail hy)⟩
theorem gs_spMend {h : Nat → Int32} {n t : Nat} {sp : List Nat} (g : GS (h, n, t, sp)) (k : Int32) : GS (spMend h n t sp k).2 := by
  rw [spMend]
  split
  · exact g
  · rename_i c1
    split
    · exact g
    · have hl := wrOS_len h n (nmS h n) (saidF h n) n
      have hn : n ≤ 24 := g.1.1.2
      have hl2 : (wrS h n).length ≤ 6 * n := hl
      obtain ⟨j, hj, rfl⟩ := inB_of (show inB k (wrS h n).length = true from by simpa using c1) (by omega)
      refine gs_mend g ?_
      rw [nI_clamp (by omega)]
      exact (wrS_in hj).1
-- the first state
def h0F : Nat → Int32 := pfH (fun _ => 0) 0 (-1) 0
def s0S : St := (h0F, 1, 0, [])
theorem h0F_at {w : Nat} (hw : w < 18) : h0F (0 * 18 + w) = if w = 17 then nI 16777215 else if w = 11 then -1 else if w = 10 then nI 0 else if w = 7 ∨ w = 4 ∨ w = 3 then -1 else 0 := pf_new _ 0 0 (-1) hw
theorem gs_0 : GS s0S := by
  have z : ∀ w, w < 18 → w ≠ 17 → w ≠ 11 → w ≠ 10 → w ≠ 7 → w ≠ 4 → w ≠ 3 → h0F (0 * 18 + w) = 0 := fun w h1 h2 h3 h4 h5 h6 h7 => by
    rw [h0F_at h1, if_neg h2, if_neg h3, if_neg h4, if_neg (by omega)]
  have m1 : ∀ w, w = 7 ∨ w = 4 ∨ w = 3 → h0F (0 * 18 + w) = -1 := fun w hw => by
    rw [h0F_at (by omega), if_neg (by omega), if_neg (by omega), if_neg (by omega), if_pos hw]
  have e : ∀ a, a < 1 → a = 0 := fun a ha => by omega
  refine ⟨⟨⟨by decide, by decide⟩, ⟨?_, fun p h0 hp => absurd hp (by show ¬ p < 1; omega)⟩, fun a ha u hu => ?_, fun a ha => ?_, fun a ha => ?_, fun a ha => ?_, fun a ha => ?_, fun j hj => ?_⟩, ?_, Nat.zero_le _, fun a e => absurd e (by show ¬ 0 = a + 1; omega), List.nodup_nil, fun y hy => absurd hy List.not_mem_nil⟩
  · show h0F (0 * 18 + 11) = -1
    rw [h0F_at (by omega), if_neg (by omega), if_pos rfl]
  · rw [e a ha]; exact Or.inl (m1 u (by omega))
  · rw [e a ha]; exact ⟨0, by omega, z 6 (by omega) (by omega) (by omega) (by omega) (by omega) (by omega) (by omega)⟩
  · rw [e a ha]
    exact ⟨⟨0, by omega, z 16 (by omega) (by omega) (by omega) (by omega) (by omega) (by omega) (by omega)⟩, 16777215, by omega, by show h0F (0 * 18 + 17) = _; rw [h0F_at (by omega), if_pos rfl]⟩
  · rw [e a ha]; exact Or.inl (z 5 (by omega) (by omega) (by omega) (by omega) (by omega) (by omega) (by omega))
  · rw [e a ha]; exact Or.inl (m1 7 (by omega))
  · have hj2 : 1 * 18 ≤ j := hj
    exact pf_far (by omega)
  · show (dsF h0F 1 1).length ≤ 6
    rw [ds_len]
    exact Nat.le_trans (fb_ct_le _ _) (by omega)
end
