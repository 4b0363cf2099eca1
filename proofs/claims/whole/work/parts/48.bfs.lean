section
/-! the search: nearest first, of equally near ones the lesser first keys first -/
def RR (nx : Nat → Nat → Nat) : Nat → Nat → Nat → Prop
  | 0, s, s2 => s2 = s
  | m + 1, s, s2 => ∃ s1, RR nx m s s1 ∧ ∃ key, key < 3 ∧ s2 = nx key s1
theorem RR_first {nx : Nat → Nat → Nat} : ∀ {m s s2 : Nat}, RR nx (m + 1) s s2 ↔ ∃ key, key < 3 ∧ RR nx m (nx key s) s2
  | 0, s, s2 => by
    constructor
    · rintro ⟨s1, h1, key, hk, e⟩
      exact ⟨key, hk, by rw [e, show s1 = s from h1]; rfl⟩
    · rintro ⟨key, hk, e⟩
      exact ⟨s, rfl, key, hk, e⟩
  | m + 1, s, s2 => by
    constructor
    · rintro ⟨s1, h1, key, hk, e⟩
      obtain ⟨k1, a, b⟩ := RR_first.mp h1
      exact ⟨k1, a, s1, b, key, hk, e⟩
    · rintro ⟨k1, a, s1, b, key, hk, e⟩
      exact ⟨s1, RR_first.mpr ⟨k1, a, b⟩, key, hk, e⟩
def wE (e : Qe) : Nat := if e.2.1 = 0 then 0 else 3 * e.2.1 + e.2.2.toNatClampNeg
def cwE (e : Qe) (key : Nat) : Nat := if e.2.1 = 0 then 3 + key else wE e + 3
def sdE (nx : Nat → Nat → Nat) (s0 : Nat) (e : Qe) : Prop := e = (s0, 0, -1) ∨ (1 ≤ e.2.1 ∧ ∃ f, f < 3 ∧ e.2.2 = nI f ∧ RR nx (e.2.1 - 1) (nx f s0) e.1)
def BI (nx : Nat → Nat → Nat) (V : Nat → Prop) (s0 : Nat) (q : List Qe) : Prop := q[0]? = some ((s0, 0, -1) : Qe) ∧ (q.map (fun e => e.1)).Nodup ∧ (∀ e ∈ q, e.1 < 1600 ∧ V e.1) ∧ q.Pairwise (fun e e2 => wE e ≤ wE e2) ∧ ∀ e ∈ q, sdE nx s0 e
def chE (e : Qe) (s key : Nat) : Qe := (s, e.2.1 + 1, if e.2.1 = 0 then nI key else e.2.2)
theorem chE_w {nx : Nat → Nat → Nat} {s0 : Nat} {e : Qe} (hs : sdE nx s0 e) (s : Nat) {key : Nat} (hk : key < 3) : wE (chE e s key) = cwE e key := by
  unfold wE cwE chE
  dsimp only
  rw [if_neg (by omega)]
  rcases hs with rfl | ⟨h1, f, hf, e2, -⟩
  · rw [if_pos rfl, if_pos rfl, nI_clamp (by omega)]
    rfl
  · rw [if_neg (by omega), if_neg (by omega), wE, if_neg (by omega)]
    omega
theorem chE_s {nx : Nat → Nat → Nat} {s0 : Nat} {e : Qe} (hs : sdE nx s0 e) {key : Nat} (hk : key < 3) : sdE nx s0 (chE e (nx key e.1) key) := by
  right
  refine ⟨by unfold chE; dsimp only; omega, ?_⟩
  rcases hs with rfl | ⟨h1, f, hf, e2, h2⟩
  · exact ⟨key, hk, rfl, rfl⟩
  · refine ⟨f, hf, ?_, ?_⟩
    · unfold chE; dsimp only; rw [if_neg (by omega)]; exact e2
    · show RR nx (e.2.1 + 1 - 1) _ _
      rw [show e.2.1 + 1 - 1 = (e.2.1 - 1) + 1 by omega]
      exact ⟨e.1, h2, key, hk, rfl⟩
theorem bi_len {nx : Nat → Nat → Nat} {V : Nat → Prop} {s0 : Nat} {q : List Qe} (h : BI nx V s0 q) : q.length ≤ 1600 := by
  apply Classical.byContradiction
  intro c
  have z := fb_holes 1600 q.length (fun i => (q.map (fun e => e.1)).getD i 0) (fun i hi => by
    have : (q.map (fun e => e.1)).getD i 0 = (q[i]).1 := by simp [hi]
    rw [this]
    exact (h.2.2.1 _ (List.getElem_mem hi)).1) (fun i j hij hj e => by
    have h2 := h.2.1
    rw [List.nodup_iff_pairwise_ne, List.pairwise_iff_getElem] at h2
    have := h2 i j (by simp; omega) (by simp; omega) hij
    apply this
    have hi : i < q.length := by omega
    simp [hi, hj] at e
    simpa using e)
  exact c z
theorem come_in {q : List Qe} {e : Qe} (h : e.1 ∈ q.map (fun z => z.1)) : comeF q e = q := by rw [comeF, if_pos (Or.inl h)]
theorem bi_new {nx : Nat → Nat → Nat} {V : Nat → Prop} {s0 : Nat} {q : List Qe} (h : BI nx V s0 q) {e : Qe} (h16 : e.1 < 1600) (hn : e.1 ∉ q.map (fun z => z.1)) : comeF q e = q ++ [e] := by
  have := nodup_ltN (N := 1600) h.2.1 (fun y hy => by obtain ⟨z, hz, rfl⟩ := List.mem_map.mp hy; exact (h.2.2.1 z hz).1) h16 hn
  rw [List.length_map] at this
  rw [comeF, if_neg (by rintro (z | z); exact hn z; exact z this)]
theorem bi_push {nx : Nat → Nat → Nat} {V : Nat → Prop} {s0 c : Nat} {q : List Qe} {e : Qe} (h : BI nx V s0 q) (hc : ∀ z ∈ q, wE z ≤ c) (h16 : e.1 < 1600) (hV : V e.1) (hw : wE e = c) (hs : sdE nx s0 e) :
    BI nx V s0 (comeF q e) ∧ (∀ z ∈ comeF q e, wE z ≤ c) ∧ ∃ z ∈ comeF q e, z.1 = e.1 ∧ wE z ≤ c := by
  by_cases m : e.1 ∈ q.map (fun z => z.1)
  · rw [come_in m]
    obtain ⟨z, hz, e2⟩ := List.mem_map.mp m
    exact ⟨h, hc, z, hz, e2, hc z hz⟩
  · rw [bi_new h h16 m]
    refine ⟨⟨?_, ?_, ?_, ?_, ?_⟩, ?_, e, List.mem_append_right _ List.mem_cons_self, rfl, Nat.le_of_eq hw⟩
    · have := h.1
      rw [List.getElem?_append_left (by
        apply Classical.byContradiction
        intro z
        rw [List.getElem?_eq_none (by omega)] at this
        cases this)]
      exact this
    · rw [List.map_append, List.nodup_append]
      refine ⟨h.2.1, by simp, fun a ha b hb z => m ?_⟩
      have : b = e.1 := by simpa using hb
      rw [← this, ← z]; exact ha
    · intro z hz
      rcases List.mem_append.mp hz with hz | hz
      · exact h.2.2.1 z hz
      · have : z = e := by simpa using hz
        rw [this]; exact ⟨h16, hV⟩
    · rw [List.pairwise_append]
      refine ⟨h.2.2.2.1, List.pairwise_singleton _ _, fun a ha b hb => ?_⟩
      have : b = e := by simpa using hb
      rw [this, hw]; exact hc a ha
    · intro z hz
      rcases List.mem_append.mp hz with hz | hz
      · exact h.2.2.2.2 z hz
      · have : z = e := by simpa using hz
        rw [this]; exact hs
    · intro z hz
      rcases List.mem_append.mp hz with hz | hz
      · exact hc z hz
      · have : z = e := by simpa using hz
        rw [this]; exact Nat.le_of_eq hw
def qe (q : List Qe) (a : Nat) : Qe := q.getD a (0, 0, 0)
theorem qe_get {q : List Qe} {a : Nat} (h : a < q.length) : qe q a = q[a] := by simp [qe, h]
theorem qe_mem {q : List Qe} {a : Nat} (h : a < q.length) : qe q a ∈ q := by
  rw [qe_get h]; exact List.getElem_mem h
theorem qe_app {q t : List Qe} {a : Nat} (h : a < q.length) : qe (q ++ t) a = qe q a := by
  unfold qe
  simp [List.getElem?_append_left h]
def pk3 (nx : Nat → Nat → Nat) (q : List Qe) (a : Nat) : List Qe := comeF (comeF (comeF q (chE (qe q a) (nx 0 (qe q a).1) 0)) (chE (qe q a) (nx 1 (qe q a).1) 1)) (chE (qe q a) (nx 2 (qe q a).1) 2)
def CLq (nx : Nat → Nat → Nat) (q : List Qe) (e : Qe) : Prop := ∀ key, key < 3 → ∃ z ∈ q, z.1 = nx key e.1 ∧ wE z ≤ cwE e key
theorem come_pre (q : List Qe) (e : Qe) : ∀ z ∈ q, z ∈ comeF q e := by
  obtain ⟨t, ht⟩ := comeF_pre q e
  rw [ht]
  exact fun z hz => List.mem_append_left _ hz
theorem pk3_pre (nx : Nat → Nat → Nat) (q : List Qe) (a : Nat) : ∃ t, pk3 nx q a = q ++ t := by
  obtain ⟨t1, h1⟩ := comeF_pre q (chE (qe q a) (nx 0 (qe q a).1) 0)
  obtain ⟨t2, h2⟩ := comeF_pre (q ++ t1) (chE (qe q a) (nx 1 (qe q a).1) 1)
  obtain ⟨t3, h3⟩ := comeF_pre (q ++ t1 ++ t2) (chE (qe q a) (nx 2 (qe q a).1) 2)
  exact ⟨t1 ++ (t2 ++ t3), by rw [pk3, h1, h2, h3]; simp⟩
def clsd (nx : Nat → Nat → Nat) (V : Nat → Prop) : Prop := ∀ s key, V s → key < 3 → V (nx key s) ∧ nx key s < 1600
theorem bi_step {nx : Nat → Nat → Nat} {V : Nat → Prop} {s0 a : Nat} {q : List Qe} (hV : clsd nx V) (h : BI nx V s0 q) (ha : a < q.length) (hc : ∀ z ∈ q, wE z ≤ cwE (qe q a) 0) :
    BI nx V s0 (pk3 nx q a) ∧ (∀ z ∈ pk3 nx q a, wE z ≤ cwE (qe q a) 2) ∧ CLq nx (pk3 nx q a) (qe q a) := by
  have hm := qe_mem ha
  have hs := h.2.2.2.2 _ hm
  have hv := (h.2.2.1 _ hm).2
  have mono : ∀ k k2, k ≤ k2 → cwE (qe q a) k ≤ cwE (qe q a) k2 := fun k k2 hk => by
    unfold cwE
    split <;> omega
  obtain ⟨b1, c1, m1⟩ := bi_push (c := cwE (qe q a) 0) h hc (hV _ 0 hv (by omega)).2 (hV _ 0 hv (by omega)).1 (chE_w hs _ (by omega)) (chE_s hs (by omega))
  obtain ⟨b2, c2, m2⟩ := bi_push (c := cwE (qe q a) 1) b1 (fun z hz => Nat.le_trans (c1 z hz) (mono 0 1 (by omega))) (hV _ 1 hv (by omega)).2 (hV _ 1 hv (by omega)).1 (chE_w hs _ (by omega)) (chE_s hs (by omega))
  obtain ⟨b3, c3, m3⟩ := bi_push (c := cwE (qe q a) 2) b2 (fun z hz => Nat.le_trans (c2 z hz) (mono 1 2 (by omega))) (hV _ 2 hv (by omega)).2 (hV _ 2 hv (by omega)).1 (chE_w hs _ (by omega)) (chE_s hs (by omega))
  refine ⟨b3, c3, fun key hk => ?_⟩
  rcases (show key = 0 ∨ key = 1 ∨ key = 2 by omega) with rfl | rfl | rfl
  · obtain ⟨z, hz, e1, e2⟩ := m1
    exact ⟨z, come_pre _ _ z (come_pre _ _ z hz), e1, e2⟩
  · obtain ⟨z, hz, e1, e2⟩ := m2
    exact ⟨z, come_pre _ _ z hz, e1, e2⟩
  · exact m3
def fullF (nx : Nat → Nat → Nat) : Nat → Nat → List Qe → List Qe
  | 0, _, q => q
  | d + 1, a, q => if a < q.length then fullF nx d (a + 1) (pk3 nx q a) else q
theorem full_pre (nx : Nat → Nat → Nat) : ∀ d a q, ∃ t, fullF nx d a q = q ++ t
  | 0, _, q => ⟨[], by rw [fullF, List.append_nil]⟩
  | d + 1, a, q => by
    rw [fullF]
    split
    · obtain ⟨t1, h1⟩ := pk3_pre nx q a
      obtain ⟨t2, h2⟩ := full_pre nx d (a + 1) (pk3 nx q a)
      exact ⟨t1 ++ t2, by rw [h2, h1, List.append_assoc]⟩
    · exact ⟨[], by rw [List.append_nil]⟩
def LI (nx : Nat → Nat → Nat) (V : Nat → Prop) (s0 a : Nat) (q : List Qe) : Prop := BI nx V s0 q ∧ (∀ i, i < a → i < q.length → CLq nx q (qe q i)) ∧ (a < q.length → ∀ z ∈ q, wE z ≤ cwE (qe q a) 0)
theorem CLq.app {nx : Nat → Nat → Nat} {q t : List Qe} {e : Qe} (h : CLq nx q e) : CLq nx (q ++ t) e := fun key hk => by
  obtain ⟨z, hz, e1, e2⟩ := h key hk
  exact ⟨z, List.mem_append_left _ hz, e1, e2⟩
theorem bi_pos {nx : Nat → Nat → Nat} {V : Nat → Prop} {s0 i : Nat} {q : List Qe} (h : BI nx V s0 q) (h0 : 0 < i) (hi : i < q.length) : 1 ≤ (qe q i).2.1 := by
  rcases h.2.2.2.2 _ (qe_mem hi) with e | e
  · exfalso
    have h2 := h.2.1
    rw [List.nodup_iff_pairwise_ne, List.pairwise_iff_getElem] at h2
    have z := h2 0 i (by simp; omega) (by simp; omega) h0
    apply z
    have h1 := h.1
    rw [List.getElem?_eq_getElem (by omega)] at h1
    have h3 := Option.some.inj h1
    have h4 : q[i] = (s0, 0, -1) := by rw [← e, qe_get hi]
    simp [h3, h4]
  · exact e.1
theorem bi_srt {nx : Nat → Nat → Nat} {V : Nat → Prop} {s0 i j : Nat} {q : List Qe} (h : BI nx V s0 q) (hij : i ≤ j) (hj : j < q.length) : wE (qe q i) ≤ wE (qe q j) := by
  rcases Nat.lt_or_ge i j with c | c
  · have z := List.pairwise_iff_getElem.mp h.2.2.2.1 i j (by omega) hj c
    rw [qe_get (show i < q.length by omega), qe_get hj]
    exact z
  · rw [show i = j by omega]; exact Nat.le_refl _
theorem li_step {nx : Nat → Nat → Nat} {V : Nat → Prop} {s0 a : Nat} {q : List Qe} (hV : clsd nx V) (h : LI nx V s0 a q) (ha : a < q.length) : LI nx V s0 (a + 1) (pk3 nx q a) := by
  obtain ⟨b, c, d⟩ := bi_step hV h.1 ha (h.2.2 ha)
  obtain ⟨t, ht⟩ := pk3_pre nx q a
  refine ⟨b, fun i h1 h2 => ?_, fun h1 z hz => ?_⟩
  · by_cases e : i = a
    · rw [e, show qe (pk3 nx q a) a = qe q a by rw [ht, qe_app ha]]
      exact d
    · rw [ht, qe_app (by omega)]
      exact (h.2.1 i (by omega) (by omega)).app
  · have p1 := bi_pos b (by omega) h1
    have p2 := bi_srt b (show a ≤ a + 1 by omega) h1
    have p3 := c z hz
    rw [show qe (pk3 nx q a) a = qe q a by rw [ht, qe_app ha]] at p2
    have e1 : cwE (qe (pk3 nx q a) (a + 1)) 0 = wE (qe (pk3 nx q a) (a + 1)) + 3 := by rw [cwE, if_neg (by omega)]
    have e2 : 3 ≤ wE (qe (pk3 nx q a) (a + 1)) := by rw [wE, if_neg (by omega)]; omega
    rw [e1]
    unfold cwE at p3
    split at p3 <;> omega
theorem full_fin {nx : Nat → Nat → Nat} {V : Nat → Prop} {s0 : Nat} (hV : clsd nx V) : ∀ d a q, a + d = 1600 → LI nx V s0 a q → BI nx V s0 (fullF nx d a q) ∧ ∀ e ∈ fullF nx d a q, CLq nx (fullF nx d a q) e
  | 0, a, q, h, hI => by
    have hl := bi_len hI.1
    show BI nx V s0 q ∧ ∀ e ∈ q, CLq nx q e
    refine ⟨hI.1, fun e he => ?_⟩
    obtain ⟨i, hi, rfl⟩ := List.mem_iff_getElem.mp he
    have := hI.2.1 i (by omega) hi
    rwa [qe_get hi] at this
  | d + 1, a, q, h, hI => by
    rw [fullF]
    by_cases c : a < q.length
    · rw [if_pos c]
      exact full_fin hV d (a + 1) _ (by omega) (li_step hV hI c)
    · rw [if_neg c]
      refine ⟨hI.1, fun e he => ?_⟩
      obtain ⟨i, hi, rfl⟩ := List.mem_iff_getElem.mp he
      have := hI.2.1 i (by omega) hi
      rwa [qe_get hi] at this
def Q0 (s0 : Nat) : List Qe := [(s0, 0, -1)]
theorem li_0 {nx : Nat → Nat → Nat} {V : Nat → Prop} {s0 : Nat} (h16 : s0 < 1600) (hv : V s0) : LI nx V s0 0 (Q0 s0) := by
  refine ⟨⟨rfl, by simp [Q0], fun e he => ?_, List.pairwise_singleton _ _, fun e he => ?_⟩, fun i hi => absurd hi (Nat.not_lt_zero _), fun _ z hz => ?_⟩
  · have : e = (s0, 0, -1) := by simpa [Q0] using he
    rw [this]; exact ⟨h16, hv⟩
  · left; simpa [Q0] using he
  · have : z = (s0, 0, -1) := by simpa [Q0] using hz
    rw [this]
    exact Nat.zero_le _
/-- all that the search comes to, from s0 -/
def QF (nx : Nat → Nat → Nat) (s0 : Nat) : List Qe := fullF nx 1600 0 (Q0 s0)
theorem QF_ok {nx : Nat → Nat → Nat} {V : Nat → Prop} {s0 : Nat} (hV : clsd nx V) (h16 : s0 < 1600) (hv : V s0) : BI nx V s0 (QF nx s0) ∧ ∀ e ∈ QF nx s0, CLq nx (QF nx s0) e := full_fin hV 1600 0 _ rfl (li_0 h16 hv)
theorem QF_K {nx : Nat → Nat → Nat} {V : Nat → Prop} {s0 : Nat} {q : List Qe} (hB : BI nx V s0 q) (hC : ∀ e ∈ q, CLq nx q e) {k : Nat} (hk : k < 3) : ∀ m s, RR nx m (nx k s0) s → ∃ e ∈ q, e.1 = s ∧ wE e ≤ 3 * (m + 1) + k
  | 0, s, h => by
    have h0 : (s0, 0, -1) ∈ q := List.mem_of_getElem? hB.1
    obtain ⟨z, hz, e1, e2⟩ := hC _ h0 k hk
    refine ⟨z, hz, by rw [e1]; exact (show s = nx k s0 from h).symm, Nat.le_trans e2 ?_⟩
    rw [cwE, if_pos rfl]
    omega
  | m + 1, s, ⟨s1, h1, key, hk2, e⟩ => by
    obtain ⟨e1, m1, n1, w1⟩ := QF_K hB hC hk m s1 h1
    obtain ⟨z, hz, n2, w2⟩ := hC _ m1 key hk2
    refine ⟨z, hz, by rw [n2, n1, e], Nat.le_trans w2 ?_⟩
    unfold cwE
    split <;> omega
theorem QF_S {nx : Nat → Nat → Nat} {V : Nat → Prop} {s0 : Nat} {q : List Qe} (hB : BI nx V s0 q) {e : Qe} (he : e ∈ q) : RR nx e.2.1 s0 e.1 := by
  rcases hB.2.2.2.2 e he with rfl | ⟨h1, f, hf, -, h2⟩
  · rfl
  · rw [show e.2.1 = (e.2.1 - 1) + 1 by omega]
    exact RR_first.mpr ⟨f, hf, h2⟩
theorem wE_d {e : Qe} {m k : Nat} (h : wE e ≤ 3 * m + k) (hk : k < 3) : e.2.1 ≤ m := by
  unfold wE at h
  split at h <;> omega
theorem QF_C {nx : Nat → Nat → Nat} {V : Nat → Prop} {s0 : Nat} {q : List Qe} (hB : BI nx V s0 q) (hC : ∀ e ∈ q, CLq nx q e) : ∀ m s, RR nx m s0 s → ∃ e ∈ q, e.1 = s ∧ e.2.1 ≤ m
  | 0, s, h => ⟨_, List.mem_of_getElem? hB.1, (show s = s0 from h).symm, Nat.le_refl _⟩
  | m + 1, s, h => by
    obtain ⟨k, hk, h1⟩ := RR_first.mp h
    obtain ⟨e, he, n1, w1⟩ := QF_K hB hC hk m s h1
    exact ⟨e, he, n1, wE_d w1 hk⟩
end
