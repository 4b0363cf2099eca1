section
/-! a key pressed in a state: the class's way is the reference's -/
theorem nth_inj {dl : List Nat} (hnd : dl.Nodup) {i j : Nat} (hi : i < dl.length) (hj : j < dl.length) (e : nth dl i = nth dl j) : i = j := by
  rw [List.nodup_iff_pairwise_ne, List.pairwise_iff_getElem] at hnd
  rw [nth_get hi, nth_get hj] at e
  rcases Nat.lt_trichotomy i j with c | c | c
  · exact absurd e (hnd i j hi hj c)
  · exact c
  · exact absurd e.symm (hnd j i hj hi c)
theorem cmH_at {h : Nat → Int32} {dl : List Nat} {b i : Nat} (hnd : dl.Nodup) : ∀ k, k ≤ dl.length → i < k → cmH h dl b k (nth dl i * 18 + 5) = bI (b.testBit i)
  | 0, _, h2 => absurd h2 (Nat.not_lt_zero _)
  | k + 1, h1, h2 => by
    rw [cmH, upd]
    by_cases c : i = k
    · rw [c, if_pos rfl]
    · rw [if_neg (fun z => c (nth_inj hnd (by omega) (by omega) (by omega)))]
      exact cmH_at hnd k (by omega) (by omega)
theorem bI_ne (x : Bool) : (bI x != 0) = x := by cases x <;> decide
theorem hdP_cm {h : Nat → Int32} {dl : List Nat} {b i : Nat} (hnd : dl.Nodup) (hi : i < dl.length) : hdP (cmH h dl b dl.length) dl i = b.testBit i := by
  rw [hdP, cmH_at hnd _ (Nat.le_refl _) hi, bI_ne]
theorem mkN_of {P : Nat → Bool} {b k : Nat} (hk : k ≤ 31) (hP : ∀ i, i < k → P i = b.testBit i) (hb : b < 2 ^ k) : mkN P k = b := by
  apply Nat.eq_of_testBit_eq
  intro i
  rcases Nat.lt_or_ge i k with c | c
  · rw [mkN_bit P hk c, hP i c]
  · have e : (2 : Nat) ^ k ≤ 2 ^ i := Nat.pow_le_pow_right (by omega) c
    rw [Nat.testBit_lt_two_pow (Nat.lt_of_lt_of_le (mkN_lt P k) e), Nat.testBit_lt_two_pow (Nat.lt_of_lt_of_le hb e)]
theorem stS_cm {h : Nat → Int32} {dl : List Nat} {b t : Nat} (hnd : dl.Nodup) (h6 : dl.length ≤ 6) (hb : b < 2 ^ dl.length) : stS (cmH h dl b dl.length) dl t = b * 25 + t := by
  rw [stS, mkN_of (by omega) (fun i hi => hdP_cm hnd hi) hb]
theorem dsF_nd (h : Nat → Int32) (n : Nat) : ∀ k, (dsF h n k).Nodup
  | 0 => List.nodup_nil
  | k + 1 => by
    rw [dsF]
    split
    · rw [List.nodup_append]
      refine ⟨dsF_nd h n k, by simp, fun a ha b hb z => ?_⟩
      have := (dsF_mem.mp ha).1
      have : b = k := by simpa using hb
      omega
    · rw [List.append_nil]; exact dsF_nd h n k
theorem hdn_bit {dl : List Nat} {hg b : Int32} (hb : ∀ x ∈ dl, x < 24) {j : Nat} (hj : j < 32) : ∀ k, k ≤ dl.length → (bt (hdnF dl hg b k) j = true ↔ bt hg j = true ∨ ∃ d, d < k ∧ bt b d = true ∧ nth dl d = j)
  | 0, _ => ⟨fun z => Or.inl z, fun z => by
      rcases z with z | ⟨d, hd, _⟩
      · exact z
      · exact absurd hd (Nat.not_lt_zero _)⟩
  | k + 1, hk => by
    have hx := hb _ (getD_mem (show k < dl.length by omega))
    have ih := hdn_bit (hg := hg) (b := b) hb hj k (by omega)
    rw [hdnF]
    by_cases c : bt b k = true
    · rw [if_pos c, b_or, Bool.or_eq_true, ih, bt_1shl (by omega) hj, decide_eq_true_eq]
      constructor
      · rintro ((z | ⟨d, h1, h2, h3⟩) | z)
        · exact Or.inl z
        · exact Or.inr ⟨d, by omega, h2, h3⟩
        · exact Or.inr ⟨k, by omega, c, z.symm⟩
      · rintro (z | ⟨d, h1, h2, h3⟩)
        · exact Or.inl (Or.inl z)
        · by_cases e : d = k
          · right; rw [← h3, e]
          · exact Or.inl (Or.inr ⟨d, by omega, h2, h3⟩)
    · rw [if_neg c, ih]
      constructor
      · rintro (z | ⟨d, h1, h2, h3⟩)
        · exact Or.inl z
        · exact Or.inr ⟨d, by omega, h2, h3⟩
      · rintro (z | ⟨d, h1, h2, h3⟩)
        · exact Or.inl z
        · refine Or.inr ⟨d, ?_, h2, h3⟩
          have : d ≠ k := fun e => c (e ▸ h2)
          omega
theorem hg_bit {M : Mm} {n j : Nat} (hn : n ≤ 24) (ho : opsOK (M 1) n) (hj : j < n) : bt (hgF M n) j = ((M 1 (j * 18 + 5) != 0) && !(opC (M 1) (-1) n j)) := by
  rw [hgF, b_and, bt_mkM _ (by omega) (by omega), decide_eq_true hj, b_xor, b_m1 j (by omega), opN, opC_bit hn ho _ (by omega), Bool.xor_true, Bool.true_and]
  rfl
theorem shIf_B {M : Mm} {n b : Nat} (mk : MK M (M 1) n) (hn : n ≤ 24) (ho : opsOK (M 1) n) (h6 : (dsF (M 1) n n).length ≤ 6) : shB (shIf M n (dsF (M 1) n n) (hgF M n) (nI b)) (cmH (M 1) (dsF (M 1) n n) b (dsF (M 1) n n).length) n := by
  have hnd := dsF_nd (M 1) n n
  have hb24 : ∀ x ∈ dsF (M 1) n n, x < 24 := fun x hx => by have := (dsF_mem.mp hx).1; omega
  refine shB_of mk hn (fun j hj => ?_) (cmH_D _ _ _).te
  rw [Bool.eq_iff_iff, hdn_bit hb24 (by omega) _ (Nat.le_refl _), hg_bit hn ho hj]
  by_cases c : j ∈ dsF (M 1) n n
  · obtain ⟨i, hi, rfl⟩ := mem_nth.mp c
    rw [(dsF_mem.mp c).2, cmH_at hnd _ (Nat.le_refl _) hi, bI_ne, Bool.not_true, Bool.and_false]
    constructor
    · rintro (z | ⟨d, h1, h2, h3⟩)
      · exact absurd z (by decide)
      · rw [nth_inj hnd h1 hi h3, bt_nI _ (by omega)] at h2
        exact h2
    · intro z
      exact Or.inr ⟨i, hi, by rw [bt_nI _ (by omega)]; exact z, rfl⟩
  · have e : opC (M 1) (-1) n j = false := Bool.eq_false_iff.mpr (fun z => c (dsF_mem.mpr ⟨hj, z⟩))
    rw [e, Bool.not_false, Bool.and_true, cmH_off _ (Nat.le_refl _) (fun x hx z => c (by rw [show j = x by omega]; exact hx))]
    constructor
    · rintro (z | ⟨d, h1, h2, h3⟩)
      · exact z
      · exact absurd (h3 ▸ getD_mem h1) c
    · exact fun z => Or.inl z
def VS (h : Nat → Int32) (n : Nat) (dl : List Nat) (s : Nat) : Prop := s / 25 < 2 ^ dl.length ∧ s % 25 ≤ n ∧ ∀ a, s % 25 = a + 1 → shwn (cmH h dl (s / 25) dl.length) a = true
theorem nxt_ok {h1 : Nat → Int32} {n t key : Nat} (ht : TR h1 n) (hn0 : 0 < n) (hn : n ≤ 24) (ht2 : t ≤ n) (hs : ∀ a, t = a + 1 → shwn h1 a = true) : nxtT (stpF h1 n t) key t ≤ n ∧ ∀ a, nxtT (stpF h1 n t) key t = a + 1 → shwn h1 a = true := by
  rw [nxtT]
  split
  · exact ⟨ht2, hs⟩
  · rename_i c
    have hm := getD_mem (nxtI_lt (l := stpF h1 n t) (key := key) (by omega) (ixF_le _ (pm t) (stpF h1 n t).length))
    obtain ⟨h2, h3⟩ := stpL_mem.mp hm
    have := (ord_facts n hn0 (by omega) ht).2.2 _ h2
    refine ⟨by omega, fun a e => ?_⟩
    have e2 : nth (stpF h1 n t) (nxtI (stpF h1 n t) key (ixF (stpF h1 n t) (pm t) (stpF h1 n t).length)) = a := by omega
    rw [stpP, Bool.and_eq_true, Bool.and_eq_true, e2] at h3
    exact h3.1.2
theorem bx_lt {b k i : Nat} (hb : b < 2 ^ k) (hi : i < k) : b ^^^ 2 ^ i < 2 ^ k := Nat.xor_lt_two_pow hb (Nat.pow_lt_pow_right (by omega) hi)
theorem tgl_cm {h : Nat → Int32} {dl : List Nat} {b i : Nat} (hnd : dl.Nodup) (hi : i < dl.length) : tgl (cmH h dl b dl.length) (nth dl i) = cmH h dl (b ^^^ 2 ^ i) dl.length := by
  funext j
  rw [tgl, upd]
  by_cases c : j = nth dl i * 18 + 5
  · rw [if_pos c, c, cmH_at hnd _ (Nat.le_refl _) hi, cmH_at hnd _ (Nat.le_refl _) hi, fb_bit_flip, decide_eq_true rfl, Bool.xor_true]
    cases b.testBit i <;> decide
  · rw [if_neg c]
    by_cases m : ∃ k, k < dl.length ∧ j = nth dl k * 18 + 5
    · obtain ⟨k, hk, rfl⟩ := m
      rw [cmH_at hnd _ (Nat.le_refl _) hk, cmH_at hnd _ (Nat.le_refl _) hk, fb_bit_flip, decide_eq_false (fun e => c (by rw [e])), Bool.xor_false]
    · have hof : ∀ x ∈ dl, j ≠ x * 18 + 5 := fun x hx e => by
        obtain ⟨k, hk, rfl⟩ := mem_nth.mp hx
        exact m ⟨k, hk, e⟩
      rw [cmH_off _ (Nat.le_refl _) hof, cmH_off _ (Nat.le_refl _) hof]
theorem nxR_01 {h : Nat → Int32} {n key s : Nat} {dl : List Nat} (hnd : dl.Nodup) (h6 : dl.length ≤ 6) (hv : VS h n dl s) (hk : key < 2) : nxR h n dl key s = s / 25 * 25 + nxtT (stpF (cmH h dl (s / 25) dl.length) n (s % 25)) key (s % 25) := by
  rw [nxR, pkS, if_pos hk]
  exact stS_cm hnd h6 hv.1
theorem nxR_no {h : Nat → Int32} {n s : Nat} {dl : List Nat} (hnd : dl.Nodup) (h6 : dl.length ≤ 6) (hv : VS h n dl s) (he : entP (cmH h dl (s / 25) dl.length) (s % 25) = none) : nxR h n dl 2 s = s := by
  rw [nxR, pkS, if_neg (by omega), he]
  show stS (cmH h dl (s / 25) dl.length) dl (s % 25) = s
  rw [stS_cm hnd h6 hv.1]
  omega
theorem nxR_en {h : Nat → Int32} {n s i : Nat} {dl : List Nat} (hnd : dl.Nodup) (h6 : dl.length ≤ 6) (hv : VS h n dl s) (hi : i < dl.length) (he : entP (cmH h dl (s / 25) dl.length) (s % 25) = some (nth dl i)) : nxR h n dl 2 s = (s / 25 ^^^ 2 ^ i) * 25 + lkS (cmH h dl (s / 25 ^^^ 2 ^ i) dl.length) (s % 25) := by
  rw [nxR, pkS, if_neg (by omega), he]
  show stS (tgl (cmH h dl (s / 25) dl.length) (nth dl i)) dl (lkS (tgl (cmH h dl (s / 25) dl.length) (nth dl i)) (s % 25)) = _
  rw [tgl_cm hnd hi, stS_cm hnd h6 (bx_lt hv.1 hi)]
theorem ent_door {h : Nat → Int32} {n t c b : Nat} (hn : n ≤ 24) (ho : opsOK h n) (ht : t ≤ n) (he : entP (cmH h (dsF h n n) b (dsF h n n).length) t = some c) : ∃ i, i < (dsF h n n).length ∧ nth (dsF h n n) i = c := by
  obtain ⟨a, rfl, e1, e2, h0, hc⟩ := entP_some hn ((cmH_D h (dsF h n n) b).ops ho) ht he
  rw [(cmH_D h (dsF h n n) b).at a (by omega) (by omega)] at e2
  exact mem_nth.mp (door_mem hn h0 hc (by omega) e2)
theorem lkS_ok {h1 : Nat → Int32} {t n : Nat} (ht : t ≤ n) : lkS h1 t ≤ n ∧ ∀ a, lkS h1 t = a + 1 → shwn h1 a = true := by
  cases t with
  | zero => exact ⟨Nat.zero_le _, fun a e => by cases e⟩
  | succ k =>
    rw [lkS]
    split
    · rename_i c
      exact ⟨ht, fun a e => by rw [show a = k by omega]; exact c⟩
    · exact ⟨Nat.zero_le _, fun a e => by cases e⟩
theorem vs_of {h : Nat → Int32} {n b t : Nat} {dl : List Nat} (hn : n ≤ 24) (hb : b < 2 ^ dl.length) (ht : t ≤ n) (hs : ∀ a, t = a + 1 → shwn (cmH h dl b dl.length) a = true) : VS h n dl (b * 25 + t) := by
  have e1 : (b * 25 + t) / 25 = b := by omega
  have e2 : (b * 25 + t) % 25 = t := by omega
  refine ⟨by rw [e1]; exact hb, by rw [e2]; exact ht, fun a e => ?_⟩
  rw [e1]
  exact hs a (by rw [← e2]; exact e)
theorem vs_16 {h : Nat → Int32} {n s : Nat} {dl : List Nat} (h6 : dl.length ≤ 6) (hv : VS h n dl s) : s < 1600 := by
  have : (2 : Nat) ^ dl.length ≤ 2 ^ 6 := Nat.pow_le_pow_right (by omega) h6
  have := hv.1
  omega
theorem vs_clsd {h : Nat → Int32} {n : Nat} (ht : TR h n) (hn0 : 0 < n) (hn : n ≤ 24) (ho : opsOK h n) (h6 : (dsF h n n).length ≤ 6) : clsd (nxR h n (dsF h n n)) (VS h n (dsF h n n)) := by
  have hnd := dsF_nd h n n
  intro s key hv hk
  have main : VS h n (dsF h n n) (nxR h n (dsF h n n) key s) := by
    rcases (show key < 2 ∨ key = 2 by omega) with c | rfl
    · rw [nxR_01 hnd h6 hv c]
      obtain ⟨a1, a2⟩ := nxt_ok (key := key) (te_tr (cmH_D h (dsF h n n) (s / 25)).te ht) hn0 hn hv.2.1 hv.2.2
      exact vs_of hn hv.1 a1 a2
    · cases e : entP (cmH h (dsF h n n) (s / 25) (dsF h n n).length) (s % 25) with
      | none => rw [nxR_no hnd h6 hv e]; exact hv
      | some c =>
        obtain ⟨i, hi, rfl⟩ := ent_door hn ho hv.2.1 e
        rw [nxR_en hnd h6 hv hi e]
        obtain ⟨a1, a2⟩ := lkS_ok (h1 := cmH h (dsF h n n) (s / 25 ^^^ 2 ^ i) (dsF h n n).length) hv.2.1
        exact vs_of hn (bx_lt hv.1 hi) a1 a2
  exact ⟨main, vs_16 h6 main⟩
theorem dof_sp (dl : List Nat) (op : Int32) : ∀ d, dofF dl op d = spK dl op d
  | 0 => rfl
  | d + 1 => by rw [dofF, spK, dof_sp dl op d]
theorem dof_no {dl : List Nat} {op : Int32} (h : ∀ y ∈ dl, ¬ nI y = op) : dofF dl op dl.length = 0 := by
  rw [dof_sp, spK_ix _ _ _ (Nat.le_refl _), if_pos (ix_none h)]
theorem dof_at {dl : List Nat} {i : Nat} (hnd : dl.Nodup) (hb : ∀ x ∈ dl, x < 24) (hi : i < dl.length) : dofF dl (nI (nth dl i)) dl.length = i + 1 := by
  have e : dl = dl.take i ++ nth dl i :: dl.drop (i + 1) := by rw [← drop_nth hi, List.take_append_drop]
  have hm : nth dl i ∉ dl.take i := fun z => by
    rw [e, List.nodup_append] at hnd
    exact hnd.2.2 _ z _ List.mem_cons_self rfl
  have z := ix_app (B := dl.drop (i + 1)) (hb _ (getD_mem hi)) hm (fun y hy => hb y (List.mem_of_mem_take hy))
  rw [← e, List.length_take] at z
  rw [dof_sp, spK_ix _ _ _ (Nat.le_refl _), z, if_neg (by omega)]
  omega
theorem ob_eq {M : Mm} {n t b : Nat} {dl : List Nat} (mk : MK M (M 1) n) (hn : n ≤ 24) (ho : opsOK (M 1) n) (ht : t ≤ n) : obF M (pm t) = optI (entP (cmH (M 1) dl b dl.length) t) := by
  cases t with
  | zero => rw [pm_0, obF, hB_m1, if_neg (by decide)]; rfl
  | succ a =>
    rw [pm_s, obF, hB_nI (by omega), mk.2.2 2 (by omega) a (by omega), nI_clamp (by omega), entP, (cmH_D (M 1) dl b).at a (by omega) (by omega), (cmH_D (M 1) dl b).at a (by omega) (by omega)]
    by_cases c : M 1 (a * 18 + 10) = nI 2
    · rw [if_pos c, decide_eq_true ⟨by omega, c⟩, if_pos rfl]
      rcases ho a (by omega) with e | ⟨d, h0, hd, e⟩
      · rw [e, if_pos rfl]; rfl
      · rw [e, if_neg (nI_m1 (by omega)), nI_clamp (by omega)]; rfl
    · rw [if_neg c, decide_eq_false (fun z => c z.2), if_neg (by decide)]; rfl
/-- all keys pressed in one state: the class's and the reference's -/
theorem pa_eq {M : Mm} {n a : Nat} {q : List Qe} (mk : MK M (M 1) n) (ht : TR (M 1) n) (hn0 : 0 < n) (hn : n ≤ 24) (ho : opsOK (M 1) n) (h6 : (dsF (M 1) n n).length ≤ 6) (ha : a < q.length) (hv : VS (M 1) n (dsF (M 1) n n) (qe q a).1) :
    paF M n (arrF (M 1) (ordF (M 1) n)) (dsF (M 1) n n) (hgF M n) q a = pk3 (nxR (M 1) n (dsF (M 1) n n)) q a := by
  have hnd := dsF_nd (M 1) n n
  have hb24 : ∀ x ∈ dsF (M 1) n n, x < 24 := fun x hx => by have := (dsF_mem.mp hx).1; omega
  have hN : ∀ key, key < 2 → sNx M n (arrF (M 1) (ordF (M 1) n)) (dsF (M 1) n n) (hgF M n) (nI key) (qs q a) = nxR (M 1) n (dsF (M 1) n n) key (qe q a).1 := fun key hk => by
    rw [sNx, nxR_01 hnd h6 hv hk]
    show (qe q a).1 / 25 * 25 + turnN M n (arrF (M 1) (ordF (M 1) n)) (shIf M n (dsF (M 1) n n) (hgF M n) (nI ((qe q a).1 / 25))) (nI key) ((qe q a).1 % 25) = _
    rw [turn_eq mk (cmH_D (M 1) (dsF (M 1) n n) ((qe q a).1 / 25)).te ht hn0 hn (shIf_B mk hn ho h6) hv.2.1 hv.2.2 hk]
  have hD : dorN M (dsF (M 1) n n) (qs q a) = dofF (dsF (M 1) n n) (optI (entP (cmH (M 1) (dsF (M 1) n n) ((qe q a).1 / 25) (dsF (M 1) n n).length) ((qe q a).1 % 25))) (dsF (M 1) n n).length := by
    rw [dorN]
    show dofF _ (obF M (pm ((qe q a).1 % 25))) _ = _
    rw [ob_eq (b := (qe q a).1 / 25) (dl := dsF (M 1) n n) mk hn ho hv.2.1]
  rw [paF, hN 0 (by omega), hN 1 (by omega), pk3]
  cases e : entP (cmH (M 1) (dsF (M 1) n n) ((qe q a).1 / 25) (dsF (M 1) n n).length) ((qe q a).1 % 25) with
  | none =>
    rw [e] at hD
    rw [if_pos (by rw [hD]; exact dof_no (fun y hy => nI_m1 (by have := hb24 y hy; omega))), nxR_no hnd h6 hv e]
    refine (come_in ?_).symm
    exact List.mem_map.mpr ⟨qe q a, come_pre _ _ _ (come_pre _ _ _ (qe_mem ha)), rfl⟩
  | some c =>
    obtain ⟨i, hi, rfl⟩ := ent_door hn ho hv.2.1 e
    rw [e] at hD
    have hD2 : dorN M (dsF (M 1) n n) (qs q a) = i + 1 := by rw [hD]; exact dof_at hnd hb24 hi
    have hE : sEn M n (dsF (M 1) n n) (hgF M n) (qs q a) = nxR (M 1) n (dsF (M 1) n n) 2 (qe q a).1 := by
      rw [sEn, hD2, nxR_en hnd h6 hv hi e]
      show ((qe q a).1 / 25 ^^^ 2 ^ i) * 25 + (if hB (shIf M n (dsF (M 1) n n) (hgF M n) (nI ((qe q a).1 / 25 ^^^ 2 ^ i))) (pm ((qe q a).1 % 25)) then (qe q a).1 % 25 else 0) = _
      congr 1
      have hle := hv.2.1
      generalize (qe q a).1 % 25 = t at hle ⊢
      cases t with
      | zero => rw [pm_0, hB_m1, if_neg (by decide)]; rfl
      | succ k => rw [pm_s, (shIf_B mk hn ho h6).hB hn (by omega), lkS]
    rw [if_neg (by omega), hE]
    rfl
end
