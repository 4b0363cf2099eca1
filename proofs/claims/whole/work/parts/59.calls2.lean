section
/-! the class's calls (II): set, press -/
def lvB (h : Nat → Int32) (a : Nat) : Bool := match inm h a 6 with
  | none => false
  | some x => shwn h x
theorem lvB_some {h : Nat → Int32} {a : Nat} (e : lvB h a = true) : ∃ x, inm h a 6 = some x ∧ shwn h x = true := by
  unfold lvB at e
  cases z : inm h a 6 with
  | none => rw [z] at e; exact absurd e Bool.false_ne_true
  | some x => rw [z] at e; exact ⟨x, rfl, e⟩
theorem lvB_no {h : Nat → Int32} {a : Nat} {sp : List Nat} (e : lvB h a = false) : spkS h sp a = sp := by
  unfold lvB at e
  rw [spkS]
  cases z : inm h a 6 with
  | none => rfl
  | some x =>
    rw [z] at e
    show (if shwn h x then _ else _) = _
    rw [if_neg (by rw [show shwn h x = false from e]; decide)]
theorem s_speakOf {M : Mm} {n a : Nat} {sp : List Nat} (hn : n ≤ 24) (mk : MK M (M 1) n) (hsz : M 0 5 = nI n) (ha : a < n) (hsp : rowAt M 23 22 1 sp) (hsb : ∀ y ∈ sp, y < 24) : Ct XSh mX7_speakOf [.ref 24, .int (nI a)] M (fun r M2 => r = none ∧ Sm22 M M2 ∧ rowAt M2 23 22 1 (spkS (M 1) sp a)) := by
  have sb : shB (shN M n) (M 1) n := shB_now mk hn
  have hlv : hB (shN M n) (optI (inm (M 1) a 6)) = lvB (M 1) a := by
    unfold lvB
    cases z : inm (M 1) a 6 with
    | none => exact hB_m1 _
    | some x =>
      have := inm_lt z
      exact sb.hB hn (show x < n by omega)
  show Ev _ _ 0 [.ref 24, .int (nI a), .null] [] M _
  refine ev_aload_n 1 dX7_speakOf_0 rfl rfl ?_
  refine ev_getR 4 dX7_speakOf_1 rfl flX7_10 rfl rfl ?_
  refine ev_iload_n 5 dX7_speakOf_4 rfl rfl ?_
  refine ev_cV1I (optI (inm (M 1) a 6)) M 8 dX7_speakOf_5 mlX7_206 moX2_liveAround rfl imX2_liveAround ⟨_, _, rfl, rfl, rfl⟩ (Nat.le_of_ble_eq_true rfl) (Nat.le_of_ble_eq_true rfl) rfl (by have z := s_X2_liveAround (X := XS0) (M := M) hn hsz (nI a); rwa [inB_nI (by omega), decide_eq_true ha, if_pos rfl, nI_clamp (by omega), inm_last mk hn ha (by omega)] at z) ?_
  refine ev_istore_n 9 _ dX7_speakOf_8 (by decide) rfl rfl rfl ?_
  refine ev_aload_n 10 dX7_speakOf_9 rfl rfl ?_
  refine ev_getR 13 dX7_speakOf_10 rfl flX7_10 rfl rfl ?_
  refine ev_cV0I _ M 16 dX7_speakOf_13 mlX7_94 moX2_shownNow rfl imX2_shownNow ⟨_, _, rfl, rfl, rfl⟩ (Nat.le_of_ble_eq_true rfl) (Nat.le_of_ble_eq_true rfl) rfl (s_X2_shownNow hn hsz) ?_
  refine ev_iload_n 17 dX7_speakOf_16 rfl rfl ?_
  refine ev_cS2I (bI (lvB (M 1) a)) M 20 dX7_speakOf_17 mlX7_98 moX7_holds rfl smX7_holds (Nat.le_of_ble_eq_true rfl) (Nat.le_of_ble_eq_true rfl) rfl (by have z := s_holds (Sh := XSh) (M := M) (shN M n) (optI (inm (M 1) a 6)); rwa [hlv] at z) ?_
  refine ev_if_eqB 23 31 dX7_speakOf_20 (by decide) rfl (fun c20 => ?_) (fun c20 => ?_)
  · exact ev_vret dX7_speakOf_31 rfl (⟨rfl, fun _ _ _ => rfl, by rw [lvB_no c20]; exact hsp⟩)
  · obtain ⟨x, hx, hs⟩ := lvB_some c20
    have hxa := inm_lt hx
    rw [hx]
    show Ev _ _ _ [.ref 24, .int (nI a), .int (nI x)] _ _ _
    refine ev_aload_n 24 dX7_speakOf_23 rfl rfl ?_
    refine ev_getR 27 dX7_speakOf_24 rfl flX7_60 rfl rfl ?_
    refine ev_iload_n 28 dX7_speakOf_27 rfl rfl ?_
    refine ev_cV1 31 dX7_speakOf_28 mlX7_209 moX4_add rfl imX4_add ⟨_, _, rfl, rfl, rfl⟩ (Nat.le_of_ble_eq_true rfl) (Nat.le_of_ble_eq_true rfl) rfl (s_X4_add hsp (by omega) hsb) ?_
    rintro r M2 ⟨rfl, h2, h3⟩
    exact ev_vret dX7_speakOf_31 rfl (⟨rfl, h2, by rw [spkS, hx]; show rowAt M2 23 22 1 (if shwn (M 1) x then _ else _); rw [if_pos hs]; exact h3⟩)
theorem s_opensTooMany {M : Mm} {n a : Nat} {v : Int32} (hn : n ≤ 24) (hsz : M 0 5 = nI n) (ho : opsOK (M 1) n) (hv : v = -1 ∨ ∃ c, c < n ∧ v = nI c) : Ct XSh mX7_opensTooMany [.ref 24, .int (nI a), .int v] M (RetI (bI (tooF (M 1) n a v)) M) := by
  show Ev _ _ 0 [.ref 24, .int (nI a), .int v, .null] [] M _
  refine ev_aload_n 1 dX7_opensTooMany_0 rfl rfl ?_
  refine ev_getR 4 dX7_opensTooMany_1 rfl flX7_10 rfl rfl ?_
  refine ev_iload_n 5 dX7_opensTooMany_4 rfl rfl ?_
  refine ev_cV1I _ M 8 dX7_opensTooMany_5 mlX7_189 moX2_openedBesides rfl imX2_openedBesides ⟨_, _, rfl, rfl, rfl⟩ (Nat.le_of_ble_eq_true rfl) (Nat.le_of_ble_eq_true rfl) rfl (s_X2_openedBesides (nI a) hn hsz) ?_
  refine ev_istore_n 9 _ dX7_opensTooMany_8 (by decide) rfl rfl rfl ?_
  refine ev_iload_n 10 dX7_opensTooMany_9 rfl rfl ?_
  refine ev_iconst 11 (-1) dX7_opensTooMany_10 (by decide) rfl ?_
  refine ev_icmp_eq 14 35 dX7_opensTooMany_11 (by decide) rfl (fun c11 => ?_) (fun c11 => ?_)
  · refine ev_iconst 36 (nI 0) dX7_opensTooMany_35 (by decide) rfl ?_
    exact ev_zret dX7_opensTooMany_36 rfl (Or.inl rfl) (⟨by rw [tooF, decide_eq_false (fun q => q c11)]; rfl, rfl⟩)
  · obtain ⟨c, hc, rfl⟩ : ∃ c, c < n ∧ v = nI c := by
      rcases hv with q | q
      · exact absurd q c11
      · exact q
    refine ev_iload_n 15 dX7_opensTooMany_14 rfl rfl ?_
    refine ev_iload_n 16 dX7_opensTooMany_15 rfl rfl ?_
    refine ev_cS2I (bI (opB (M 1) (nI a) c n)) M 19 dX7_opensTooMany_16 mlX7_98 moX7_holds rfl smX7_holds (Nat.le_of_ble_eq_true rfl) (Nat.le_of_ble_eq_true rfl) rfl (by have z := s_holds (Sh := XSh) (M := M) (opdF M (nI a) n) (nI c); rwa [hB_nI (by omega), opd_bit hn ho _ (by omega) n (Nat.le_refl _)] at z) ?_
    refine ev_if_neB 22 35 dX7_opensTooMany_19 (by decide) rfl (fun c19 => ?_) (fun c19 => ?_)
    · refine ev_iconst 36 (nI 0) dX7_opensTooMany_35 (by decide) rfl ?_
      exact ev_zret dX7_opensTooMany_36 rfl (Or.inl rfl) (⟨by rw [tooF, decide_eq_true (nI_m1 (show c < 2 ^ 31 by omega)), nI_clamp (show c < 2 ^ 31 by omega), c19]; rfl, rfl⟩)
    · refine ev_iload_n 23 dX7_opensTooMany_22 rfl rfl ?_
      refine ev_cS1I (nI (fb_ct (opC (M 1) (nI a) n) n)) M 26 dX7_opensTooMany_23 mlX7_179 moJ6_bitCount_0f7a4 rfl smJ6_bitCount_0f7a4 (Nat.le_of_ble_eq_true rfl) (Nat.le_of_ble_eq_true rfl) rfl (by have z := s_bitCount (Sh := XSh) (M := M) (opdF M (nI a) n); rwa [opn_cnt hn ho] at z) ?_
      refine ev_bipush 28 (nI 6) dX7_opensTooMany_26 (by decide) rfl ?_
      refine ev_icmp_ltN 31 35 dX7_opensTooMany_28 (by decide) rfl (by have := fb_ct_le (opC (M 1) (nI a) n) n; omega) (by omega) (fun c28 => ?_) (fun c28 => ?_)
      · refine ev_iconst 36 (nI 0) dX7_opensTooMany_35 (by decide) rfl ?_
        exact ev_zret dX7_opensTooMany_36 rfl (Or.inl rfl) (⟨by rw [tooF, decide_eq_true (nI_m1 (show c < 2 ^ 31 by omega)), nI_clamp (show c < 2 ^ 31 by omega), c19, decide_eq_false (show ¬ 6 ≤ fb_ct (opC (M 1) (nI a) n) n by omega)]; rfl, rfl⟩)
      · refine ev_iconst 32 (nI 1) dX7_opensTooMany_31 (by decide) rfl ?_
        refine ev_goto 36 dX7_opensTooMany_32 (by decide) ?_
        exact ev_zret dX7_opensTooMany_36 rfl (Or.inr rfl) (⟨by rw [tooF, decide_eq_true (nI_m1 (show c < 2 ^ 31 by omega)), nI_clamp (show c < 2 ^ 31 by omega), c19, decide_eq_true (show 6 ≤ fb_ct (opC (M 1) (nI a) n) n by omega)]; rfl, rfl⟩)
def fsB (h : Nat → Int32) (t : Nat) : Bool := match t with
  | 0 => false
  | a + 1 => shwn h a
theorem fsB_t {h : Nat → Int32} {t : Nat} (e : fsB h t = true) : lkS h t = t := by
  cases t with
  | zero => rfl
  | succ a => rw [lkS, if_pos (show shwn h a = true from e)]
theorem fsB_f {h : Nat → Int32} {t : Nat} (e : fsB h t = false) : lkS h t = 0 := by
  cases t with
  | zero => rfl
  | succ a => rw [lkS, if_neg (by rw [show shwn h a = false from e]; decide)]
def XC (M : Mm) (s : St) (L : Nat) : Prop := M 1 = s.1 ∧ M 0 5 = nI s.2.1 ∧ rowAt M 5 0 5 (ordF s.1 s.2.1) ∧ MK M s.1 s.2.1 ∧ rowAt M 23 22 1 s.2.2.2 ∧ M 24 7 = pm s.2.2.1 ∧ lk0 M L
theorem XC.xs {M M2 : Mm} {s : St} {L : Nat} (h : XC M s L) (e : Sm11 M M2) (r : rowAt M2 12 11 2 (arrF s.1 (ordF s.1 s.2.1))) : XS M2 s L := by
  obtain ⟨x1, x2, x3, x4, x6, x7, x8⟩ := h
  exact ⟨(e 1 (by decide) (by decide)).trans x1, by rw [e 0 (by decide) (by decide)]; exact x2, x3.of (e 5 (by decide) (by decide)) (by rw [e 0 (by decide) (by decide)]), mk_of (e 2 (by decide) (by decide)) (e 3 (by decide) (by decide)) (e 4 (by decide) (by decide)) x4, r, x6.of (e 23 (by decide) (by decide)) (by rw [e 22 (by decide) (by decide)]), by rw [e 24 (by decide) (by decide)]; exact x7, lk_of (e 13 (by decide) (by decide)) (e 18 (by decide) (by decide)) x8⟩
theorem xc_upd {M : Mm} {h : Nat → Int32} {n t L : Nat} {sp : List Nat} (hx : XS M (h, n, t, sp) L) {a w : Nat} (v : Int32) (hw : w < 18) (h10 : w ≠ 10) (h11 : w ≠ 11) : XC (mst M 1 (a * 18 + w) v) (upd h (a * 18 + w) v, n, t, sp) L := by
  obtain ⟨x1, x2, x3, x4, x5, x6, x7, x8⟩ := hx
  have e := ue_upd h (p := a) hw v
  have o : ∀ k, k ≠ 1 → mst M 1 (a * 18 + w) v k = M k := fun k hk => mst_other _ _ _ hk
  refine ⟨?_, by rw [o 0 (by decide)]; exact x2, ?_, ue_mk e h11 h10 (o 2 (by decide)) (o 3 (by decide)) (o 4 (by decide)) x4, x6.of (o 23 (by decide)) (by rw [o 22 (by decide)]), by rw [o 24 (by decide)]; exact x7, lk_of (o 13 (by decide)) (o 18 (by decide)) x8⟩
  · rw [mst_same]
    show upd (M 1) _ _ = upd h _ _
    rw [show M 1 = h from x1]
  · show rowAt _ 5 0 5 (ordF (upd h (a * 18 + w) v) n)
    rw [ue_ord e h11]
    exact x3.of (o 5 (by decide)) (by rw [o 0 (by decide)])
theorem XC.spk {M M2 : Mm} {h : Nat → Int32} {n t L : Nat} {sp sp2 : List Nat} (hx : XC M (h, n, t, sp) L) (s : Sm22 M M2) (r : rowAt M2 23 22 1 sp2) : XC M2 (h, n, t, sp2) L := by
  obtain ⟨x1, x2, x3, x4, x6, x7, x8⟩ := hx
  exact ⟨(s 1 (by decide) (by decide)).trans x1, by rw [s 0 (by decide) (by decide)]; exact x2, x3.of (s 5 (by decide) (by decide)) (by rw [s 0 (by decide) (by decide)]), mk_of (s 2 (by decide) (by decide)) (s 3 (by decide) (by decide)) (s 4 (by decide) (by decide)) x4, r, by rw [s 24 (by decide) (by decide)]; exact x7, lk_of (s 13 (by decide) (by decide)) (s 18 (by decide) (by decide)) x8⟩
theorem s_change_54 {M : Mm} {n t L a b : Nat} {sp : List Nat} {v was : Int32} (hn : n ≤ 24) (hb : b < 10) (ht2 : t ≤ n) (hx : XS M (M 1, n, t, sp) L) : Ev XSh mX7_change 54 [.ref 24, .int (nI a), .int (nI b), .int v, .int was] [] M (XP (was, (M 1, n, if b = 5 then lkS (M 1) t else t, sp)) L) := by
  have hsz : M 0 5 = nI n := hx.2.1
  have mk : MK M (M 1) n := hx.2.2.2.1
  have hf : M 24 7 = pm t := hx.2.2.2.2.2.2.1
  have sb : shB (shN M n) (M 1) n := shB_now mk hn
  have hfb : hB (shN M n) (pm t) = fsB (M 1) t := by
    cases t with
    | zero => rw [pm_0]; exact hB_m1 _
    | succ k => rw [pm_s]; exact sb.hB hn (by omega)
  refine ev_iload_n 55 dX7_change_54 rfl rfl ?_
  refine ev_iconst 56 (nI 5) dX7_change_55 (by decide) rfl ?_
  refine ev_icmp_neN 59 81 dX7_change_56 (by decide) rfl (by omega) (by omega) (fun c56 => ?_) (fun c56 => ?_)
  · refine ev_iload 83 dX7_change_81 rfl rfl ?_
    exact ev_iret dX7_change_83 rfl (xp_sm (by rw [if_neg c56]) hx)
  · refine ev_aload_n 60 dX7_change_59 rfl rfl ?_
    refine ev_getR 63 dX7_change_60 rfl flX7_10 rfl rfl ?_
    refine ev_cV0I _ M 66 dX7_change_63 mlX7_94 moX2_shownNow rfl imX2_shownNow ⟨_, _, rfl, rfl, rfl⟩ (Nat.le_of_ble_eq_true rfl) (Nat.le_of_ble_eq_true rfl) rfl (s_X2_shownNow hn hsz) ?_
    refine ev_aload_n 67 dX7_change_66 rfl rfl ?_
    refine ev_getIv 70 (pm t) dX7_change_67 rfl flX7_64 rfl rfl hf ?_
    refine ev_cS2I (bI (fsB (M 1) t)) M 73 dX7_change_70 mlX7_98 moX7_holds rfl smX7_holds (Nat.le_of_ble_eq_true rfl) (Nat.le_of_ble_eq_true rfl) rfl (by have z := s_holds (Sh := XSh) (M := M) (shN M n) (pm t); rwa [hfb] at z) ?_
    refine ev_if_neB 76 81 dX7_change_73 (by decide) rfl (fun c73 => ?_) (fun c73 => ?_)
    · refine ev_iload 83 dX7_change_81 rfl rfl ?_
      exact ev_iret dX7_change_83 rfl (xp_sm (by rw [if_pos c56, fsB_t c73]) hx)
    · refine ev_aload_n 77 dX7_change_76 rfl rfl ?_
      refine ev_iconst 78 (-1) dX7_change_77 (by decide) rfl ?_
      refine ev_putI 81 dX7_change_78 rfl flX7_64 fiX7_7 rfl rfl ?_
      refine ev_iload 83 dX7_change_81 rfl rfl ?_
      exact ev_iret dX7_change_83 rfl (xp_sm (by rw [if_pos c56, fsB_f c73]) (xs_foc hx 0 pm_0.symm))
theorem s_change_41 {M : Mm} {n t L a b : Nat} {sp : List Nat} {v was : Int32} (hn0 : 0 < n) (hn : n ≤ 24) (hb : b < 10) (ht : TR (M 1) n) (hpl : ∀ y, y < n → plOK (M 1) y) (ht2 : t ≤ n) (hc : XC M (M 1, n, t, sp) L) (hs : b ≠ 6 → rowAt M 12 11 2 (arrF (M 1) (ordF (M 1) n))) : Ev XSh mX7_change 41 [.ref 24, .int (nI a), .int (nI b), .int v, .int was] [] M (XP (was, (M 1, n, if b = 5 then lkS (M 1) t else t, sp)) L) := by
  obtain ⟨-, -, o3⟩ := ord_facts n hn0 (by omega) ht
  have ob : ∀ x ∈ ordF (M 1) n, x < 24 := fun x hx => by have := o3 x hx; omega
  have hpo : ∀ x ∈ ordF (M 1) n, plOK (M 1) x := fun x hx => hpl x (o3 x hx)
  refine ev_iload_n 42 dX7_change_41 rfl rfl ?_
  refine ev_bipush 44 (nI 6) dX7_change_42 (by decide) rfl ?_
  refine ev_icmp_neN 47 54 dX7_change_44 (by decide) rfl (by omega) (by omega) (fun c44 => ?_) (fun c44 => ?_)
  · exact s_change_54 hn hb ht2 (hc.xs (fun _ _ _ => rfl) (hs c44))
  · refine ev_aload_n 48 dX7_change_47 rfl rfl ?_
    refine ev_getR 51 dX7_change_48 rfl flX7_35 rfl rfl ?_
    refine ev_cV0 54 dX7_change_51 mlX7_80 moX5_arrange rfl imX5_arrange ⟨_, _, rfl, rfl, rfl⟩ (Nat.le_of_ble_eq_true rfl) (Nat.le_of_ble_eq_true rfl) rfl (s_X5_arrange (M := M) hc.2.2.1 ob hpo) ?_
    rintro r M2 ⟨rfl, s2, r2⟩
    have e2 : M2 1 = M 1 := s2 1 (by decide) (by decide)
    have z := s_change_54 (M := M2) (a := a) (b := b) (v := v) (was := was) (n := n) (t := t) (sp := sp) (L := L) hn hb ht2 (by rw [e2]; exact hc.xs s2 r2)
    rw [e2] at z
    exact z
theorem x_change {M : Mm} {n t L : Nat} {sp : List Nat} (g : GS (M 1, n, t, sp)) (hx : XS M (M 1, n, t, sp) L) {a b : Nat} {v : Int32} (ha : a < n) (hb : b < 10) (ok : okW n b v) : Ct XSh mX7_change [.ref 24, .int (nI a), .int (nI b), .int v] M (XP (M 1 (a * 18 + b), chgS (M 1, n, t, sp) a b v) L) := by
  have hn0 : 0 < n := g.1.1.1
  have hn : n ≤ 24 := g.1.1.2
  have ht : TR (M 1) n := g.1.2.1
  have hlab : ∀ a, a < n → labOK (M 1) n a := g.1.2.2.1
  have hpl : ∀ y, y < n → plOK (M 1) y := g.1.2.2.2.1
  have hco : ∀ a, a < n → colOK (M 1) a := g.1.2.2.2.2.1
  have h01 : ∀ x, x < n → h01 (M 1) x := g.1.2.2.2.2.2.1
  have ho : opsOK (M 1) n := g.1.2.2.2.2.2.2.1
  have hz : ∀ j, n * 18 ≤ j → M 1 j = 0 := g.1.2.2.2.2.2.2.2
  have h6 : (dsF (M 1) n n).length ≤ 6 := g.2.1
  have ht2 : t ≤ n := g.2.2.1
  have hfs : ∀ a, t = a + 1 → shwn (M 1) a = true := g.2.2.2.1
  have hnd : sp.Nodup := g.2.2.2.2.1
  have hsb : ∀ y ∈ sp, y < 24 := g.2.2.2.2.2
  have hsz : M 0 5 = nI n := hx.2.1
  have hor : rowAt M 5 0 5 (ordF (M 1) n) := hx.2.2.1
  have mk : MK M (M 1) n := hx.2.2.2.1
  have hst : rowAt M 12 11 2 (arrF (M 1) (ordF (M 1) n)) := hx.2.2.2.2.1
  have hsp : rowAt M 23 22 1 sp := hx.2.2.2.2.2.1
  have hf : M 24 7 = pm t := hx.2.2.2.2.2.2.1
  have hlk : lk0 M L := hx.2.2.2.2.2.2.2
  obtain ⟨o1, o2, o3⟩ := ord_facts n hn0 (by omega) ht
  have ob : ∀ x ∈ ordF (M 1) n, x < 24 := fun x hx => by have := o3 x hx; omega
  have ob2 : ∀ x ∈ ordF (M 1) n, x < (ordF (M 1) n).length := fun x hx => by rw [o1]; exact o3 x hx
  have ab : ∀ x ∈ arrF (M 1) (ordF (M 1) n), x < 24 := fun x hx => ob x (arrF_mem.mp hx).1
  have sb : shB (shN M n) (M 1) n := shB_now mk hn
  have gu := g0_upd g.1 ha ok
  have htu : TR (upd (M 1) (a * 18 + b) v) n := gu.2.1
  have hpu : ∀ y, y < n → plOK (upd (M 1) (a * 18 + b) v) y := gu.2.2.2.1
  have hc : XC (mst M 1 (a * 18 + b) v) (upd (M 1) (a * 18 + b) v, n, t, sp) L := xc_upd hx v ok.1 ok.2.1 ok.2.2.1
  have hsu : b ≠ 6 → rowAt (mst M 1 (a * 18 + b) v) 12 11 2 (arrF (upd (M 1) (a * 18 + b) v) (ordF (upd (M 1) (a * 18 + b) v) n)) := fun h6 => by
    have e := ue_upd (M 1) (p := a) ok.1 v
    rw [ue_ord e ok.2.2.1, ue_arr e h6 ok.2.1]
    exact hst.of (mst_other _ _ _ (by decide)) (by rw [mst_other _ _ _ (by decide)])
  have elk : (if b = 5 then lkS (upd (M 1) (a * 18 + b) v) t else t) = lkS (upd (M 1) (a * 18 + b) v) t := by
    split
    · rfl
    · rename_i c
      exact (lk_same (fun k e => by rw [ue_shwn (ue_upd (M 1) (p := a) ok.1 v) ok.2.2.1 c]; exact hfs k e)).symm
  have hch : chgS (M 1, n, t, sp) a b v = (upd (M 1) (a * 18 + b) v, n, (if b = 5 then lkS (upd (M 1) (a * 18 + b) v) t else t), if M 1 (a * 18 + b) ≠ v ∧ (b = 0 ∨ b = 5) then spkS (upd (M 1) (a * 18 + b) v) sp a else sp) := by
    rw [elk]
    rfl
  show Ev _ _ 0 [.ref 24, .int (nI a), .int (nI b), .int v, .null] [] M _
  refine ev_aload_n 1 dX7_change_0 rfl rfl ?_
  refine ev_getR 4 dX7_change_1 rfl flX7_10 rfl rfl ?_
  refine ev_iload_n 5 dX7_change_4 rfl rfl ?_
  refine ev_iload_n 6 dX7_change_5 rfl rfl ?_
  refine ev_cV2I (M 1 (a * 18 + b)) M 9 dX7_change_6 mlX7_101 moX2_get rfl imX2_get ⟨_, _, rfl, rfl, rfl⟩ (Nat.le_of_ble_eq_true rfl) (Nat.le_of_ble_eq_true rfl) rfl (s_X2_get (a := a) (b := b) (by omega) (by omega)) ?_
  refine ev_istore 11 _ dX7_change_9 (by decide) rfl rfl rfl ?_
  refine ev_aload_n 12 dX7_change_11 rfl rfl ?_
  refine ev_getR 15 dX7_change_12 rfl flX7_10 rfl rfl ?_
  refine ev_iload_n 16 dX7_change_15 rfl rfl ?_
  refine ev_iload_n 17 dX7_change_16 rfl rfl ?_
  refine ev_iload_n 18 dX7_change_17 rfl rfl ?_
  refine ev_cV3V _ 21 dX7_change_18 mlX7_107 moX2_put rfl imX2_put ⟨_, _, rfl, rfl, rfl⟩ (Nat.le_of_ble_eq_true rfl) (Nat.le_of_ble_eq_true rfl) rfl (s_X2_put (a := a) (b := b) (by omega) (by omega)) ?_
  refine ev_iload 23 dX7_change_21 rfl rfl ?_
  refine ev_iload_n 24 dX7_change_23 rfl rfl ?_
  refine ev_icmp_eq 27 41 dX7_change_24 (by decide) rfl (fun c24 => ?_) (fun c24 => ?_)
  · have z := s_change_41 (M := mst M 1 (a * 18 + b) v) (n := n) (t := t) (L := L) (sp := sp) (a := a) (b := b) (v := v) (was := M 1 (a * 18 + b)) hn0 hn hb (by rw [mst_same]; exact htu) (by rw [mst_same]; exact hpu) ht2 (by rw [mst_same]; exact hc) (fun h6 => by rw [mst_same]; exact hsu h6)
    rw [mst_same] at z
    rw [hch, if_neg (show ¬ (M 1 (a * 18 + b) ≠ v ∧ (b = 0 ∨ b = 5)) from (fun z => z.1 c24))]
    exact z
  · refine ev_iload_n 28 dX7_change_27 rfl rfl ?_
    refine ev_if_eqN 31 36 dX7_change_28 (by decide) rfl (by omega) (fun c28 => ?_) (fun c28 => ?_)
    · refine ev_aload_n 37 dX7_change_36 rfl rfl ?_
      refine ev_iload_n 38 dX7_change_37 rfl rfl ?_
      refine ev_cV1 41 dX7_change_38 mlX7_200 moX7_speakOf rfl imX7_speakOf ⟨_, _, rfl, rfl, rfl⟩ (Nat.le_of_ble_eq_true rfl) (Nat.le_of_ble_eq_true rfl) rfl (s_speakOf (M := mst M 1 (a * 18 + b) v) (n := n) (a := a) hn (by rw [mst_same]; exact hc.2.2.2.1) (by rw [mst_other _ _ _ (by decide)]; exact hsz) ha hc.2.2.2.2.1 hsb) ?_
      rintro r M2 ⟨rfl, h2, h3⟩
      rw [mst_same] at h3
      have e2 : M2 1 = upd (M 1) (a * 18 + b) v := by rw [h2 1 (by decide) (by decide), mst_same]
      have z := s_change_41 (M := M2) (n := n) (t := t) (L := L) (sp := spkS (upd (M 1) (a * 18 + b) v) sp a) (a := a) (b := b) (v := v) (was := M 1 (a * 18 + b)) hn0 hn hb (by rw [e2]; exact htu) (by rw [e2]; exact hpu) ht2 (by rw [e2]; exact hc.spk h2 h3) (fun h6 => by rw [e2]; exact (hsu h6).of (h2 12 (by decide) (by decide)) (by rw [h2 11 (by decide) (by decide)]))
      rw [e2] at z
      rw [hch, if_pos (show M 1 (a * 18 + b) ≠ v ∧ (b = 0 ∨ b = 5) from ⟨c24, Or.inl c28⟩)]
      exact z
    · refine ev_iload_n 32 dX7_change_31 rfl rfl ?_
      refine ev_iconst 33 (nI 5) dX7_change_32 (by decide) rfl ?_
      refine ev_icmp_neN 36 41 dX7_change_33 (by decide) rfl (by omega) (by omega) (fun c33 => ?_) (fun c33 => ?_)
      · have z := s_change_41 (M := mst M 1 (a * 18 + b) v) (n := n) (t := t) (L := L) (sp := sp) (a := a) (b := b) (v := v) (was := M 1 (a * 18 + b)) hn0 hn hb (by rw [mst_same]; exact htu) (by rw [mst_same]; exact hpu) ht2 (by rw [mst_same]; exact hc) (fun h6 => by rw [mst_same]; exact hsu h6)
        rw [mst_same] at z
        rw [hch, if_neg (show ¬ (M 1 (a * 18 + b) ≠ v ∧ (b = 0 ∨ b = 5)) from (fun z => by have := z.2; omega))]
        exact z
      · refine ev_aload_n 37 dX7_change_36 rfl rfl ?_
        refine ev_iload_n 38 dX7_change_37 rfl rfl ?_
        refine ev_cV1 41 dX7_change_38 mlX7_200 moX7_speakOf rfl imX7_speakOf ⟨_, _, rfl, rfl, rfl⟩ (Nat.le_of_ble_eq_true rfl) (Nat.le_of_ble_eq_true rfl) rfl (s_speakOf (M := mst M 1 (a * 18 + b) v) (n := n) (a := a) hn (by rw [mst_same]; exact hc.2.2.2.1) (by rw [mst_other _ _ _ (by decide)]; exact hsz) ha hc.2.2.2.2.1 hsb) ?_
        rintro r M2 ⟨rfl, h2, h3⟩
        rw [mst_same] at h3
        have e2 : M2 1 = upd (M 1) (a * 18 + b) v := by rw [h2 1 (by decide) (by decide), mst_same]
        have z := s_change_41 (M := M2) (n := n) (t := t) (L := L) (sp := spkS (upd (M 1) (a * 18 + b) v) sp a) (a := a) (b := b) (v := v) (was := M 1 (a * 18 + b)) hn0 hn hb (by rw [e2]; exact htu) (by rw [e2]; exact hpu) ht2 (by rw [e2]; exact hc.spk h2 h3) (fun h6 => by rw [e2]; exact (hsu h6).of (h2 12 (by decide) (by decide)) (by rw [h2 11 (by decide) (by decide)]))
        rw [e2] at z
        rw [hch, if_pos (show M 1 (a * 18 + b) ≠ v ∧ (b = 0 ∨ b = 5) from ⟨c24, Or.inr c33⟩)]
        exact z
theorem x_set {M : Mm} {n t L : Nat} {sp : List Nat} (g : GS (M 1, n, t, sp)) (hx : XS M (M 1, n, t, sp) L) (x w v : Int32) : Ct XSh mX7_set [.ref 24, .int x, .int w, .int v] M (XP (spSet (M 1) n t sp x w v) L) := by
  have hn0 : 0 < n := g.1.1.1
  have hn : n ≤ 24 := g.1.1.2
  have ht : TR (M 1) n := g.1.2.1
  have hlab : ∀ a, a < n → labOK (M 1) n a := g.1.2.2.1
  have hpl : ∀ y, y < n → plOK (M 1) y := g.1.2.2.2.1
  have hco : ∀ a, a < n → colOK (M 1) a := g.1.2.2.2.2.1
  have h01 : ∀ x, x < n → h01 (M 1) x := g.1.2.2.2.2.2.1
  have ho : opsOK (M 1) n := g.1.2.2.2.2.2.2.1
  have hz : ∀ j, n * 18 ≤ j → M 1 j = 0 := g.1.2.2.2.2.2.2.2
  have h6 : (dsF (M 1) n n).length ≤ 6 := g.2.1
  have ht2 : t ≤ n := g.2.2.1
  have hfs : ∀ a, t = a + 1 → shwn (M 1) a = true := g.2.2.2.1
  have hnd : sp.Nodup := g.2.2.2.2.1
  have hsb : ∀ y ∈ sp, y < 24 := g.2.2.2.2.2
  have hsz : M 0 5 = nI n := hx.2.1
  have hor : rowAt M 5 0 5 (ordF (M 1) n) := hx.2.2.1
  have mk : MK M (M 1) n := hx.2.2.2.1
  have hst : rowAt M 12 11 2 (arrF (M 1) (ordF (M 1) n)) := hx.2.2.2.2.1
  have hsp : rowAt M 23 22 1 sp := hx.2.2.2.2.2.1
  have hf : M 24 7 = pm t := hx.2.2.2.2.2.2.1
  have hlk : lk0 M L := hx.2.2.2.2.2.2.2
  obtain ⟨o1, o2, o3⟩ := ord_facts n hn0 (by omega) ht
  have ob : ∀ x ∈ ordF (M 1) n, x < 24 := fun x hx => by have := o3 x hx; omega
  have ob2 : ∀ x ∈ ordF (M 1) n, x < (ordF (M 1) n).length := fun x hx => by rw [o1]; exact o3 x hx
  have ab : ∀ x ∈ arrF (M 1) (ordF (M 1) n), x < 24 := fun x hx => ob x (arrF_mem.mp hx).1
  have sb : shB (shN M n) (M 1) n := shB_now mk hn
  show Ev _ _ 0 [.ref 24, .int x, .int w, .int v] [] M _
  refine ev_aload_n 1 dX7_set_0 rfl rfl ?_
  refine ev_getR 4 dX7_set_1 rfl flX7_10 rfl rfl ?_
  refine ev_iload_n 5 dX7_set_4 rfl rfl ?_
  refine ev_cV1I _ M 8 dX7_set_5 mlX7_68 moX2_has rfl imX2_has ⟨_, _, rfl, rfl, rfl⟩ (Nat.le_of_ble_eq_true rfl) (Nat.le_of_ble_eq_true rfl) rfl (s_X2_has hn hsz x) ?_
  refine ev_if_neB 11 14 dX7_set_8 (by decide) rfl (fun c8 => ?_) (fun c8 => ?_)
  · obtain ⟨a, ha, rfl⟩ := inB_of c8 (by omega)
    refine ev_aload_n 15 dX7_set_14 rfl rfl ?_
    refine ev_getR 18 dX7_set_15 rfl flX7_10 rfl rfl ?_
    refine ev_iload_n 19 dX7_set_18 rfl rfl ?_
    refine ev_iload_n 20 dX7_set_19 rfl rfl ?_
    refine ev_cV2I _ M 23 dX7_set_20 mlX7_83 moX2_allows rfl imX2_allows ⟨_, _, rfl, rfl, rfl⟩ (Nat.le_of_ble_eq_true rfl) (Nat.le_of_ble_eq_true rfl) rfl (s_X2_allows hn hsz w v) ?_
    refine ev_if_neB 26 29 dX7_set_23 (by decide) rfl (fun c23 => ?_) (fun c23 => ?_)
    · obtain ⟨b, hb, rfl⟩ : ∃ b, b < 10 ∧ w = nI b := by
        by_cases q : inB w 10 = true
        · exact inB_of q (by omega)
        · rw [alw_out q] at c23; exact absurd c23 Bool.false_ne_true
      refine ev_iload_n 30 dX7_set_29 rfl rfl ?_
      refine ev_if_neN 33 41 dX7_set_30 (by decide) rfl (by omega) (fun c30 => ?_) (fun c30 => ?_)
      · refine ev_iload_n 42 dX7_set_41 rfl rfl ?_
        refine ev_bipush 44 (nI 7) dX7_set_42 (by decide) rfl ?_
        refine ev_icmp_neN 47 59 dX7_set_44 (by decide) rfl (by omega) (by omega) (fun c44 => ?_) (fun c44 => ?_)
        · refine ev_aload_n 60 dX7_set_59 rfl rfl ?_
          refine ev_iload_n 61 dX7_set_60 rfl rfl ?_
          refine ev_iload_n 62 dX7_set_61 rfl rfl ?_
          refine ev_iload_n 63 dX7_set_62 rfl rfl ?_
          refine ev_cV3 66 dX7_set_63 mlX7_90 moX7_change rfl imX7_change ⟨_, _, rfl, rfl, rfl⟩ (Nat.le_of_ble_eq_true rfl) (Nat.le_of_ble_eq_true rfl) rfl (x_change g hx ha hb (alw_ok hn hb c23)) ?_
          rintro r M2 ⟨rfl, h2⟩
          exact ev_iret dX7_set_66 rfl (by rw [spSet, if_neg (by rw [c8]; decide), if_neg (by rw [c23]; decide), if_neg (fun z => c30 ((nI_z (by omega)).mp z.1)), if_neg (fun z => c44 ((nI_eq (by omega) (by omega)).mp z.1)), nI_clamp (show a < 2 ^ 31 by omega), nI_clamp (show b < 2 ^ 31 by omega)]; exact ⟨rfl, h2⟩)
        · have hv7 : v = -1 ∨ ∃ c, c < n ∧ v = nI c := by
            rcases (alw_ok hn hb c23).2.2.2.2.2.2.2 c44 with q | ⟨c, _, h2, h3⟩
            · exact Or.inl q
            · exact Or.inr ⟨c, h2, h3⟩
          refine ev_aload_n 48 dX7_set_47 rfl rfl ?_
          refine ev_iload_n 49 dX7_set_48 rfl rfl ?_
          refine ev_iload_n 50 dX7_set_49 rfl rfl ?_
          refine ev_cV2I _ M 53 dX7_set_50 mlX7_87 moX7_opensTooMany rfl imX7_opensTooMany ⟨_, _, rfl, rfl, rfl⟩ (Nat.le_of_ble_eq_true rfl) (Nat.le_of_ble_eq_true rfl) rfl (s_opensTooMany hn hsz ho hv7) ?_
          refine ev_if_eqB 56 59 dX7_set_53 (by decide) rfl (fun c53 => ?_) (fun c53 => ?_)
          · refine ev_aload_n 60 dX7_set_59 rfl rfl ?_
            refine ev_iload_n 61 dX7_set_60 rfl rfl ?_
            refine ev_iload_n 62 dX7_set_61 rfl rfl ?_
            refine ev_iload_n 63 dX7_set_62 rfl rfl ?_
            refine ev_cV3 66 dX7_set_63 mlX7_90 moX7_change rfl imX7_change ⟨_, _, rfl, rfl, rfl⟩ (Nat.le_of_ble_eq_true rfl) (Nat.le_of_ble_eq_true rfl) rfl (x_change g hx ha hb (alw_ok hn hb c23)) ?_
            rintro r M2 ⟨rfl, h2⟩
            exact ev_iret dX7_set_66 rfl (by rw [spSet, if_neg (by rw [c8]; decide), if_neg (by rw [c23]; decide), if_neg (fun z => c30 ((nI_z (by omega)).mp z.1)), if_neg (fun z => by have y := z.2; rw [nI_clamp (show a < 2 ^ 31 by omega), c53] at y; exact absurd y Bool.false_ne_true), nI_clamp (show a < 2 ^ 31 by omega), nI_clamp (show b < 2 ^ 31 by omega)]; exact ⟨rfl, h2⟩)
          · refine ev_bipush 58 (-104) dX7_set_56 (by decide) rfl ?_
            exact ev_iret dX7_set_58 rfl (xp_sm (by rw [spSet, if_neg (by rw [c8]; decide), if_neg (by rw [c23]; decide), if_neg (fun z => c30 ((nI_z (by omega)).mp z.1)), if_pos ⟨by rw [c44], by rw [nI_clamp (show a < 2 ^ 31 by omega)]; exact c53⟩]) hx)
      · refine ev_iload_n 34 dX7_set_33 rfl rfl ?_
        refine ev_iconst 35 (nI 5) dX7_set_34 (by decide) rfl ?_
        refine ev_icmp_neN 38 41 dX7_set_35 (by decide) rfl (by omega) (by omega) (fun c35 => ?_) (fun c35 => ?_)
        · refine ev_iload_n 42 dX7_set_41 rfl rfl ?_
          refine ev_bipush 44 (nI 7) dX7_set_42 (by decide) rfl ?_
          refine ev_icmp_neN 47 59 dX7_set_44 (by decide) rfl (by omega) (by omega) (fun c44 => ?_) (fun c44 => ?_)
          · refine ev_aload_n 60 dX7_set_59 rfl rfl ?_
            refine ev_iload_n 61 dX7_set_60 rfl rfl ?_
            refine ev_iload_n 62 dX7_set_61 rfl rfl ?_
            refine ev_iload_n 63 dX7_set_62 rfl rfl ?_
            refine ev_cV3 66 dX7_set_63 mlX7_90 moX7_change rfl imX7_change ⟨_, _, rfl, rfl, rfl⟩ (Nat.le_of_ble_eq_true rfl) (Nat.le_of_ble_eq_true rfl) rfl (x_change g hx ha hb (alw_ok hn hb c23)) ?_
            rintro r M2 ⟨rfl, h2⟩
            exact ev_iret dX7_set_66 rfl (by rw [spSet, if_neg (by rw [c8]; decide), if_neg (by rw [c23]; decide), if_neg (fun z => c35 ((nI_eq (by omega) (by omega)).mp z.2)), if_neg (fun z => c44 ((nI_eq (by omega) (by omega)).mp z.1)), nI_clamp (show a < 2 ^ 31 by omega), nI_clamp (show b < 2 ^ 31 by omega)]; exact ⟨rfl, h2⟩)
          · have hv7 : v = -1 ∨ ∃ c, c < n ∧ v = nI c := by
              rcases (alw_ok hn hb c23).2.2.2.2.2.2.2 c44 with q | ⟨c, _, h2, h3⟩
              · exact Or.inl q
              · exact Or.inr ⟨c, h2, h3⟩
            refine ev_aload_n 48 dX7_set_47 rfl rfl ?_
            refine ev_iload_n 49 dX7_set_48 rfl rfl ?_
            refine ev_iload_n 50 dX7_set_49 rfl rfl ?_
            refine ev_cV2I _ M 53 dX7_set_50 mlX7_87 moX7_opensTooMany rfl imX7_opensTooMany ⟨_, _, rfl, rfl, rfl⟩ (Nat.le_of_ble_eq_true rfl) (Nat.le_of_ble_eq_true rfl) rfl (s_opensTooMany hn hsz ho hv7) ?_
            refine ev_if_eqB 56 59 dX7_set_53 (by decide) rfl (fun c53 => ?_) (fun c53 => ?_)
            · refine ev_aload_n 60 dX7_set_59 rfl rfl ?_
              refine ev_iload_n 61 dX7_set_60 rfl rfl ?_
              refine ev_iload_n 62 dX7_set_61 rfl rfl ?_
              refine ev_iload_n 63 dX7_set_62 rfl rfl ?_
              refine ev_cV3 66 dX7_set_63 mlX7_90 moX7_change rfl imX7_change ⟨_, _, rfl, rfl, rfl⟩ (Nat.le_of_ble_eq_true rfl) (Nat.le_of_ble_eq_true rfl) rfl (x_change g hx ha hb (alw_ok hn hb c23)) ?_
              rintro r M2 ⟨rfl, h2⟩
              exact ev_iret dX7_set_66 rfl (by rw [spSet, if_neg (by rw [c8]; decide), if_neg (by rw [c23]; decide), if_neg (fun z => c35 ((nI_eq (by omega) (by omega)).mp z.2)), if_neg (fun z => by have y := z.2; rw [nI_clamp (show a < 2 ^ 31 by omega), c53] at y; exact absurd y Bool.false_ne_true), nI_clamp (show a < 2 ^ 31 by omega), nI_clamp (show b < 2 ^ 31 by omega)]; exact ⟨rfl, h2⟩)
            · refine ev_bipush 58 (-104) dX7_set_56 (by decide) rfl ?_
              exact ev_iret dX7_set_58 rfl (xp_sm (by rw [spSet, if_neg (by rw [c8]; decide), if_neg (by rw [c23]; decide), if_neg (fun z => c35 ((nI_eq (by omega) (by omega)).mp z.2)), if_pos ⟨by rw [c44], by rw [nI_clamp (show a < 2 ^ 31 by omega)]; exact c53⟩]) hx)
        · refine ev_bipush 40 (-103) dX7_set_38 (by decide) rfl ?_
          exact ev_iret dX7_set_40 rfl (xp_sm (by rw [spSet, if_neg (by rw [c8]; decide), if_neg (by rw [c23]; decide), if_pos ⟨by rw [c30]; rfl, by rw [c35]⟩]) hx)
    · refine ev_bipush 28 (-102) dX7_set_26 (by decide) rfl ?_
      exact ev_iret dX7_set_28 rfl (xp_sm (by rw [spSet, if_neg (by rw [c8]; decide), if_pos c23]) hx)
  · refine ev_bipush 13 (-101) dX7_set_11 (by decide) rfl ?_
    exact ev_iret dX7_set_13 rfl (xp_sm (by rw [spSet, if_pos c8]) hx)
theorem chg_tgl {h : Nat → Int32} {n t c : Nat} {sp : List Nat} (h0 : h01 h c) : chgS (h, n, t, sp) c 5 (nI 1 - h (c * 18 + 5)) = (tgl h c, n, lkS (tgl h c) t, spkS (tgl h c) sp c) := by
  unfold chgS
  dsimp only
  rw [if_pos ⟨by rcases h0 with e | e <;> (rw [e]; decide), Or.inr rfl⟩]
  rfl
theorem ok_tgl {h : Nat → Int32} {n c : Nat} (h0 : h01 h c) : okW n 5 (nI 1 - h (c * 18 + 5)) := by
  refine ⟨by omega, by omega, by omega, by omega, by omega, by omega, fun _ => ?_, by omega⟩
  rcases h0 with e | e
  · right; rw [e]; decide
  · left; rw [e]; decide
theorem x_enter {M : Mm} {n t L : Nat} {sp : List Nat} (g : GS (M 1, n, t, sp)) (hx : XS M (M 1, n, t, sp) L) : Ct XSh mX7_enter [.ref 24] M (fun r M2 => r = none ∧ ∃ L2, L2 ≤ L + 1 ∧ XS M2 (spPress (M 1) n t sp (nI 2)).2 L2) := by
  have hn0 : 0 < n := g.1.1.1
  have hn : n ≤ 24 := g.1.1.2
  have ht : TR (M 1) n := g.1.2.1
  have hlab : ∀ a, a < n → labOK (M 1) n a := g.1.2.2.1
  have hpl : ∀ y, y < n → plOK (M 1) y := g.1.2.2.2.1
  have hco : ∀ a, a < n → colOK (M 1) a := g.1.2.2.2.2.1
  have h01 : ∀ x, x < n → h01 (M 1) x := g.1.2.2.2.2.2.1
  have ho : opsOK (M 1) n := g.1.2.2.2.2.2.2.1
  have hz : ∀ j, n * 18 ≤ j → M 1 j = 0 := g.1.2.2.2.2.2.2.2
  have h6 : (dsF (M 1) n n).length ≤ 6 := g.2.1
  have ht2 : t ≤ n := g.2.2.1
  have hfs : ∀ a, t = a + 1 → shwn (M 1) a = true := g.2.2.2.1
  have hnd : sp.Nodup := g.2.2.2.2.1
  have hsb : ∀ y ∈ sp, y < 24 := g.2.2.2.2.2
  have hsz : M 0 5 = nI n := hx.2.1
  have hor : rowAt M 5 0 5 (ordF (M 1) n) := hx.2.2.1
  have mk : MK M (M 1) n := hx.2.2.2.1
  have hst : rowAt M 12 11 2 (arrF (M 1) (ordF (M 1) n)) := hx.2.2.2.2.1
  have hsp : rowAt M 23 22 1 sp := hx.2.2.2.2.2.1
  have hf : M 24 7 = pm t := hx.2.2.2.2.2.2.1
  have hlk : lk0 M L := hx.2.2.2.2.2.2.2
  obtain ⟨o1, o2, o3⟩ := ord_facts n hn0 (by omega) ht
  have ob : ∀ x ∈ ordF (M 1) n, x < 24 := fun x hx => by have := o3 x hx; omega
  have ob2 : ∀ x ∈ ordF (M 1) n, x < (ordF (M 1) n).length := fun x hx => by rw [o1]; exact o3 x hx
  have ab : ∀ x ∈ arrF (M 1) (ordF (M 1) n), x < 24 := fun x hx => ob x (arrF_mem.mp hx).1
  have sb : shB (shN M n) (M 1) n := shB_now mk hn
  have hp2 : spPress (M 1) n t sp (nI 2) = (match entP (M 1) t with
    | none => (pm t, (M 1, n, t, sp))
    | some c => (pm (lkS (tgl (M 1) c) t), (tgl (M 1) c, n, lkS (tgl (M 1) c) t, spkS (tgl (M 1) c) sp c))) := by
    rw [spPress, if_neg (by decide), if_pos rfl]
    cases entP (M 1) t <;> rfl
  show Ev _ _ 0 [.ref 24, .null] [] M _
  refine ev_aload_n 1 dX7_enter_0 rfl rfl ?_
  refine ev_getR 4 dX7_enter_1 rfl flX7_10 rfl rfl ?_
  refine ev_aload_n 5 dX7_enter_4 rfl rfl ?_
  refine ev_getIv 8 (pm t) dX7_enter_5 rfl flX7_64 rfl rfl hf ?_
  refine ev_cV1I (optI (entP (M 1) t)) M 11 dX7_enter_8 mlX7_203 moX2_openedByButton rfl imX2_openedByButton ⟨_, _, rfl, rfl, rfl⟩ (Nat.le_of_ble_eq_true rfl) (Nat.le_of_ble_eq_true rfl) rfl (by have z := s_X2_openedByButton (X := XS0) (M := M) (pm t); rwa [show (if hB (M 4 2) (pm t) then M 1 ((pm t).toNatClampNeg * 18 + 7) else -1) = obF M (pm t) from rfl, ob_eq (b := 0) (dl := []) mk hn ho ht2] at z) ?_
  refine ev_istore_n 12 _ dX7_enter_11 (by decide) rfl rfl rfl ?_
  refine ev_iload_n 13 dX7_enter_12 rfl rfl ?_
  refine ev_iconst 14 (-1) dX7_enter_13 (by decide) rfl ?_
  refine ev_icmp_eq 17 35 dX7_enter_14 (by decide) rfl (fun c14 => ?_) (fun c14 => ?_)
  · exact ev_vret dX7_enter_35 rfl (⟨rfl, L, by omega, by rw [hp2, optI_none c14 (fun a e => by obtain ⟨_, -, -, -, -, hc⟩ := entP_some hn ho ht2 e; omega)]; exact hx⟩)
  · obtain ⟨c, he⟩ : ∃ c, entP (M 1) t = some c := by
      cases e : entP (M 1) t with
      | none => rw [e] at c14; exact absurd rfl c14
      | some c => exact ⟨c, rfl⟩
    obtain ⟨_, -, -, -, -, hc⟩ := entP_some hn ho ht2 he
    rw [he]
    show Ev _ _ _ [.ref 24, .int (nI c)] _ _ _
    refine ev_aload_n 18 dX7_enter_17 rfl rfl ?_
    refine ev_iload_n 19 dX7_enter_18 rfl rfl ?_
    refine ev_iconst 20 (nI 5) dX7_enter_19 (by decide) rfl ?_
    refine ev_iconst 21 (nI 1) dX7_enter_20 (by decide) rfl ?_
    refine ev_aload_n 22 dX7_enter_21 rfl rfl ?_
    refine ev_getR 25 dX7_enter_22 rfl flX7_10 rfl rfl ?_
    refine ev_iload_n 26 dX7_enter_25 rfl rfl ?_
    refine ev_iconst 27 (nI 5) dX7_enter_26 (by decide) rfl ?_
    refine ev_cV2I (M 1 (c * 18 + 5)) M 30 dX7_enter_27 mlX7_101 moX2_get rfl imX2_get ⟨_, _, rfl, rfl, rfl⟩ (Nat.le_of_ble_eq_true rfl) (Nat.le_of_ble_eq_true rfl) rfl (s_X2_get (a := c) (b := 5) (by omega) (by omega)) ?_
    refine ev_isub 31 dX7_enter_30 rfl ?_
    refine ev_cV3 34 dX7_enter_31 mlX7_90 moX7_change rfl imX7_change ⟨_, _, rfl, rfl, rfl⟩ (Nat.le_of_ble_eq_true rfl) (Nat.le_of_ble_eq_true rfl) rfl (x_change g hx hc (by omega) (ok_tgl (h01 c hc))) ?_
    rintro r M2 ⟨rfl, h2⟩
    refine ev_pop 35 dX7_enter_34 rfl rfl ?_
    exact ev_vret dX7_enter_35 rfl (⟨rfl, by rw [hp2, he]; rw [chg_tgl (h01 c hc)] at h2; exact h2⟩)
theorem press2_foc (h : Nat → Int32) (n t : Nat) (sp : List Nat) : (spPress h n t sp (nI 2)).1 = pm (spPress h n t sp (nI 2)).2.2.2.1 := by
  rw [spPress, if_neg (by decide), if_pos rfl]
  cases entP h t <;> rfl
theorem x_press {M : Mm} {n t L : Nat} {sp : List Nat} (g : GS (M 1, n, t, sp)) (hx : XS M (M 1, n, t, sp) L) (key : Int32) : Ct XSh mX7_press [.ref 24, .int key] M (XP (spPress (M 1) n t sp key) L) := by
  have hn0 : 0 < n := g.1.1.1
  have hn : n ≤ 24 := g.1.1.2
  have ht : TR (M 1) n := g.1.2.1
  have hlab : ∀ a, a < n → labOK (M 1) n a := g.1.2.2.1
  have hpl : ∀ y, y < n → plOK (M 1) y := g.1.2.2.2.1
  have hco : ∀ a, a < n → colOK (M 1) a := g.1.2.2.2.2.1
  have h01 : ∀ x, x < n → h01 (M 1) x := g.1.2.2.2.2.2.1
  have ho : opsOK (M 1) n := g.1.2.2.2.2.2.2.1
  have hz : ∀ j, n * 18 ≤ j → M 1 j = 0 := g.1.2.2.2.2.2.2.2
  have h6 : (dsF (M 1) n n).length ≤ 6 := g.2.1
  have ht2 : t ≤ n := g.2.2.1
  have hfs : ∀ a, t = a + 1 → shwn (M 1) a = true := g.2.2.2.1
  have hnd : sp.Nodup := g.2.2.2.2.1
  have hsb : ∀ y ∈ sp, y < 24 := g.2.2.2.2.2
  have hsz : M 0 5 = nI n := hx.2.1
  have hor : rowAt M 5 0 5 (ordF (M 1) n) := hx.2.2.1
  have mk : MK M (M 1) n := hx.2.2.2.1
  have hst : rowAt M 12 11 2 (arrF (M 1) (ordF (M 1) n)) := hx.2.2.2.2.1
  have hsp : rowAt M 23 22 1 sp := hx.2.2.2.2.2.1
  have hf : M 24 7 = pm t := hx.2.2.2.2.2.2.1
  have hlk : lk0 M L := hx.2.2.2.2.2.2.2
  obtain ⟨o1, o2, o3⟩ := ord_facts n hn0 (by omega) ht
  have ob : ∀ x ∈ ordF (M 1) n, x < 24 := fun x hx => by have := o3 x hx; omega
  have ob2 : ∀ x ∈ ordF (M 1) n, x < (ordF (M 1) n).length := fun x hx => by rw [o1]; exact o3 x hx
  have ab : ∀ x ∈ arrF (M 1) (ordF (M 1) n), x < 24 := fun x hx => ob x (arrF_mem.mp hx).1
  have sb : shB (shN M n) (M 1) n := shB_now mk hn
  show Ev _ _ 0 [.ref 24, .int key] [] M _
  refine ev_iload_n 1 dX7_press_0 rfl rfl ?_
  refine ev_if_lt 4 9 dX7_press_1 (by decide) rfl (fun c1 => ?_) (fun c1 => ?_)
  · refine ev_bipush 11 (-102) dX7_press_9 (by decide) rfl ?_
    exact ev_iret dX7_press_11 rfl (xp_sm (by rw [spPress, if_pos (inB_lt c1)]) hx)
  · refine ev_iload_n 5 dX7_press_4 rfl rfl ?_
    refine ev_iconst 6 (nI 2) dX7_press_5 (by decide) rfl ?_
    refine ev_icmp_le 9 12 dX7_press_6 (by decide) rfl (fun c6 => ?_) (fun c6 => ?_)
    · obtain ⟨kk, hkk, rfl⟩ := inB_of (inB_ok (k := 2) (by omega) c1 (le_ng c6)) (by omega)
      refine ev_iload_n 13 dX7_press_12 rfl rfl ?_
      refine ev_iconst 14 (nI 2) dX7_press_13 (by decide) rfl ?_
      refine ev_icmp_neN 17 24 dX7_press_14 (by decide) rfl (by omega) (by omega) (fun c14 => ?_) (fun c14 => ?_)
      · refine ev_aload_n 25 dX7_press_24 rfl rfl ?_
        refine ev_aload_n 26 dX7_press_25 rfl rfl ?_
        refine ev_getR 29 dX7_press_26 rfl flX7_35 rfl rfl ?_
        refine ev_aload_n 30 dX7_press_29 rfl rfl ?_
        refine ev_getIv 33 (pm t) dX7_press_30 rfl flX7_64 rfl rfl hf ?_
        refine ev_iload_n 34 dX7_press_33 rfl rfl ?_
        refine ev_aload_n 35 dX7_press_34 rfl rfl ?_
        refine ev_getR 38 dX7_press_35 rfl flX7_10 rfl rfl ?_
        refine ev_cV0I _ M 41 dX7_press_38 mlX7_94 moX2_shownNow rfl imX2_shownNow ⟨_, _, rfl, rfl, rfl⟩ (Nat.le_of_ble_eq_true rfl) (Nat.le_of_ble_eq_true rfl) rfl (s_X2_shownNow hn hsz) ?_
        refine ev_cV3I (pm (nxtT (stpF (M 1) n t) kk t)) M 44 dX7_press_41 mlX7_146 moX5_turn rfl imX5_turn ⟨_, _, rfl, rfl, rfl⟩ (Nat.le_of_ble_eq_true rfl) (Nat.le_of_ble_eq_true rfl) rfl (by have z := s_X5_turn (M := M) hn hsz hst (pm t) (nI kk) (shN M n); rwa [turnF_pm, turn_eq mk (TE.rf _) ht hn0 hn sb ht2 hfs (by omega)] at z) ?_
        refine ev_putI 47 dX7_press_44 rfl flX7_64 fiX7_7 rfl rfl ?_
        refine ev_aload_n 48 dX7_press_47 rfl rfl ?_
        refine ev_getIv 51 (pm (nxtT (stpF (M 1) n t) kk t)) dX7_press_48 rfl flX7_64 rfl rfl (by rw [mst_same, upd, if_pos rfl]) ?_
        exact ev_iret dX7_press_51 rfl (xp_sm (by rw [spPress, if_neg (by rw [inB_nI (by omega), decide_eq_true hkk]; decide), if_neg (fun z => c14 ((nI_eq (by omega) (by omega)).mp z)), nI_clamp (show kk < 2 ^ 31 by omega)]) (xs_foc hx _ rfl))
      · refine ev_aload_n 18 dX7_press_17 rfl rfl ?_
        refine ev_cV0 21 dX7_press_18 mlX7_143 moX7_enter rfl imX7_enter ⟨_, _, rfl, rfl, rfl⟩ (Nat.le_of_ble_eq_true rfl) (Nat.le_of_ble_eq_true rfl) rfl (x_enter g hx) ?_
        rintro r M2 ⟨rfl, L2, l2, h2⟩
        refine ev_goto 47 dX7_press_21 (by decide) ?_
        refine ev_aload_n 48 dX7_press_47 rfl rfl ?_
        refine ev_getIv 51 (pm (spPress (M 1) n t sp (nI 2)).2.2.2.1) dX7_press_48 rfl flX7_64 rfl rfl h2.2.2.2.2.2.2.1 ?_
        exact ev_iret dX7_press_51 rfl (by rw [c14]; exact xp_of (by rw [← press2_foc]) l2 h2)
    · refine ev_bipush 11 (-102) dX7_press_9 (by decide) rfl ?_
      exact ev_iret dX7_press_11 rfl (xp_sm (by rw [spPress, if_pos (inB_gt (k := 2) (by omega) (nle_g c6))]) hx)
end
