section
set_option maxHeartbeats 2000000 in
theorem law_loop {p : Program} {l : Launch} {e : Env} {s : State} {m : MethodId} {below : List Frame} {meth : Method} {c : Code} {D : va_G} {cy : ClassId} {b L : Nat} {xs : Nat → Int32} {adX adM : Nat → Nat} (C : lwC p s m meth c D cy b L xs adX adM) : ∀ (k i Lk : Nat) (H : Heap) (locs : List Loc) (MX MM : Mm) (z : St) (ls : Array Slot), L ≤ i + 6 * k → i ≤ 4000 → Lk + k ≤ 1000 → lv_has ls 4 (lwL b adX adM i) → lwW s D cy adX adM H locs MX MM → GS z → XS MX z Lk → RS MM z → W p l e room_1 s m #[Value.ref b] below meth c H locs 39 11820 (lwQ below b s) (F0 m 18 ls []) := by
  obtain ⟨hx, hb, hr, hml, hown, hts, hXx, hbl, hlocks, hgv⟩ := C.1.1
  have hL : L ≤ 3072 := C.1.2
  have hbA : ¬ AL s b := Nat.not_le.mpr hbl
  intro k
  induction k with
  | zero =>
    intro i Lk H locs MX MM z ls h1 h2 h3 hl hw g hX hR
    have hS := hw.2.2
    refine lv_iload_n hx hb dL_law_18 rfl (lv_at hl 3 rfl) ?_
    refine lv_aload_n hx hb dL_law_19 rfl (lv_at hl 0 rfl) ?_
    refine va_slen hx hb hXx hbl hbA hS dL_law_20 ?_
    refine lv_bipush (v := nI 6) hx hb dL_law_21 (by decide) ?_
    refine lv_isub hx hb dL_law_23 ?_
    refine lv_icmp_gt (tgt := 743) hx hb dL_law_24 (by decide) (fun cg => ?_) (fun cg => ?_)
    · refine lv_iconst (v := 1) hx hb dL_law_743 (by decide) ?_
      refine va_forget (fun q hq => hS.2.2 q hq) ?_
      refine W.widen (k := 39) (n := 11820) (Nat.le_refl _) (Nat.le_refl _) ?_
      exact lw_ret hx hb hr hlocks dL_law_744
    · exfalso
      apply cg
      show nI L - nI 6 < nI i
      rw [fa_lt, fb_subI (by rw [nI_toInt (by omega), nI_toInt (by omega)]; omega) (by rw [nI_toInt (by omega), nI_toInt (by omega)]; omega), nI_toInt (by omega), nI_toInt (by omega), nI_toInt (by omega)]
      omega
  | succ k ih =>
    intro i Lk H locs MX MM z ls h1 h2 h3 hl hw g hX hR
    have hS := hw.2.2
    refine lv_iload_n hx hb dL_law_18 rfl (lv_at hl 3 rfl) ?_
    refine lv_aload_n hx hb dL_law_19 rfl (lv_at hl 0 rfl) ?_
    refine va_slen hx hb hXx hbl hbA hS dL_law_20 ?_
    refine lv_bipush (v := nI 6) hx hb dL_law_21 (by decide) ?_
    refine lv_isub hx hb dL_law_23 ?_
    refine lv_icmp_gt (tgt := 743) hx hb dL_law_24 (by decide) (fun cg => ?_) (fun cg => ?_)
    · refine lv_iconst (v := 1) hx hb dL_law_743 (by decide) ?_
      refine va_forget (fun q hq => hS.2.2 q hq) ?_
      refine W.widen (k := 39) (n := 11820) (Nat.le_refl _) (Nat.le_refl _) ?_
      exact lw_ret hx hb hr hlocks dL_law_744
    · have hi : i + 6 ≤ L := by
        apply Classical.byContradiction
        intro q
        apply cg
        show nI L - nI 6 < nI i
        rw [fa_lt, fb_subI (by rw [nI_toInt (by omega), nI_toInt (by omega)]; omega) (by rw [nI_toInt (by omega), nI_toInt (by omega)]; omega), nI_toInt (by omega), nI_toInt (by omega), nI_toInt (by omega)]
        omega
      have K : lwK p l e s m below meth c D cy b adX adM ls Lk := by
        intro H2 locs2 MX2 MM2 z2 L2 hL2 g2 hX2 hR2 hw2
        refine lv_iinc (v := nI (i + 6)) (lv' := [(3, .int (nI (i + 6))), (0, .ref b), (1, .ref (adX 24)), (2, .ref (adM 0))]) hx hb dL_law_737 hl (k := 3) rfl (nI_add i 6) (by decide) rfl (fun ls2 hl2 => ?_)
        refine lv_goto (tgt := 18) hx hb dL_law_740 (by decide) ?_
        exact ih (i + 6) L2 H2 locs2 MX2 MM2 z2 ls2 (by omega) (by omega) (by omega) (lv_sub hl2 [1, 2, 3, 0] rfl) hw2 g2 hX2 hR2
      refine lv_aload_n hx hb dL_law_27 rfl (lv_at hl 0 rfl) ?_
      refine lv_iload_n hx hb dL_law_28 rfl (lv_at hl 3 rfl) ?_
      refine va_sld hx hb hXx hbl hbA hS (vp_in_nI (show i < L by omega) (by omega)) dL_law_29 ?_
      refine lv_bipush (v := nI 31) hx hb dL_law_30 (by decide) ?_
      refine lv_iand hx hb dL_law_32 ?_
      generalize xs (nI i).toNatClampNeg &&& nI 31 = x
      obtain ⟨h, n, t, sp⟩ := z
      by_cases hsw : inB x 24 = true
      · obtain ⟨j, hj, rfl⟩ := inB_of hsw (by omega)
        rcases (show j = 0 ∨ j = 1 ∨ j = 2 ∨ j = 3 ∨ j = 4 ∨ j = 5 ∨ j = 6 ∨ j = 7 ∨ j = 8 ∨ j = 9 ∨ j = 10 ∨ j = 11 ∨ j = 12 ∨ j = 13 ∨ j = 14 ∨ j = 15 ∨ j = 16 ∨ j = 17 ∨ j = 18 ∨ j = 19 ∨ j = 20 ∨ j = 21 ∨ j = 22 ∨ j = 23 by omega) with rfl | rfl | rfl | rfl | rfl | rfl | rfl | rfl | rfl | rfl | rfl | rfl | rfl | rfl | rfl | rfl | rfl | rfl | rfl | rfl | rfl | rfl | rfl | rfl
        · refine lv_tableIn (tgt := 144) hx hb dL_law_33 (by decide) (by decide) rfl (by decide) ?_
          exact law_c0 C hl hw hi g hX hR (by omega) K
        · refine lv_tableIn (tgt := 177) hx hb dL_law_33 (by decide) (by decide) rfl (by decide) ?_
          exact law_c1 C hl hw hi g hX hR (by omega) K
        · refine lv_tableIn (tgt := 220) hx hb dL_law_33 (by decide) (by decide) rfl (by decide) ?_
          exact law_c2 C hl hw hi g hX hR (by omega) K
        · refine lv_tableIn (tgt := 253) hx hb dL_law_33 (by decide) (by decide) rfl (by decide) ?_
          exact law_c3 C hl hw hi g hX hR (by omega) K
        · refine lv_tableIn (tgt := 316) hx hb dL_law_33 (by decide) (by decide) rfl (by decide) ?_
          exact law_c4 C hl hw hi g hX hR (by omega) K
        · refine lv_tableIn (tgt := 359) hx hb dL_law_33 (by decide) (by decide) rfl (by decide) ?_
          exact law_c5 C hl hw hi g hX hR (by omega) K
        · refine lv_tableIn (tgt := 382) hx hb dL_law_33 (by decide) (by decide) rfl (by decide) ?_
          exact law_c6 C hl hw hi g hX hR (by omega) K
        · refine lv_tableIn (tgt := 405) hx hb dL_law_33 (by decide) (by decide) rfl (by decide) ?_
          exact law_c7 C hl hw hi g hX hR (by omega) K
        · refine lv_tableIn (tgt := 438) hx hb dL_law_33 (by decide) (by decide) rfl (by decide) ?_
          exact law_c8 C hl hw hi g hX hR (by omega) K
        · refine lv_tableIn (tgt := 461) hx hb dL_law_33 (by decide) (by decide) rfl (by decide) ?_
          exact law_c9 C hl hw hi g hX hR (by omega) K
        · refine lv_tableIn (tgt := 474) hx hb dL_law_33 (by decide) (by decide) rfl (by decide) ?_
          exact law_c10 C hl hw hi g hX hR (by omega) K
        · refine lv_tableIn (tgt := 497) hx hb dL_law_33 (by decide) (by decide) rfl (by decide) ?_
          exact law_c11 C hl hw hi g hX hR (by omega) K
        · refine lv_tableIn (tgt := 520) hx hb dL_law_33 (by decide) (by decide) rfl (by decide) ?_
          exact law_c12 C hl hw hi g hX hR (by omega) K
        · refine lv_tableIn (tgt := 533) hx hb dL_law_33 (by decide) (by decide) rfl (by decide) ?_
          exact law_c13 C hl hw hi g hX hR (by omega) K
        · refine lv_tableIn (tgt := 546) hx hb dL_law_33 (by decide) (by decide) rfl (by decide) ?_
          exact law_c14 C hl hw hi g hX hR (by omega) K
        · refine lv_tableIn (tgt := 559) hx hb dL_law_33 (by decide) (by decide) rfl (by decide) ?_
          exact law_c15 C hl hw hi g hX hR (by omega) K
        · refine lv_tableIn (tgt := 582) hx hb dL_law_33 (by decide) (by decide) rfl (by decide) ?_
          exact law_c16 C hl hw hi g hX hR (by omega) K
        · refine lv_tableIn (tgt := 605) hx hb dL_law_33 (by decide) (by decide) rfl (by decide) ?_
          exact law_c17 C hl hw hi g hX hR (by omega) K
        · refine lv_tableIn (tgt := 618) hx hb dL_law_33 (by decide) (by decide) rfl (by decide) ?_
          exact law_c18 C hl hw hi g hX hR (by omega) K
        · refine lv_tableIn (tgt := 631) hx hb dL_law_33 (by decide) (by decide) rfl (by decide) ?_
          exact law_c19 C hl hw hi g hX hR (by omega) K
        · refine lv_tableIn (tgt := 644) hx hb dL_law_33 (by decide) (by decide) rfl (by decide) ?_
          exact law_c20 C hl hw hi g hX hR (by omega) K
        · refine lv_tableIn (tgt := 677) hx hb dL_law_33 (by decide) (by decide) rfl (by decide) ?_
          exact law_c21 C hl hw hi g hX hR (by omega) K
        · refine lv_tableIn (tgt := 700) hx hb dL_law_33 (by decide) (by decide) rfl (by decide) ?_
          exact law_c22 C hl hw hi g hX hR (by omega) K
        · refine lv_tableIn (tgt := 723) hx hb dL_law_33 (by decide) (by decide) rfl (by decide) ?_
          exact law_c23 C hl hw hi g hX hR (by omega) K
      · refine lv_tableOut (tgt := 737) hx hb dL_law_33 (outB (n := 23) hsw) (by decide) ?_
        exact K H locs MX MM _ Lk (by omega) g hX hR hw
theorem P_left {D : va_G} {cl : List vw_C} {a b : va_W} {H : Heap} (h : va_P D cl (a ++ b) H) : va_P D cl a H := fun k q hq => h k q (by rw [List.getElem?_append_left (List.getElem?_eq_some_iff.mp hq).1]; exact hq)
theorem P_right {D : va_G} {cl : List vw_C} {a b : va_W} {H : Heap} (h : va_P D cl (a ++ b) H) : va_P D cl b H := fun k q hq => h (a.length + k) q (by rw [List.getElem?_append_right (by omega), Nat.add_sub_cancel_left]; exact hq)
theorem D_left {A : Nat → Prop} {a b : va_W} (h : va_D A (a ++ b)) : va_D A a := ⟨fun i j p q h1 h2 e => h.1 i j p q (by rw [List.getElem?_append_left (List.getElem?_eq_some_iff.mp h1).1]; exact h1) (by rw [List.getElem?_append_left (List.getElem?_eq_some_iff.mp h2).1]; exact h2) e, fun k q hq => h.2 k q (by rw [List.getElem?_append_left (List.getElem?_eq_some_iff.mp hq).1]; exact hq)⟩
theorem D_right {A : Nat → Prop} {a b : va_W} (h : va_D A (a ++ b)) : va_D A b := ⟨fun i j p q h1 h2 e => by
  have z := h.1 (a.length + i) (a.length + j) p q (by rw [List.getElem?_append_right (by omega), Nat.add_sub_cancel_left]; exact h1) (by rw [List.getElem?_append_right (by omega), Nat.add_sub_cancel_left]; exact h2) e
  omega, fun k q hq => h.2 (a.length + k) q (by rw [List.getElem?_append_right (by omega), Nat.add_sub_cancel_left]; exact hq)⟩
theorem D_apart {A : Nat → Prop} {a b : va_W} (h : va_D A (a ++ b)) {i j : Nat} {p q : Nat × va_E} (h1 : a[i]? = some p) (h2 : b[j]? = some q) : p.1 ≠ q.1 := fun e => by
  have hi := (List.getElem?_eq_some_iff.mp h1).1
  have z := h.1 i (a.length + j) p q (by rw [List.getElem?_append_left hi]; exact h1) (by rw [List.getElem?_append_right (by omega), Nat.add_sub_cancel_left]; exact h2) e
  omega
set_option maxHeartbeats 3000000 in
set_option maxRecDepth 100000 in
/-- THE LAW, from its entry -/
theorem whole_start {p : Program} {e : Env} {s : State} {m : MethodId} {below : List Frame} {meth : Method} {c : Code} (l : Launch) {b L : Nat} {xs : Nat → Int32} (hL : L ≤ 3072) (C0 : lw_At p s m meth c b L xs) : W p l e room_1 s m #[Value.ref b] below meth c s.heap [] 0 0 (lw_Z below #[Value.ref b] s) (entryFrame m ([Value.ref b] : List Value).toArray 4) := by
  obtain ⟨hx, hb, hr, hml, hown, hts, hX, hbl, hlocks, hgv⟩ := id C0
  have hA : ∀ w ∈ wAll, w.before #[Value.ref b] s = true := fun w hw => hts w (wAll_good hw).1
  have hN : ab_nst s := fun w hw => va_Nw.of (NST_on w hw) (hts w (List.mem_append_right _ (NST_in w hw)))
  have hAL : ∀ q : Nat, s.heap.size ≤ q → AL s q := fun _ h => h
  obtain ⟨c0, i0, k0⟩ := u_known (C := RX0) (T := TX0) (N := 6) (n := 6) hA inlX0 (hA (.instantiable RX0 6) (wT1 197 rfl rfl))
  obtain ⟨c1, i1, k1⟩ := u_known (C := RX1) (T := TX1) (N := 3) (n := 3) hA inlX1 (hA (.instantiable RX1 3) (wT1 100 rfl rfl))
  obtain ⟨c2, i2, k2⟩ := u_known (C := RX2) (T := TX2) (N := 6) (n := 6) hA inlX2 (hA (.instantiable RX2 6) (wT1 21 rfl rfl))
  obtain ⟨c3, i3, k3⟩ := u_known (C := RX3) (T := TX3) (N := 5) (n := 5) hA inlX3 (hA (.instantiable RX3 5) (wT1 116 rfl rfl))
  obtain ⟨c4, i4, k4⟩ := u_known (C := RX4) (T := TX4) (N := 2) (n := 2) hA inlX4 (hA (.instantiable RX4 2) (wT1 223 rfl rfl))
  obtain ⟨c5, i5, k5⟩ := u_known (C := RX5) (T := TX5) (N := 3) (n := 3) hA inlX5 (hA (.instantiable RX5 3) (wT1 141 rfl rfl))
  obtain ⟨c6, i6, k6⟩ := u_known (C := RX6) (T := TX6) (N := 11) (n := 11) hA inlX6 (hA (.instantiable RX6 11) (wT1 157 rfl rfl))
  obtain ⟨c7, i7, k7⟩ := u_known (C := RX7) (T := TX7) (N := 8) (n := 8) hA inlX7 (hA (.instantiable RX7 8) (wT1 13 rfl rfl))
  obtain ⟨c8, i8, k8⟩ := u_known (C := RX8) (T := TX8) (N := 21) (n := 21) hA inlX8 (hA (.instantiable RX8 21) (wT3 199 rfl rfl))
  obtain ⟨dC, dI, hKc⟩ : ∃ (dC : Nat → ClassId) (dI : Nat → Nat → Nat), ∀ (k : Nat) (q : vw_C), vwCl[k]? = some q → u_Kn s q.1 q.2.1 q.2.2 (dC k) (dI k) := by
    refine ⟨fun k => match k with | 0 => c0 | 1 => c1 | 2 => c2 | 3 => c3 | 4 => c4 | 5 => c5 | 6 => c6 | 7 => c7 | _ => c8, fun k => match k with | 0 => i0 | 1 => i1 | 2 => i2 | 3 => i3 | 4 => i4 | 5 => i5 | 6 => i6 | 7 => i7 | _ => i8, ?_⟩
    intro k q hq
    match k, hq with
    | 0, hq => cases hq; exact k0
    | 1, hq => cases hq; exact k1
    | 2, hq => cases hq; exact k2
    | 3, hq => cases hq; exact k3
    | 4, hq => cases hq; exact k4
    | 5, hq => cases hq; exact k5
    | 6, hq => cases hq; exact k6
    | 7, hq => cases hq; exact k7
    | 8, hq => cases hq; exact k8
    | k + 9, hq => simp [vwCl] at hq
  obtain ⟨cA, kA, comp, hfind, hkA, hkind⟩ := Cond.arrayClass_spec (hA _ cn_arr)
  have hK : va_K (dC, dI) vwCl [(cA, .int)] s := ⟨hKc, fun k q h => by
    match k, h with
    | 0, h =>
      cases h
      exact ⟨fun n z => ⟨fun k h => (by cases h), kA, hkA, comp, hkind⟩, hfind⟩
    | k + 1, h => simp at h⟩
  have hS0 : va_S (AL s) s.heap s.heap [] := va_S.rf
  have hP0 : va_P (dC, dI) vwCl [] s.heap := fun k q h => by simp at h
  have hD0 : va_D (AL s) [] := ⟨fun i j p q h => by simp at h, fun k q h => by simp at h⟩
  have hl := lv_entry ([.ref b]) (n := 4) (Nat.le_of_ble_eq_true rfl)
  rw [lg_entry_eq]
  generalize (lg_sl ([.ref b]) ++ List.replicate (4 - (lg_sl ([.ref b])).length) Slot.unset).toArray = ls at hl ⊢
  have hl : lv_has ls 4 [(0, .ref b)] := hl
  refine va_new (ci := 7) (fs := [.null, .null, .null, .null, .null, .null, .null, .int 0]) (C := RX7) (T := TX7) (N := 8) hx hb hA inlX7 tyX7 tyX7_ok hown (hA (.classLink R_law 7 RX7) (wT1 12 rfl rfl)) (hA (.instantiable RX7 8) (wT1 13 rfl rfl)) (hA (.initialized RX7) (wT1 1 rfl rfl)) hK hP0 hD0 hS0 hAL rfl (fun j hj => match j, hj with | 0, _ => rfl | 1, _ => rfl | 2, _ => rfl | 3, _ => rfl | 4, _ => rfl | 5, _ => rfl | 6, _ => rfl | 7, _ => rfl | j + 8, h => absurd h (by omega)) (Nat.le_of_ble_eq_true rfl) (Nat.le_of_ble_eq_true rfl) dL_law_0 (fun q0 H1 hP1 hD1 hS1 => ?_)
  replace hP1 : va_P (dC, dI) vwCl [(q0, .inr (7, [.null, .null, .null, .null, .null, .null, .null, .int 0]))] H1 := hP1
  replace hD1 : va_D (AL s) [(q0, .inr (7, [.null, .null, .null, .null, .null, .null, .null, .int 0]))] := hD1
  refine W.widen (k := 1) (n := 8) (by omega) (by omega) ?_
  refine lv_dup hx hb dL_law_3 rfl ?_
  have hF1 := va_free (wc := [(q0, .inr (7, [.null, .null, .null, .null, .null, .null, .null, .int 0]))]) hD1 hS1 hAL [0] rfl
  refine va_callv (va_runI (As := []) (rest := [.ref q0]) ⟨hx, hb, hml, hown, hA⟩ (c_X7_init l (dC, dI) cA q0 H1.size) (cwI 0 hA (cn_goodm (m := mX7_init) (wT1 16 rfl rfl)) rfl rfl rfl (hA (.initialized RX7) (wT1 1 rfl rfl)) (hA (.methodLink R_law 9 yX7_init) (wT1 14 rfl rfl)) (hA (.instanceMethod yX7_init) (wT1 15 rfl rfl)) rfl (by decide +kernel) ⟨Nat.le_of_ble_eq_true rfl, Nat.le_of_ble_eq_true rfl⟩) ⟨cn_blind, fun U hU hW => ⟨rfl, by rw [hU], by rw [hU]; exact hP1, va_K.moved hW.alike hK, hD1.weaken (fun _ _ _ _ => trivial), ab_nst.warm hW hN⟩⟩ rfl rfl hl.1 rfl (lv_room (Nat.le_of_ble_eq_true rfl)) dL_law_4 ⟨Nat.le_of_ble_eq_true rfl, Nat.le_of_ble_eq_true rfl⟩) hS1 (fun q _ h => hF1 q h) hF1 (fun u t H2 locs2 ht2 hvm2 hw2 hB2 hz2 hk2 hS2 => ?_)
  obtain ⟨adX, MX⟩ := u
  obtain ⟨hq0, hXS⟩ := hw2
  replace hq0 : adX 24 = q0 := hq0
  replace hXS : XS MX s0S 0 := hXS
  obtain ⟨hPX, hKX, hDX⟩ := hB2
  rw [ht2] at hPX
  replace hPX : va_P (dC, dI) vwCl (ab_ws cA XSh adX MX) H2 := hPX
  replace hDX : va_D (AL s) (ab_ws cA XSh adX MX) := D_of (fun q h => hF1 q (AD_A hDX q h)) (D_ad hDX)
  clear hKX hk2 hz2 hvm2 ht2 hP1 hD1 hS1 hF1 hP0 hD0 hS0
  refine W.widen (k := 25) (n := 7537) (by omega) (by omega) ?_
  refine W.eq (g2 := F0 m 7 ls [.ref q0]) rfl ?_
  refine lv_astore_n (lv' := [(1, .ref q0), (0, .ref b)]) hx hb dL_law_7 rfl hl (by decide) rfl (fun ls hl => ?_)
  refine va_new (ci := 8) (fs := [.int 0, .null, .int 0, .int 0, .null, .null, .null, .null, .null, .null, .int 0, .null, .int 0, .null, .int 0, .null, .null, .int 0, .null, .null, .int 0]) (C := RX8) (T := TX8) (N := 21) hx hb hA inlX8 tyX8 tyX8_ok hown (hA (.classLink R_law 10 RX8) (wT3 198 rfl rfl)) (hA (.instantiable RX8 21) (wT3 199 rfl rfl)) (hA (.initialized RX8) (wT1 10 rfl rfl)) hK hPX hDX hS2 hAL rfl (fun j hj => match j, hj with | 0, _ => rfl | 1, _ => rfl | 2, _ => rfl | 3, _ => rfl | 4, _ => rfl | 5, _ => rfl | 6, _ => rfl | 7, _ => rfl | 8, _ => rfl | 9, _ => rfl | 10, _ => rfl | 11, _ => rfl | 12, _ => rfl | 13, _ => rfl | 14, _ => rfl | 15, _ => rfl | 16, _ => rfl | 17, _ => rfl | 18, _ => rfl | 19, _ => rfl | 20, _ => rfl | j + 21, h => absurd h (by omega)) (Nat.le_of_ble_eq_true rfl) (Nat.le_of_ble_eq_true rfl) dL_law_8 (fun q1 H3 hP3 hD3 hS3 => ?_)
  replace hP3 : va_P (dC, dI) vwCl (ab_ws cA XSh adX MX ++ [(q1, .inr (8, [.int 0, .null, .int 0, .int 0, .null, .null, .null, .null, .null, .null, .int 0, .null, .int 0, .null, .int 0, .null, .null, .int 0, .null, .null, .int 0]))]) H3 := hP3
  replace hD3 : va_D (AL s) (ab_ws cA XSh adX MX ++ [(q1, .inr (8, [.int 0, .null, .int 0, .int 0, .null, .null, .null, .null, .null, .null, .int 0, .null, .int 0, .null, .int 0, .null, .null, .int 0, .null, .null, .int 0]))]) := hD3
  refine W.widen (k := 26) (n := 7558) (by omega) (by omega) ?_
  refine lv_dup hx hb dL_law_11 rfl ?_
  have hPc := P_right hP3
  have hDc := D_right hD3
  have hF3 : ∀ q, va_A [(q1, .inr (8, [.int 0, .null, .int 0, .int 0, .null, .null, .null, .null, .null, .null, .int 0, .null, .int 0, .null, .int 0, .null, .null, .int 0, .null, .null, .int 0]))] H3.size q → AL s q := va_free (wc := [(q1, .inr (8, [.int 0, .null, .int 0, .int 0, .null, .null, .null, .null, .null, .null, .int 0, .null, .int 0, .null, .int 0, .null, .null, .int 0, .null, .null, .int 0]))]) hDc hS3 hAL [0] rfl
  refine va_callv (va_runI (As := []) (rest := [.ref q1]) ⟨hx, hb, hml, hown, hA⟩ (c_X8_init l (dC, dI) cA q1 H3.size) (cwI 0 hA (cn_goodm (m := mX8_init) (wT3 202 rfl rfl)) rfl rfl rfl (hA (.initialized RX8) (wT1 10 rfl rfl)) (hA (.methodLink R_law 12 yX8_init) (wT3 200 rfl rfl)) (hA (.instanceMethod yX8_init) (wT3 201 rfl rfl)) rfl (by decide +kernel) ⟨Nat.le_of_ble_eq_true rfl, Nat.le_of_ble_eq_true rfl⟩) ⟨cn_blind, fun U hU hW => ⟨rfl, by rw [hU], by rw [hU]; exact hPc, va_K.moved hW.alike hK, hDc.weaken (fun _ _ _ _ => trivial), ab_nst.warm hW hN⟩⟩ rfl rfl hl.1 rfl (lv_room (Nat.le_of_ble_eq_true rfl)) dL_law_12 ⟨Nat.le_of_ble_eq_true rfl, Nat.le_of_ble_eq_true rfl⟩) hS3 (fun q _ h => hF3 q h) hF3 (fun u t H4 locs4 ht4 hvm4 hw4 hB4 hz4 hk4 hS4 => ?_)
  obtain ⟨adM, MM⟩ := u
  obtain ⟨hq1, hRS⟩ := hw4
  replace hq1 : adM 0 = q1 := hq1
  replace hRS : RS MM s0S := hRS
  obtain ⟨hPM, hKM, hDM⟩ := hB4
  rw [ht4] at hPM
  replace hPM : va_P (dC, dI) vwCl (ab_ws cA MSh adM MM) H4 := hPM
  have hAM := AD_A hDM
  have hPX3 := P_left hP3
  have hout : ∀ q, ab_AD XSh adX q → q < H3.size ∧ ¬ va_A [(q1, .inr (8, [.int 0, .null, .int 0, .int 0, .null, .null, .null, .null, .null, .null, .int 0, .null, .int 0, .null, .int 0, .null, .null, .int 0, .null, .null, .int 0]))] H3.size q := fun q hq => by
    obtain ⟨k, hk, rfl⟩ := hq
    have he : (ab_ws cA XSh adX MX)[k]? = some (adX k, ab_cell cA adX (MX k) XSh[k]) := by rw [ab_get, List.getElem?_eq_getElem hk]; rfl
    have hlt : adX k < H3.size := (hPX3 k _ he).lt
    refine ⟨hlt, fun z => ?_⟩
    rcases z with ⟨k2, e2, h2⟩ | z
    · exact D_apart hD3 he h2 rfl
    · exact absurd z (Nat.not_le.mpr hlt)
  have hPX4 : va_P (dC, dI) vwCl (ab_ws cA XSh adX MX) H4 := hPX3.kept (fun k x hx => by
    rw [ab_get] at hx
    cases e9 : XSh[k]? with
    | none => rw [e9] at hx; cases hx
    | some y =>
      rw [e9] at hx
      cases hx
      have z := hout (adX k) ⟨k, (List.getElem?_eq_some_iff.mp e9).1, rfl⟩
      exact hk4 _ z.1 z.2)
  have hC : lwC p s m meth c (dC, dI) cA b L xs adX adM := ⟨⟨C0, hL⟩, ⟨hA, hN, hK⟩, AD_A (D_left hD3), fun q h => hF3 q (hAM q h), fun q h1 h2 => (hout q h1).2 (hAM q h2)⟩
  have hW : lwW s (dC, dI) cA adX adM H4 locs4 MX MM := ⟨⟨hPX4, D_ad (D_left hD3)⟩, ⟨hPM, D_ad hDM⟩, hS4⟩
  refine W.widen (k := 39) (n := 11820) (by omega) (by omega) ?_
  refine W.eq (g2 := F0 m 15 ls [.ref q1]) rfl ?_
  refine lv_astore_n (lv' := [(2, .ref q1), (1, .ref q0), (0, .ref b)]) hx hb dL_law_15 rfl hl (by decide) rfl (fun ls hl => ?_)
  refine lv_iconst (v := nI 0) hx hb dL_law_16 (by decide) ?_
  refine lv_istore_n (lv' := [(3, .int (nI 0)), (2, .ref q1), (1, .ref q0), (0, .ref b)]) hx hb dL_law_17 rfl hl (by decide) rfl (fun ls hl => ?_)
  refine W.eq (g2 := F0 m 18 ls []) rfl ?_
  have hl2 : lv_has ls 4 (lwL b adX adM 0) := by
    rw [lwL, hq0, hq1]
    exact lv_sub hl [3, 2, 1, 0] rfl
  exact law_loop hC 512 0 0 H4 locs4 MX MM s0S ls (by omega) (by omega) (by omega) hl2 hW gs_0 hXS hRS
-- ===== YOUR PART ENDS =====
set_option maxHeartbeats 4000000 in
theorem lw_walk (l : Launch) (b : Addr) (xs : List Int32) : MetFree l x (headSpec (Jvm.Cond.code x code maxLocals ret :: tables_1) room_1) (lw_P b xs) (fun _ _ _ _ _ => True) lw_Q := by
  refine MetFree.of_bodyS (code := code) (maxLocals := maxLocals) (ret := ret) (by decide) ?_ ?_
  · intro args s m h hn
    obtain ⟨meth, c, h1, h2, h3, h4, h5, h6, -, -⟩ := Cond.code_spec hn (atoms_spec (ws := Jvm.Cond.code x code maxLocals ret :: tables_1) h _ List.mem_cons_self)
    exact ⟨meth, c, h1, h2, h3, h4, h5, h6⟩
  · intro p e s m args below meth c s₁ B hml0 hP _
    obtain ⟨rfl, hx, hbd, hgv⟩ := hP
    obtain ⟨scr, harrAt, hlist, hof, hsmall⟩ := hx
    obtain ⟨hcb, hkn, -, -⟩ := State.arrayAt?_spec harrAt
    have hown : s.vm.findClass R_law = some m.cls := findClass_of_methodNamed B.named
    have hts0 : ∀ c ∈ (Jvm.Cond.code x code maxLocals ret :: tables_1), c.before #[Value.ref b] s = true := atoms_spec (ws := Jvm.Cond.code x code maxLocals ret :: tables_1) B.pre
    have hts : ∀ w ∈ lw_tbl, w.before #[Value.ref b] s = true := k2_hts_sels lw_privs (fun w hw => hts0 w (List.mem_cons_of_mem _ hw)) lw_privs_ok
    have hml : c.maxLocals = 4 := B.maxLocals_eq (hts0 _ List.mem_cons_self)
    have X₀ : Stand p l e room_1 s m #[Value.ref b] below meth c s₁ [] 0 0 := Stand.of_body B
    have hh0 : s₁.heap = s.heap := by rw [B.state]; rfl
    have hsz : scr.slots.size = xs.length := by rw [← Array.length_toList, hlist, List.length_map]
    have hval : ∀ j : Nat, j < xs.length → scr.slots[j]? = some (.int (xs.getD j 0)) := fun j hj => by
      rw [← Array.getElem?_toList, hlist]
      simp [hj]
    have hbl : b < s.heap.size := (Array.getElem?_eq_some_iff.mp hcb).1
    have hX : va_X b xs.length (fun j => xs.getD j 0) s s.heap := ⟨scr, hcb, hof, hkn, hsz, hval⟩
    have K : W p l e room_1 s m #[Value.ref b] below meth c s₁.heap [] 0 0 (lw_Z below #[Value.ref b] s) (entryFrame m ([Value.ref b] : List Value).toArray 4) := by
      rw [hh0]
      exact whole_start l hbd ⟨B.exec, B.bytes, B.returns, hml, hown, hts, hX, hbl, B.notSynchronized, hgv⟩
    obtain ⟨t, a1, o, b1, b2, b3⟩ := K s₁ rfl X₀
    exact ⟨t, o, a1, b1, b2, b3⟩
theorem lw_pre_spec {args : Array Value} {s : State} (h : (Jvm.Cond.and given_1 narrow_1).before args s = true) (hr : rest_1_c.before args s = true) : ∃ (b : Addr) (xs : List Int32), lw_P b xs args s := by
  have hs := flat_of_before _ h
  have hq := flat_of_before _ hr
  have hc : (Cond.count 1).before args s = true := hs _ (by decide +kernel)
  have harr : (Cond.arrayOf (.arg 0) .int).before args s = true := hs _ (by decide +kernel)
  have hle : (Cond.le (.length (.arg 0)) (.int 3072)).before args s = true := hs _ (by decide +kernel)
  have hlen : (Cond.isInt (.length (.arg 0))).before args s = true := hq _ (by decide +kernel)
  have hall : (Cond.all (.arg 0) (.isInt (.elem (.arg 0) (.index 0)))).before args s = true := hq _ (by decide +kernel)
  obtain ⟨b, xs, hb, hx⟩ := State.ints_of_pre rfl harr hlen hall
  have hsm : xs.length < 2 ^ 31 := hx.choose_spec.2.2.2
  have hev : (Term.length (.arg 0)).eval args s none [] s = some (.int xs.length.toInt32) := hx.length_eval hb
  have hv := Cond.le_ints hev (show (Term.int 3072).eval args s none [] s = some (.int 3072) from rfl)
  have hd : xs.length.toInt32 ≤ 3072 := by
    simpa [Cond.before, Cond.holds, hv] using hle
  have hN : xs.length ≤ 3072 := (Int32.ofNat_le_ofNat hsm (by decide)).mp (show Int32.ofNat xs.length ≤ Int32.ofNat 3072 from hd)
  exact ⟨b, xs, Cond.one_arg hc (show args[0]? = some (.ref b) from hb), hx, hN, h⟩
theorem lw_comes (l : Launch) : Comes l x (Jvm.Cond.code x code maxLocals ret :: tables_1) room_1 (fun tb e args s => Calls_1 tb e args s ∧ rest_1 tb e args s ∧ Pre_1 tb e args s)
    (fun _ _ args s o t => lw_Q args s o t) := by
  intro p e ha hc hk s m args below hf hfit hheap happ hpre
  obtain ⟨b, xs, hP⟩ := lw_pre_spec hpre.2.2 hpre.2.1
  obtain ⟨k, o, h1, h2, h3, hQ⟩ := lw_walk l b xs p e ha hc hk s m args below hf ((Spec.applies_iff_loose hf).mp happ).1 hP trivial
  exact ⟨k, o, h1, h2, h3, hQ⟩
theorem lw_frame {s t : State} {o : Outcome} {args : Array Value} (h : Framed s o t [] 39 11820) :
    Framed s o t (fieldLocs frame_1_writes args s ++ arrayLocs frame_1_arrays args s ++ staticLocs frame_1_statics s) 39 11820 := h
theorem lw_limb (L : Cond) (hL : ∀ (args : Array Value) (s t : State), L.after args s (.returned (some (.int 1))) t = true) :
    ArmFor flags0 classFile x code maxLocals ret World_1 tables_1 room_1 Calls_1 rest_1 Pre_1
      (fun tb e a s o t => postC L tb e a s o t ∧ Framed s o t (fieldLocs frame_1_writes a s ++ arrayLocs frame_1_arrays a s ++ staticLocs frame_1_statics s) 39 11820) := by
  intro l _ _ _ p e ha hc hk s m args below hf hfit hheap happ hpre
  obtain ⟨k, o, h1, h2, h3, rfl, hF⟩ := lw_comes l p e ha hc hk s m args below hf hfit hheap happ hpre
  exact ⟨k, _, h1, h2, h3, hL args s _, lw_frame hF⟩
theorem i_vc : Claimed_1_1 ∧ Claimed_1_2 := ⟨lw_limb limb_1_1 (fun args s t => by simp [limb_1_1, Cond.after, Cond.holds, Cond.value]), lw_limb limb_1_2 (fun args s t => Cond.after_iff.mpr (by
  first | (rw [show limb_1_2 = Cond.eq .result (.int 1) from rfl, Cond.eq_ints (x := 1) (y := 1) rfl rfl]; simp; done) | (simp [limb_1_2, Cond.value, Term.eval]; done)))⟩

end
