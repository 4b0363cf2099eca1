section
/-! Parts() and the reference's constructor -/
theorem D_ad {A : Nat → Prop} {cy : ClassId} {Sh : Shp} {ad : Nat → Nat} {M : Mm} (h : va_D A (ab_ws cy Sh ad M)) : va_D (ab_AD Sh ad) (ab_ws cy Sh ad M) := by
  refine ⟨h.1, fun k q hq => ?_⟩
  rw [ab_get] at hq
  cases e : Sh[k]? with
  | none => rw [e] at hq; cases hq
  | some x =>
    rw [e] at hq
    cases hq
    exact ⟨k, (List.getElem?_eq_some_iff.mp e).1, rfl⟩
theorem AD_A {A : Nat → Prop} {cy : ClassId} {Sh : Shp} {ad : Nat → Nat} {M : Mm} (h : va_D A (ab_ws cy Sh ad M)) : ∀ q, ab_AD Sh ad q → A q := fun q hq => by
  obtain ⟨k, hk, rfl⟩ := hq
  exact h.2 k (ad k, ab_cell cy ad (M k) Sh[k]) (by rw [ab_get, List.getElem?_eq_getElem hk]; rfl)
theorem D_of {A : Nat → Prop} {cy : ClassId} {Sh : Shp} {ad : Nat → Nat} {M : Mm} (hA : ∀ q, ab_AD Sh ad q → A q) (h : va_D (ab_AD Sh ad) (ab_ws cy Sh ad M)) : va_D A (ab_ws cy Sh ad M) := ⟨h.1, fun k q hq => hA _ (h.2 k q hq)⟩
def adL (l : List Nat) : Nat → Nat := fun k => l.getD k 0
def Mz : Mm := fun _ _ => 0
theorem ws_P (cy : ClassId) (ad : Nat → Nat) (M : Mm) : ab_ws cy PSh ad M = [((ad 0), .inr (2, [.ref (ad 1), .ref (ad 2), .ref (ad 3), .ref (ad 4), .ref (ad 5), .int (M 0 5)])), ((ad 1), .inl (cy, 432, .inl (M 1))), ((ad 2), .inl (cy, 24, .inl (M 2))), ((ad 3), .inl (cy, 24, .inl (M 3))), ((ad 4), .inl (cy, 7, .inl (M 4))), ((ad 5), .inl (cy, 24, .inl (M 5)))] := by
  simp [ab_ws, PSh, ab_cell, ab_flds]
theorem ws_M (cy : ClassId) (ad : Nat → Nat) (M : Mm) : ab_ws cy MSh ad M = [((ad 0), .inr (8, [.int (M 0 0), .ref (ad 1), .int (M 0 2), .int (M 0 3), .ref (ad 2), .ref (ad 3), .ref (ad 4), .ref (ad 5), .ref (ad 6), .ref (ad 7), .int (M 0 10), .ref (ad 8), .int (M 0 12), .ref (ad 9), .int (M 0 14), .ref (ad 10), .ref (ad 11), .int (M 0 17), .ref (ad 12), .ref (ad 13), .int (M 0 20)])), ((ad 1), .inl (cy, 432, .inl (M 1))), ((ad 2), .inl (cy, 24, .inl (M 2))), ((ad 3), .inl (cy, 24, .inl (M 3))), ((ad 4), .inl (cy, 24, .inl (M 4))), ((ad 5), .inl (cy, 192, .inl (M 5))), ((ad 6), .inl (cy, 24, .inl (M 6))), ((ad 7), .inl (cy, 24, .inl (M 7))), ((ad 8), .inl (cy, 24, .inl (M 8))), ((ad 9), .inl (cy, 6, .inl (M 9))), ((ad 10), .inl (cy, 1600, .inl (M 10))), ((ad 11), .inl (cy, 1600, .inl (M 11))), ((ad 12), .inl (cy, 144, .inl (M 12))), ((ad 13), .inl (cy, 144, .inl (M 13)))] := by
  simp [ab_ws, MSh, ab_cell, ab_flds]
theorem ws_X (cy : ClassId) (ad : Nat → Nat) (M : Mm) : ab_ws cy XSh ad M = [((ad 0), .inr (2, [.ref (ad 1), .ref (ad 2), .ref (ad 3), .ref (ad 4), .ref (ad 5), .int (M 0 5)])), ((ad 1), .inl (cy, 432, .inl (M 1))), ((ad 2), .inl (cy, 24, .inl (M 2))), ((ad 3), .inl (cy, 24, .inl (M 3))), ((ad 4), .inl (cy, 7, .inl (M 4))), ((ad 5), .inl (cy, 24, .inl (M 5))), ((ad 6), .inr (1, [.ref (ad 0), .ref (ad 7), .ref (ad 8)])), ((ad 7), .inl (cy, 192, .inl (M 7))), ((ad 8), .inl (cy, 24, .inl (M 8))), ((ad 9), .inr (3, [.ref (ad 0), .ref (ad 10), .int (M 9 2), .int (M 9 3), .int (M 9 4)])), ((ad 10), .inl (cy, 24, .inl (M 10))), ((ad 11), .inr (5, [.ref (ad 0), .ref (ad 12), .int (M 11 2)])), ((ad 12), .inl (cy, 24, .inl (M 12))), ((ad 13), .inr (6, [.ref (ad 0), .ref (ad 11), .ref (ad 14), .int (M 13 3), .int (M 13 4), .ref (ad 15), .ref (ad 16), .ref (ad 17), .int (M 13 8), .ref (ad 18), .int (M 13 10)])), ((ad 14), .inl (cy, 6, .inl (M 14))), ((ad 15), .inl (cy, 1600, .inl (M 15))), ((ad 16), .inl (cy, 1600, .inl (M 16))), ((ad 17), .inl (cy, 1600, .inl (M 17))), ((ad 18), .inl (cy, 1600, .inl (M 18))), ((ad 19), .inr (0, [.ref (ad 0), .ref (ad 6), .ref (ad 9), .ref (ad 20), .ref (ad 21), .int (M 19 5)])), ((ad 20), .inl (cy, 144, .inl (M 20))), ((ad 21), .inl (cy, 144, .inl (M 21))), ((ad 22), .inr (4, [.ref (ad 23), .int (M 22 1)])), ((ad 23), .inl (cy, 24, .inl (M 23))), ((ad 24), .inr (7, [.ref (ad 0), .ref (ad 6), .ref (ad 9), .ref (ad 11), .ref (ad 13), .ref (ad 19), .ref (ad 22), .int (M 24 7)]))] := by
  simp [ab_ws, XSh, PSh, XS0, ab_cell, ab_flds]
theorem rz_0 : rowAt Mz 5 0 5 [] := ⟨rfl, Nat.zero_le _, fun i hi => absurd hi (Nat.not_lt_zero _)⟩
set_option maxHeartbeats 800000 in
set_option maxRecDepth 100000 in
theorem c_X2_init (l : Launch) (D : va_G) (cy : ClassId) (h0 sz : Nat) : Met l yX2_init (ab_wm mX2_init) ({ frames := 3, cells := 5, slots := 511, locals := 71 }) (cn_Pc D cy [.ref h0] sz [(h0, .inr (2, [.null, .null, .null, .null, .null, .int 0]))]) (va_Qv (fun u : (Nat → Nat) × Mm => u.1 0 = h0 ∧ adQ Mz u.2 [] (-1) 0 0) (fun u t => cn_B D cy (va_A [(h0, .inr (2, [.null, .null, .null, .null, .null, .int 0]))] sz) (ab_ws cy PSh u.1 u.2) t) (va_A [(h0, .inr (2, [.null, .null, .null, .null, .null, .int 0]))] sz)) 5 511 (va_A [(h0, .inr (2, [.null, .null, .null, .null, .null, .int 0]))] sz) := by
  refine Met.ofW (cc := cX2_init) (maxL := 1) (ret := none) (by decide +kernel) rfl ?_
  intro p e s m args below meth c s₁ B hml hv
  obtain ⟨rfl, hsz, hP, hK, hD0, hN⟩ := hv
  have hx := B.exec
  have hb := B.bytes
  have hr := B.returns
  have hts0 := atoms_spec (ws := ab_wm mX2_init) B.pre
  have hts : ∀ w ∈ wAll, w.before _ s = true := fun w hw => hts0 w (List.mem_cons_of_mem _ hw)
  have hown : s.vm.findClass RX2 = some m.cls := findClass_of_methodNamed B.named
  have hlocks := B.notSynchronized
  have hin : meth.name = "<init>" := (name_of_methodNamed B.named B.method).1
  subst hsz
  have hD := hD0.self (sz := s.heap.size)
  generalize hAe : va_A [(h0, .inr (2, [.null, .null, .null, .null, .null, .int 0]))] s.heap.size = A at hD ⊢
  have hA : ∀ q : Nat, s.heap.size ≤ q → A q := fun q h => by rw [← hAe]; exact Or.inr h
  have hS : va_S A s.heap s.heap [] := va_S.rf
  have hP : va_P D vwCl [(h0, .inr (2, [.null, .null, .null, .null, .null, .int 0]))] s.heap := hP
  have hl := lv_entry ([.ref h0]) (n := 1) (Nat.le_of_ble_eq_true rfl)
  rw [lg_entry_eq]
  generalize (lg_sl ([.ref h0]) ++ List.replicate (1 - (lg_sl ([.ref h0])).length) Slot.unset).toArray = ls at hl ⊢
  have hl : lv_has ls 1 [(0, .ref h0)] := hl
  refine lv_aload_n hx hb dX2_init_0 rfl (lv_at hl 0 rfl) ?_
  refine W.objInit hx hb hown (hts (.methodLink RX2 3 Lib.objectInit) (wT1 25 rfl rfl)) (hts (.instanceMethod Lib.objectInit) (wT1 18 rfl rfl)) (hts (.code Lib.objectInit ⟨#[0xb1]⟩ 1 none) (wT1 19 rfl rfl)) rfl (by rw [hml]; exact hl.1) rfl dX2_init_1 (Nat.le_of_ble_eq_true rfl) (Nat.le_of_ble_eq_true rfl) ?_
  refine W.eq (g2 := F0 m 4 ls []) rfl ?_
  refine lv_aload_n hx hb dX2_init_4 rfl (lv_at hl 0 rfl) ?_
  refine lv_sipush (v := nI 432) hx hb dX2_init_5 (by decide) ?_
  refine cn_newa (N := 432) hx hb hts hK hP hD hS hA (by decide) (Nat.le_of_ble_eq_true rfl) (Nat.le_of_ble_eq_true rfl) dX2_init_8 (fun q1 H hP hD hS => ?_)
  have hP : va_P D vwCl [(h0, .inr (2, [.null, .null, .null, .null, .null, .int 0])), (q1, .inl (cy, 432, .inl (fun _ => 0)))] H := hP
  have hD : va_D A [(h0, .inr (2, [.null, .null, .null, .null, .null, .int 0])), (q1, .inl (cy, 432, .inl (fun _ => 0)))] := hD
  refine W.widen (k := 1) (n := 432) (by omega) (by omega) ?_
  refine va_putF (D := D) (ci := 2) (v := .ref q1) (ty := .array .int) (C := RX2) (T := TX2) (N := 6) hx hb hts inlX2 tyX2 tyX2_ok nmX2 hown hK hP hD hS 0 rfl rfl 0 (by decide) (hts (.fieldLink RX2 9 "PagesForAll$Parts" "held" "[I") (wT1 68 rfl rfl)) (fun _ h9 => h9) rfl hin rfl (by decide +kernel) rfl rfl (Nat.le_of_ble_eq_true rfl) dX2_init_10 (fun H locs hP hD hS => ?_)
  have hP : va_P D vwCl [(h0, .inr (2, [.ref q1, .null, .null, .null, .null, .int 0])), (q1, .inl (cy, 432, .inl (fun _ => 0)))] H := hP
  have hD : va_D A [(h0, .inr (2, [.ref q1, .null, .null, .null, .null, .int 0])), (q1, .inl (cy, 432, .inl (fun _ => 0)))] := hD
  refine lv_aload_n hx hb dX2_init_13 rfl (lv_at hl 0 rfl) ?_
  refine lv_bipush (v := nI 24) hx hb dX2_init_14 (by decide) ?_
  refine cn_newa (N := 24) hx hb hts hK hP hD hS hA (by decide) (Nat.le_of_ble_eq_true rfl) (Nat.le_of_ble_eq_true rfl) dX2_init_16 (fun q2 H hP hD hS => ?_)
  have hP : va_P D vwCl [(h0, .inr (2, [.ref q1, .null, .null, .null, .null, .int 0])), (q1, .inl (cy, 432, .inl (fun _ => 0))), (q2, .inl (cy, 24, .inl (fun _ => 0)))] H := hP
  have hD : va_D A [(h0, .inr (2, [.ref q1, .null, .null, .null, .null, .int 0])), (q1, .inl (cy, 432, .inl (fun _ => 0))), (q2, .inl (cy, 24, .inl (fun _ => 0)))] := hD
  refine W.widen (k := 2) (n := 456) (by omega) (by omega) ?_
  refine va_putF (D := D) (ci := 2) (v := .ref q2) (ty := .array .int) (C := RX2) (T := TX2) (N := 6) hx hb hts inlX2 tyX2 tyX2_ok nmX2 hown hK hP hD hS 0 rfl rfl 1 (by decide) (hts (.fieldLink RX2 15 "PagesForAll$Parts" "around" "[I") (wT1 69 rfl rfl)) (fun _ h9 => h9) rfl hin rfl (by decide +kernel) rfl rfl (Nat.le_of_ble_eq_true rfl) dX2_init_18 (fun H locs hP hD hS => ?_)
  have hP : va_P D vwCl [(h0, .inr (2, [.ref q1, .ref q2, .null, .null, .null, .int 0])), (q1, .inl (cy, 432, .inl (fun _ => 0))), (q2, .inl (cy, 24, .inl (fun _ => 0)))] H := hP
  have hD : va_D A [(h0, .inr (2, [.ref q1, .ref q2, .null, .null, .null, .int 0])), (q1, .inl (cy, 432, .inl (fun _ => 0))), (q2, .inl (cy, 24, .inl (fun _ => 0)))] := hD
  refine lv_aload_n hx hb dX2_init_21 rfl (lv_at hl 0 rfl) ?_
  refine lv_bipush (v := nI 24) hx hb dX2_init_22 (by decide) ?_
  refine cn_newa (N := 24) hx hb hts hK hP hD hS hA (by decide) (Nat.le_of_ble_eq_true rfl) (Nat.le_of_ble_eq_true rfl) dX2_init_24 (fun q3 H hP hD hS => ?_)
  have hP : va_P D vwCl [(h0, .inr (2, [.ref q1, .ref q2, .null, .null, .null, .int 0])), (q1, .inl (cy, 432, .inl (fun _ => 0))), (q2, .inl (cy, 24, .inl (fun _ => 0))), (q3, .inl (cy, 24, .inl (fun _ => 0)))] H := hP
  have hD : va_D A [(h0, .inr (2, [.ref q1, .ref q2, .null, .null, .null, .int 0])), (q1, .inl (cy, 432, .inl (fun _ => 0))), (q2, .inl (cy, 24, .inl (fun _ => 0))), (q3, .inl (cy, 24, .inl (fun _ => 0)))] := hD
  refine W.widen (k := 3) (n := 480) (by omega) (by omega) ?_
  refine va_putF (D := D) (ci := 2) (v := .ref q3) (ty := .array .int) (C := RX2) (T := TX2) (N := 6) hx hb hts inlX2 tyX2 tyX2_ok nmX2 hown hK hP hD hS 0 rfl rfl 2 (by decide) (hts (.fieldLink RX2 18 "PagesForAll$Parts" "within" "[I") (wT1 70 rfl rfl)) (fun _ h9 => h9) rfl hin rfl (by decide +kernel) rfl rfl (Nat.le_of_ble_eq_true rfl) dX2_init_26 (fun H locs hP hD hS => ?_)
  have hP : va_P D vwCl [(h0, .inr (2, [.ref q1, .ref q2, .ref q3, .null, .null, .int 0])), (q1, .inl (cy, 432, .inl (fun _ => 0))), (q2, .inl (cy, 24, .inl (fun _ => 0))), (q3, .inl (cy, 24, .inl (fun _ => 0)))] H := hP
  have hD : va_D A [(h0, .inr (2, [.ref q1, .ref q2, .ref q3, .null, .null, .int 0])), (q1, .inl (cy, 432, .inl (fun _ => 0))), (q2, .inl (cy, 24, .inl (fun _ => 0))), (q3, .inl (cy, 24, .inl (fun _ => 0)))] := hD
  refine lv_aload_n hx hb dX2_init_29 rfl (lv_at hl 0 rfl) ?_
  refine lv_bipush (v := nI 7) hx hb dX2_init_30 (by decide) ?_
  refine cn_newa (N := 7) hx hb hts hK hP hD hS hA (by decide) (Nat.le_of_ble_eq_true rfl) (Nat.le_of_ble_eq_true rfl) dX2_init_32 (fun q4 H hP hD hS => ?_)
  have hP : va_P D vwCl [(h0, .inr (2, [.ref q1, .ref q2, .ref q3, .null, .null, .int 0])), (q1, .inl (cy, 432, .inl (fun _ => 0))), (q2, .inl (cy, 24, .inl (fun _ => 0))), (q3, .inl (cy, 24, .inl (fun _ => 0))), (q4, .inl (cy, 7, .inl (fun _ => 0)))] H := hP
  have hD : va_D A [(h0, .inr (2, [.ref q1, .ref q2, .ref q3, .null, .null, .int 0])), (q1, .inl (cy, 432, .inl (fun _ => 0))), (q2, .inl (cy, 24, .inl (fun _ => 0))), (q3, .inl (cy, 24, .inl (fun _ => 0))), (q4, .inl (cy, 7, .inl (fun _ => 0)))] := hD
  refine W.widen (k := 4) (n := 487) (by omega) (by omega) ?_
  refine va_putF (D := D) (ci := 2) (v := .ref q4) (ty := .array .int) (C := RX2) (T := TX2) (N := 6) hx hb hts inlX2 tyX2 tyX2_ok nmX2 hown hK hP hD hS 0 rfl rfl 3 (by decide) (hts (.fieldLink RX2 21 "PagesForAll$Parts" "ofKind" "[I") (wT1 71 rfl rfl)) (fun _ h9 => h9) rfl hin rfl (by decide +kernel) rfl rfl (Nat.le_of_ble_eq_true rfl) dX2_init_34 (fun H locs hP hD hS => ?_)
  have hP : va_P D vwCl [(h0, .inr (2, [.ref q1, .ref q2, .ref q3, .ref q4, .null, .int 0])), (q1, .inl (cy, 432, .inl (fun _ => 0))), (q2, .inl (cy, 24, .inl (fun _ => 0))), (q3, .inl (cy, 24, .inl (fun _ => 0))), (q4, .inl (cy, 7, .inl (fun _ => 0)))] H := hP
  have hD : va_D A [(h0, .inr (2, [.ref q1, .ref q2, .ref q3, .ref q4, .null, .int 0])), (q1, .inl (cy, 432, .inl (fun _ => 0))), (q2, .inl (cy, 24, .inl (fun _ => 0))), (q3, .inl (cy, 24, .inl (fun _ => 0))), (q4, .inl (cy, 7, .inl (fun _ => 0)))] := hD
  refine lv_aload_n hx hb dX2_init_37 rfl (lv_at hl 0 rfl) ?_
  refine lv_bipush (v := nI 24) hx hb dX2_init_38 (by decide) ?_
  refine cn_newa (N := 24) hx hb hts hK hP hD hS hA (by decide) (Nat.le_of_ble_eq_true rfl) (Nat.le_of_ble_eq_true rfl) dX2_init_40 (fun q5 H hP hD hS => ?_)
  have hP : va_P D vwCl [(h0, .inr (2, [.ref q1, .ref q2, .ref q3, .ref q4, .null, .int 0])), (q1, .inl (cy, 432, .inl (fun _ => 0))), (q2, .inl (cy, 24, .inl (fun _ => 0))), (q3, .inl (cy, 24, .inl (fun _ => 0))), (q4, .inl (cy, 7, .inl (fun _ => 0))), (q5, .inl (cy, 24, .inl (fun _ => 0)))] H := hP
  have hD : va_D A [(h0, .inr (2, [.ref q1, .ref q2, .ref q3, .ref q4, .null, .int 0])), (q1, .inl (cy, 432, .inl (fun _ => 0))), (q2, .inl (cy, 24, .inl (fun _ => 0))), (q3, .inl (cy, 24, .inl (fun _ => 0))), (q4, .inl (cy, 7, .inl (fun _ => 0))), (q5, .inl (cy, 24, .inl (fun _ => 0)))] := hD
  refine W.widen (k := 5) (n := 511) (by omega) (by omega) ?_
  refine va_putF (D := D) (ci := 2) (v := .ref q5) (ty := .array .int) (C := RX2) (T := TX2) (N := 6) hx hb hts inlX2 tyX2 tyX2_ok nmX2 hown hK hP hD hS 0 rfl rfl 4 (by decide) (hts (.fieldLink RX2 24 "PagesForAll$Parts" "order" "[I") (wT1 74 rfl rfl)) (fun _ h9 => h9) rfl hin rfl (by decide +kernel) rfl rfl (Nat.le_of_ble_eq_true rfl) dX2_init_42 (fun H locs hP hD hS => ?_)
  have hP : va_P D vwCl [(h0, .inr (2, [.ref q1, .ref q2, .ref q3, .ref q4, .ref q5, .int 0])), (q1, .inl (cy, 432, .inl (fun _ => 0))), (q2, .inl (cy, 24, .inl (fun _ => 0))), (q3, .inl (cy, 24, .inl (fun _ => 0))), (q4, .inl (cy, 7, .inl (fun _ => 0))), (q5, .inl (cy, 24, .inl (fun _ => 0)))] H := hP
  have hD : va_D A [(h0, .inr (2, [.ref q1, .ref q2, .ref q3, .ref q4, .ref q5, .int 0])), (q1, .inl (cy, 432, .inl (fun _ => 0))), (q2, .inl (cy, 24, .inl (fun _ => 0))), (q3, .inl (cy, 24, .inl (fun _ => 0))), (q4, .inl (cy, 7, .inl (fun _ => 0))), (q5, .inl (cy, 24, .inl (fun _ => 0)))] := hD
  refine lv_aload_n hx hb dX2_init_45 rfl (lv_at hl 0 rfl) ?_
  refine lv_iconst (v := (0)) hx hb dX2_init_46 (by decide) ?_
  refine va_put (D := D) (ci := 2) (v := .int (0)) (ty := .int) (C := RX2) (T := TX2) (N := 6) hx hb hts inlX2 tyX2 tyX2_ok nmX2 hown hK hP hD hS 0 rfl rfl 5 (by decide) (hts (.fieldLink RX2 27 "PagesForAll$Parts" "size" "I") (wT1 78 rfl rfl)) (fun _ h9 => h9) rfl (by decide +kernel) rfl rfl (Nat.le_of_ble_eq_true rfl) dX2_init_47 (fun H locs hP hD hS => ?_)
  have hP : va_P D vwCl [(h0, .inr (2, [.ref q1, .ref q2, .ref q3, .ref q4, .ref q5, .int (0)])), (q1, .inl (cy, 432, .inl (fun _ => 0))), (q2, .inl (cy, 24, .inl (fun _ => 0))), (q3, .inl (cy, 24, .inl (fun _ => 0))), (q4, .inl (cy, 7, .inl (fun _ => 0))), (q5, .inl (cy, 24, .inl (fun _ => 0)))] H := hP
  have hD : va_D A [(h0, .inr (2, [.ref q1, .ref q2, .ref q3, .ref q4, .ref q5, .int (0)])), (q1, .inl (cy, 432, .inl (fun _ => 0))), (q2, .inl (cy, 24, .inl (fun _ => 0))), (q3, .inl (cy, 24, .inl (fun _ => 0))), (q4, .inl (cy, 7, .inl (fun _ => 0))), (q5, .inl (cy, 24, .inl (fun _ => 0)))] := hD
  obtain ⟨ad, had⟩ : ∃ ad : Nat → Nat, ad = adL [h0, q1, q2, q3, q4, q5] := ⟨_, rfl⟩
  have hww : ab_ws cy PSh ad Mz = [(h0, .inr (2, [.ref q1, .ref q2, .ref q3, .ref q4, .ref q5, .int (0)])), (q1, .inl (cy, 432, .inl (fun _ => 0))), (q2, .inl (cy, 24, .inl (fun _ => 0))), (q3, .inl (cy, 24, .inl (fun _ => 0))), (q4, .inl (cy, 7, .inl (fun _ => 0))), (q5, .inl (cy, 24, .inl (fun _ => 0)))] := by rw [had, ws_P]; rfl
  have hPw : va_P D vwCl (ab_ws cy PSh ad Mz) H := by rw [hww]; exact hP
  have hDw : va_D A (ab_ws cy PSh ad Mz) := by rw [hww]; exact hD
  have h0e : ad 0 = h0 := by rw [had]; rfl
  have hAD := AD_A hDw
  refine lv_aload_n hx hb dX2_init_50 rfl (lv_at hl 0 rfl) ?_
  refine lv_iconst (v := (-1)) hx hb dX2_init_51 (by decide) ?_
  refine lv_iconst (v := nI 0) hx hb dX2_init_52 (by decide) ?_
  refine cn_callX (st0 := [.int (nI 0), .int (-1), .ref h0]) (by have z := cn_run (l := l) (e := e) (R := { frames := 3, cells := 5, slots := 511, locals := 71 }) (below := below) (meth := meth) (locs := locs) (cells := 5) (slots := 511) (as := [.int (-1), .int (nI 0)]) (rest := []) (k := 0) (M := Mz) (Sh := PSh ++ []) hx hb hml hown hts hN hK hPw (D_ad hDw) (wT1 26 rfl rfl) moX2_add imX2_add ⟨Nat.le_of_ble_eq_true rfl, Nat.le_of_ble_eq_true rfl⟩ ⟨_, _, rfl, rfl, rfl⟩ rfl (Nat.le_of_ble_eq_true rfl) hl.1 (Nat.le_of_ble_eq_true rfl) dX2_init_53 ⟨Nat.le_of_ble_eq_true rfl, Nat.le_of_ble_eq_true rfl⟩ (s_X2_add (X := []) (M := Mz) (ol := []) (x := -1) (k := 0) (kk := 0) rz_0 (fun y hy => absurd hy List.not_mem_nil) (by decide) (by decide) (Or.inr ⟨inB_m1 _, rfl⟩)); rw [h0e] at z; exact z) hS hAD (fun r M2 H1 locs1 hq hP1 hD1 hS hz1 hk1 => ?_)
  obtain ⟨rfl, hq⟩ := hq
  show W p l e _ s m _ below meth c H1 locs1 5 511 _ (F0 m 56 ls [.int (nI 0)])
  refine lv_pop hx hb dX2_init_56 rfl ?_
  exact W.vret hx hb hr (fun t ht hW => ⟨⟨((ad, M2) : (Nat → Nat) × Mm), rfl, ⟨h0e, hq⟩, by rw [ht]; exact hP1, va_K.moved hW.alike hK, D_of hAD hD1⟩, hS.F ht⟩) hS.2.2 dX2_init_57
theorem rs_0 {M2 : Mm} (hq : Sm1 (mst Mz 0 2 (-1)) M2 (pfH (mst Mz 0 2 (-1) 1) 0 (-1) 0)) : RS (mst M2 0 0 (nI 1)) s0S := by
  have e1 : mst Mz 0 2 (-1) 1 = fun _ => 0 := by rw [mst_other _ _ _ (by decide)]; rfl
  refine ⟨?_, ?_, ?_, ?_⟩
  · rw [mst_other _ _ _ (by decide), hq.2, e1]
    rfl
  · rw [mst_same, upd, if_pos rfl]
    rfl
  · rw [mst_same, upd, if_neg (by decide), hq.1 0 (by decide), mst_same, upd, if_pos rfl]
    exact pm_0.symm
  · refine ⟨?_, Nat.zero_le _, fun i hi => absurd hi (Nat.not_lt_zero _)⟩
    rw [mst_same, upd, if_neg (by decide), hq.1 0 (by decide), mst_same, upd, if_neg (by decide)]
    rfl
end
