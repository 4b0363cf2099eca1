section
/-! the small constructors -/
set_option maxHeartbeats 4000000 in
set_option maxRecDepth 100000 in
theorem c_X1_init (l : Launch) (D : va_G) (cy : ClassId) (h0 a1 sz : Nat) : Met l yX1_init (ab_wm mX1_init) ({ frames := 1, cells := 2, slots := 216, locals := 12 }) (cn_Pc D cy [.ref h0, .ref a1] sz [(h0, .inr (1, [.null, .null, .null]))]) (va_Qv (fun u : Nat × Nat => True) (fun u t => cn_B D cy (va_A [(h0, .inr (1, [.null, .null, .null]))] sz) [(h0, .inr (1, [.ref a1, .ref u.1, .ref u.2])), (u.1, .inl (cy, 192, .inl (fun _ => 0))), (u.2, .inl (cy, 24, .inl (fun _ => 0)))] t) (va_A [(h0, .inr (1, [.null, .null, .null]))] sz)) 2 216 (va_A [(h0, .inr (1, [.null, .null, .null]))] sz) := by
  refine Met.ofW (cc := cX1_init) (maxL := 2) (ret := none) (by decide +kernel) rfl ?_
  intro p e s m args below meth c s₁ B hml hv
  obtain ⟨rfl, hsz, hP, hK, hD0, hN⟩ := hv
  have hx := B.exec
  have hb := B.bytes
  have hr := B.returns
  have hts0 := atoms_spec (ws := ab_wm mX1_init) B.pre
  have hts : ∀ w ∈ wAll, w.before _ s = true := fun w hw => hts0 w (List.mem_cons_of_mem _ hw)
  have hown : s.vm.findClass RX1 = some m.cls := findClass_of_methodNamed B.named
  have hlocks := B.notSynchronized
  have hin : meth.name = "<init>" := (name_of_methodNamed B.named B.method).1
  subst hsz
  have hD := hD0.self (sz := s.heap.size)
  generalize hAe : va_A [(h0, .inr (1, [.null, .null, .null]))] s.heap.size = A at hD ⊢
  have hA : ∀ q : Nat, s.heap.size ≤ q → A q := fun q h => by rw [← hAe]; exact Or.inr h
  have hS : va_S A s.heap s.heap [] := va_S.rf
  have hP : va_P D vwCl [(h0, .inr (1, [.null, .null, .null]))] s.heap := hP
  have hl := lv_entry ([.ref h0, .ref a1]) (n := 2) (Nat.le_of_ble_eq_true rfl)
  rw [lg_entry_eq]
  generalize (lg_sl ([.ref h0, .ref a1]) ++ List.replicate (2 - (lg_sl ([.ref h0, .ref a1])).length) Slot.unset).toArray = ls at hl ⊢
  have hl : lv_has ls 2 [(0, .ref h0), (1, .ref a1)] := hl
  refine lv_aload_n hx hb dX1_init_0 rfl (lv_at hl 0 rfl) ?_
  refine W.objInit hx hb hown (hts (.methodLink RX1 3 Lib.objectInit) (wT1 104 rfl rfl)) (hts (.instanceMethod Lib.objectInit) (wT1 18 rfl rfl)) (hts (.code Lib.objectInit ⟨#[0xb1]⟩ 1 none) (wT1 19 rfl rfl)) rfl (by rw [hml]; exact hl.1) rfl dX1_init_1 (Nat.le_of_ble_eq_true rfl) (Nat.le_of_ble_eq_true rfl) ?_
  refine W.eq (g2 := F0 m 4 ls []) rfl ?_
  refine lv_aload_n hx hb dX1_init_4 rfl (lv_at hl 0 rfl) ?_
  refine lv_sipush (v := nI 192) hx hb dX1_init_5 (by decide) ?_
  refine cn_newa (N := 192) hx hb hts hK hP hD hS hA (by decide) (Nat.le_of_ble_eq_true rfl) (Nat.le_of_ble_eq_true rfl) dX1_init_8 (fun q1 H hP hD hS => ?_)
  have hP : va_P D vwCl [(h0, .inr (1, [.null, .null, .null])), (q1, .inl (cy, 192, .inl (fun _ => 0)))] H := hP
  have hD : va_D A [(h0, .inr (1, [.null, .null, .null])), (q1, .inl (cy, 192, .inl (fun _ => 0)))] := hD
  refine W.widen (k := 1) (n := 192) (by omega) (by omega) ?_
  refine va_putF (D := D) (ci := 1) (v := .ref q1) (ty := .array .int) (C := RX1) (T := TX1) (N := 3) hx hb hts inlX1 tyX1 tyX1_ok nmX1 hown hK hP hD hS 0 rfl rfl 1 (by decide) (hts (.fieldLink RX1 9 "PagesForAll$Names" "words" "[I") (wT1 106 rfl rfl)) (fun _ h9 => h9) rfl hin rfl (by decide +kernel) rfl rfl (Nat.le_of_ble_eq_true rfl) dX1_init_10 (fun H locs hP hD hS => ?_)
  have hP : va_P D vwCl [(h0, .inr (1, [.null, .ref q1, .null])), (q1, .inl (cy, 192, .inl (fun _ => 0)))] H := hP
  have hD : va_D A [(h0, .inr (1, [.null, .ref q1, .null])), (q1, .inl (cy, 192, .inl (fun _ => 0)))] := hD
  refine lv_aload_n hx hb dX1_init_13 rfl (lv_at hl 0 rfl) ?_
  refine lv_bipush (v := nI 24) hx hb dX1_init_14 (by decide) ?_
  refine cn_newa (N := 24) hx hb hts hK hP hD hS hA (by decide) (Nat.le_of_ble_eq_true rfl) (Nat.le_of_ble_eq_true rfl) dX1_init_16 (fun q2 H hP hD hS => ?_)
  have hP : va_P D vwCl [(h0, .inr (1, [.null, .ref q1, .null])), (q1, .inl (cy, 192, .inl (fun _ => 0))), (q2, .inl (cy, 24, .inl (fun _ => 0)))] H := hP
  have hD : va_D A [(h0, .inr (1, [.null, .ref q1, .null])), (q1, .inl (cy, 192, .inl (fun _ => 0))), (q2, .inl (cy, 24, .inl (fun _ => 0)))] := hD
  refine W.widen (k := 2) (n := 216) (by omega) (by omega) ?_
  refine va_putF (D := D) (ci := 1) (v := .ref q2) (ty := .array .int) (C := RX1) (T := TX1) (N := 3) hx hb hts inlX1 tyX1 tyX1_ok nmX1 hown hK hP hD hS 0 rfl rfl 2 (by decide) (hts (.fieldLink RX1 15 "PagesForAll$Names" "lengths" "[I") (wT1 107 rfl rfl)) (fun _ h9 => h9) rfl hin rfl (by decide +kernel) rfl rfl (Nat.le_of_ble_eq_true rfl) dX1_init_18 (fun H locs hP hD hS => ?_)
  have hP : va_P D vwCl [(h0, .inr (1, [.null, .ref q1, .ref q2])), (q1, .inl (cy, 192, .inl (fun _ => 0))), (q2, .inl (cy, 24, .inl (fun _ => 0)))] H := hP
  have hD : va_D A [(h0, .inr (1, [.null, .ref q1, .ref q2])), (q1, .inl (cy, 192, .inl (fun _ => 0))), (q2, .inl (cy, 24, .inl (fun _ => 0)))] := hD
  refine lv_aload_n hx hb dX1_init_21 rfl (lv_at hl 0 rfl) ?_
  refine lv_aload_n hx hb dX1_init_22 rfl (lv_at hl 1 rfl) ?_
  refine va_putF (D := D) (ci := 1) (v := .ref a1) (ty := .object "PagesForAll$Parts") (C := RX1) (T := TX1) (N := 3) hx hb hts inlX1 tyX1 tyX1_ok nmX1 hown hK hP hD hS 0 rfl rfl 0 (by decide) (hts (.fieldLink RX1 18 "PagesForAll$Names" "parts" "LPagesForAll$Parts;") (wT1 105 rfl rfl)) (fun _ h9 => h9) rfl hin rfl (by decide +kernel) rfl rfl (Nat.le_of_ble_eq_true rfl) dX1_init_23 (fun H locs hP hD hS => ?_)
  have hP : va_P D vwCl [(h0, .inr (1, [.ref a1, .ref q1, .ref q2])), (q1, .inl (cy, 192, .inl (fun _ => 0))), (q2, .inl (cy, 24, .inl (fun _ => 0)))] H := hP
  have hD : va_D A [(h0, .inr (1, [.ref a1, .ref q1, .ref q2])), (q1, .inl (cy, 192, .inl (fun _ => 0))), (q2, .inl (cy, 24, .inl (fun _ => 0)))] := hD
  exact W.vret hx hb hr (fun t ht hW => ⟨⟨((q1, q2) : Nat × Nat), rfl, trivial, by rw [ht]; exact hP, va_K.moved hW.alike hK, hD⟩, hS.F ht⟩) hS.2.2 dX1_init_26
set_option maxHeartbeats 4000000 in
set_option maxRecDepth 100000 in
theorem c_X3_init (l : Launch) (D : va_G) (cy : ClassId) (h0 a1 sz : Nat) : Met l yX3_init (ab_wm mX3_init) ({ frames := 1, cells := 1, slots := 24, locals := 12 }) (cn_Pc D cy [.ref h0, .ref a1] sz [(h0, .inr (3, [.null, .null, .int 0, .int 0, .int 0]))]) (va_Qv (fun u : Nat => True) (fun u t => cn_B D cy (va_A [(h0, .inr (3, [.null, .null, .int 0, .int 0, .int 0]))] sz) [(h0, .inr (3, [.ref a1, .ref u, .int (0), .int (0), .int (0)])), (u, .inl (cy, 24, .inl (fun _ => 0)))] t) (va_A [(h0, .inr (3, [.null, .null, .int 0, .int 0, .int 0]))] sz)) 1 24 (va_A [(h0, .inr (3, [.null, .null, .int 0, .int 0, .int 0]))] sz) := by
  refine Met.ofW (cc := cX3_init) (maxL := 2) (ret := none) (by decide +kernel) rfl ?_
  intro p e s m args below meth c s₁ B hml hv
  obtain ⟨rfl, hsz, hP, hK, hD0, hN⟩ := hv
  have hx := B.exec
  have hb := B.bytes
  have hr := B.returns
  have hts0 := atoms_spec (ws := ab_wm mX3_init) B.pre
  have hts : ∀ w ∈ wAll, w.before _ s = true := fun w hw => hts0 w (List.mem_cons_of_mem _ hw)
  have hown : s.vm.findClass RX3 = some m.cls := findClass_of_methodNamed B.named
  have hlocks := B.notSynchronized
  have hin : meth.name = "<init>" := (name_of_methodNamed B.named B.method).1
  subst hsz
  have hD := hD0.self (sz := s.heap.size)
  generalize hAe : va_A [(h0, .inr (3, [.null, .null, .int 0, .int 0, .int 0]))] s.heap.size = A at hD ⊢
  have hA : ∀ q : Nat, s.heap.size ≤ q → A q := fun q h => by rw [← hAe]; exact Or.inr h
  have hS : va_S A s.heap s.heap [] := va_S.rf
  have hP : va_P D vwCl [(h0, .inr (3, [.null, .null, .int 0, .int 0, .int 0]))] s.heap := hP
  have hl := lv_entry ([.ref h0, .ref a1]) (n := 2) (Nat.le_of_ble_eq_true rfl)
  rw [lg_entry_eq]
  generalize (lg_sl ([.ref h0, .ref a1]) ++ List.replicate (2 - (lg_sl ([.ref h0, .ref a1])).length) Slot.unset).toArray = ls at hl ⊢
  have hl : lv_has ls 2 [(0, .ref h0), (1, .ref a1)] := hl
  refine lv_aload_n hx hb dX3_init_0 rfl (lv_at hl 0 rfl) ?_
  refine W.objInit hx hb hown (hts (.methodLink RX3 3 Lib.objectInit) (wT1 120 rfl rfl)) (hts (.instanceMethod Lib.objectInit) (wT1 18 rfl rfl)) (hts (.code Lib.objectInit ⟨#[0xb1]⟩ 1 none) (wT1 19 rfl rfl)) rfl (by rw [hml]; exact hl.1) rfl dX3_init_1 (Nat.le_of_ble_eq_true rfl) (Nat.le_of_ble_eq_true rfl) ?_
  refine W.eq (g2 := F0 m 4 ls []) rfl ?_
  refine lv_aload_n hx hb dX3_init_4 rfl (lv_at hl 0 rfl) ?_
  refine lv_bipush (v := nI 24) hx hb dX3_init_5 (by decide) ?_
  refine cn_newa (N := 24) hx hb hts hK hP hD hS hA (by decide) (Nat.le_of_ble_eq_true rfl) (Nat.le_of_ble_eq_true rfl) dX3_init_7 (fun q1 H hP hD hS => ?_)
  have hP : va_P D vwCl [(h0, .inr (3, [.null, .null, .int 0, .int 0, .int 0])), (q1, .inl (cy, 24, .inl (fun _ => 0)))] H := hP
  have hD : va_D A [(h0, .inr (3, [.null, .null, .int 0, .int 0, .int 0])), (q1, .inl (cy, 24, .inl (fun _ => 0)))] := hD
  refine W.widen (k := 1) (n := 24) (by omega) (by omega) ?_
  refine va_putF (D := D) (ci := 3) (v := .ref q1) (ty := .array .int) (C := RX3) (T := TX3) (N := 5) hx hb hts inlX3 tyX3 tyX3_ok nmX3 hown hK hP hD hS 0 rfl rfl 1 (by decide) (hts (.fieldLink RX3 9 "PagesForAll$Reading" "row" "[I") (wT1 122 rfl rfl)) (fun _ h9 => h9) rfl hin rfl (by decide +kernel) rfl rfl (Nat.le_of_ble_eq_true rfl) dX3_init_9 (fun H locs hP hD hS => ?_)
  have hP : va_P D vwCl [(h0, .inr (3, [.null, .ref q1, .int 0, .int 0, .int 0])), (q1, .inl (cy, 24, .inl (fun _ => 0)))] H := hP
  have hD : va_D A [(h0, .inr (3, [.null, .ref q1, .int 0, .int 0, .int 0])), (q1, .inl (cy, 24, .inl (fun _ => 0)))] := hD
  refine lv_aload_n hx hb dX3_init_12 rfl (lv_at hl 0 rfl) ?_
  refine lv_aload_n hx hb dX3_init_13 rfl (lv_at hl 1 rfl) ?_
  refine va_putF (D := D) (ci := 3) (v := .ref a1) (ty := .object "PagesForAll$Parts") (C := RX3) (T := TX3) (N := 5) hx hb hts inlX3 tyX3 tyX3_ok nmX3 hown hK hP hD hS 0 rfl rfl 0 (by decide) (hts (.fieldLink RX3 15 "PagesForAll$Reading" "parts" "LPagesForAll$Parts;") (wT1 121 rfl rfl)) (fun _ h9 => h9) rfl hin rfl (by decide +kernel) rfl rfl (Nat.le_of_ble_eq_true rfl) dX3_init_14 (fun H locs hP hD hS => ?_)
  have hP : va_P D vwCl [(h0, .inr (3, [.ref a1, .ref q1, .int 0, .int 0, .int 0])), (q1, .inl (cy, 24, .inl (fun _ => 0)))] H := hP
  have hD : va_D A [(h0, .inr (3, [.ref a1, .ref q1, .int 0, .int 0, .int 0])), (q1, .inl (cy, 24, .inl (fun _ => 0)))] := hD
  refine lv_aload_n hx hb dX3_init_17 rfl (lv_at hl 0 rfl) ?_
  refine lv_iconst (v := (0)) hx hb dX3_init_18 (by decide) ?_
  refine va_put (D := D) (ci := 3) (v := .int (0)) (ty := .int) (C := RX3) (T := TX3) (N := 5) hx hb hts inlX3 tyX3 tyX3_ok nmX3 hown hK hP hD hS 0 rfl rfl 2 (by decide) (hts (.fieldLink RX3 19 "PagesForAll$Reading" "size" "I") (wT1 123 rfl rfl)) (fun _ h9 => h9) rfl (by decide +kernel) rfl rfl (Nat.le_of_ble_eq_true rfl) dX3_init_19 (fun H locs hP hD hS => ?_)
  have hP : va_P D vwCl [(h0, .inr (3, [.ref a1, .ref q1, .int (0), .int 0, .int 0])), (q1, .inl (cy, 24, .inl (fun _ => 0)))] H := hP
  have hD : va_D A [(h0, .inr (3, [.ref a1, .ref q1, .int (0), .int 0, .int 0])), (q1, .inl (cy, 24, .inl (fun _ => 0)))] := hD
  refine lv_aload_n hx hb dX3_init_22 rfl (lv_at hl 0 rfl) ?_
  refine lv_iconst (v := (0)) hx hb dX3_init_23 (by decide) ?_
  refine va_put (D := D) (ci := 3) (v := .int (0)) (ty := .int) (C := RX3) (T := TX3) (N := 5) hx hb hts inlX3 tyX3 tyX3_ok nmX3 hown hK hP hD hS 0 rfl rfl 3 (by decide) (hts (.fieldLink RX3 23 "PagesForAll$Reading" "astray" "I") (wT1 125 rfl rfl)) (fun _ h9 => h9) rfl (by decide +kernel) rfl rfl (Nat.le_of_ble_eq_true rfl) dX3_init_24 (fun H locs hP hD hS => ?_)
  have hP : va_P D vwCl [(h0, .inr (3, [.ref a1, .ref q1, .int (0), .int (0), .int 0])), (q1, .inl (cy, 24, .inl (fun _ => 0)))] H := hP
  have hD : va_D A [(h0, .inr (3, [.ref a1, .ref q1, .int (0), .int (0), .int 0])), (q1, .inl (cy, 24, .inl (fun _ => 0)))] := hD
  refine lv_aload_n hx hb dX3_init_27 rfl (lv_at hl 0 rfl) ?_
  refine lv_iconst (v := (0)) hx hb dX3_init_28 (by decide) ?_
  refine va_put (D := D) (ci := 3) (v := .int (0)) (ty := .int) (C := RX3) (T := TX3) (N := 5) hx hb hts inlX3 tyX3 tyX3_ok nmX3 hown hK hP hD hS 0 rfl rfl 4 (by decide) (hts (.fieldLink RX3 26 "PagesForAll$Reading" "astrayPairs" "I") (wT1 127 rfl rfl)) (fun _ h9 => h9) rfl (by decide +kernel) rfl rfl (Nat.le_of_ble_eq_true rfl) dX3_init_29 (fun H locs hP hD hS => ?_)
  have hP : va_P D vwCl [(h0, .inr (3, [.ref a1, .ref q1, .int (0), .int (0), .int (0)])), (q1, .inl (cy, 24, .inl (fun _ => 0)))] H := hP
  have hD : va_D A [(h0, .inr (3, [.ref a1, .ref q1, .int (0), .int (0), .int (0)])), (q1, .inl (cy, 24, .inl (fun _ => 0)))] := hD
  exact W.vret hx hb hr (fun t ht hW => ⟨⟨(q1 : Nat), rfl, trivial, by rw [ht]; exact hP, va_K.moved hW.alike hK, hD⟩, hS.F ht⟩) hS.2.2 dX3_init_32
set_option maxHeartbeats 4000000 in
set_option maxRecDepth 100000 in
theorem c_X5_init (l : Launch) (D : va_G) (cy : ClassId) (h0 a1 sz : Nat) : Met l yX5_init (ab_wm mX5_init) ({ frames := 1, cells := 1, slots := 24, locals := 12 }) (cn_Pc D cy [.ref h0, .ref a1] sz [(h0, .inr (5, [.null, .null, .int 0]))]) (va_Qv (fun u : Nat => True) (fun u t => cn_B D cy (va_A [(h0, .inr (5, [.null, .null, .int 0]))] sz) [(h0, .inr (5, [.ref a1, .ref u, .int (0)])), (u, .inl (cy, 24, .inl (fun _ => 0)))] t) (va_A [(h0, .inr (5, [.null, .null, .int 0]))] sz)) 1 24 (va_A [(h0, .inr (5, [.null, .null, .int 0]))] sz) := by
  refine Met.ofW (cc := cX5_init) (maxL := 2) (ret := none) (by decide +kernel) rfl ?_
  intro p e s m args below meth c s₁ B hml hv
  obtain ⟨rfl, hsz, hP, hK, hD0, hN⟩ := hv
  have hx := B.exec
  have hb := B.bytes
  have hr := B.returns
  have hts0 := atoms_spec (ws := ab_wm mX5_init) B.pre
  have hts : ∀ w ∈ wAll, w.before _ s = true := fun w hw => hts0 w (List.mem_cons_of_mem _ hw)
  have hown : s.vm.findClass RX5 = some m.cls := findClass_of_methodNamed B.named
  have hlocks := B.notSynchronized
  have hin : meth.name = "<init>" := (name_of_methodNamed B.named B.method).1
  subst hsz
  have hD := hD0.self (sz := s.heap.size)
  generalize hAe : va_A [(h0, .inr (5, [.null, .null, .int 0]))] s.heap.size = A at hD ⊢
  have hA : ∀ q : Nat, s.heap.size ≤ q → A q := fun q h => by rw [← hAe]; exact Or.inr h
  have hS : va_S A s.heap s.heap [] := va_S.rf
  have hP : va_P D vwCl [(h0, .inr (5, [.null, .null, .int 0]))] s.heap := hP
  have hl := lv_entry ([.ref h0, .ref a1]) (n := 2) (Nat.le_of_ble_eq_true rfl)
  rw [lg_entry_eq]
  generalize (lg_sl ([.ref h0, .ref a1]) ++ List.replicate (2 - (lg_sl ([.ref h0, .ref a1])).length) Slot.unset).toArray = ls at hl ⊢
  have hl : lv_has ls 2 [(0, .ref h0), (1, .ref a1)] := hl
  refine lv_aload_n hx hb dX5_init_0 rfl (lv_at hl 0 rfl) ?_
  refine W.objInit hx hb hown (hts (.methodLink RX5 3 Lib.objectInit) (wT1 145 rfl rfl)) (hts (.instanceMethod Lib.objectInit) (wT1 18 rfl rfl)) (hts (.code Lib.objectInit ⟨#[0xb1]⟩ 1 none) (wT1 19 rfl rfl)) rfl (by rw [hml]; exact hl.1) rfl dX5_init_1 (Nat.le_of_ble_eq_true rfl) (Nat.le_of_ble_eq_true rfl) ?_
  refine W.eq (g2 := F0 m 4 ls []) rfl ?_
  refine lv_aload_n hx hb dX5_init_4 rfl (lv_at hl 0 rfl) ?_
  refine lv_bipush (v := nI 24) hx hb dX5_init_5 (by decide) ?_
  refine cn_newa (N := 24) hx hb hts hK hP hD hS hA (by decide) (Nat.le_of_ble_eq_true rfl) (Nat.le_of_ble_eq_true rfl) dX5_init_7 (fun q1 H hP hD hS => ?_)
  have hP : va_P D vwCl [(h0, .inr (5, [.null, .null, .int 0])), (q1, .inl (cy, 24, .inl (fun _ => 0)))] H := hP
  have hD : va_D A [(h0, .inr (5, [.null, .null, .int 0])), (q1, .inl (cy, 24, .inl (fun _ => 0)))] := hD
  refine W.widen (k := 1) (n := 24) (by omega) (by omega) ?_
  refine va_putF (D := D) (ci := 5) (v := .ref q1) (ty := .array .int) (C := RX5) (T := TX5) (N := 3) hx hb hts inlX5 tyX5 tyX5_ok nmX5 hown hK hP hD hS 0 rfl rfl 1 (by decide) (hts (.fieldLink RX5 9 "PagesForAll$Stops" "row" "[I") (wT1 147 rfl rfl)) (fun _ h9 => h9) rfl hin rfl (by decide +kernel) rfl rfl (Nat.le_of_ble_eq_true rfl) dX5_init_9 (fun H locs hP hD hS => ?_)
  have hP : va_P D vwCl [(h0, .inr (5, [.null, .ref q1, .int 0])), (q1, .inl (cy, 24, .inl (fun _ => 0)))] H := hP
  have hD : va_D A [(h0, .inr (5, [.null, .ref q1, .int 0])), (q1, .inl (cy, 24, .inl (fun _ => 0)))] := hD
  refine lv_aload_n hx hb dX5_init_12 rfl (lv_at hl 0 rfl) ?_
  refine lv_aload_n hx hb dX5_init_13 rfl (lv_at hl 1 rfl) ?_
  refine va_putF (D := D) (ci := 5) (v := .ref a1) (ty := .object "PagesForAll$Parts") (C := RX5) (T := TX5) (N := 3) hx hb hts inlX5 tyX5 tyX5_ok nmX5 hown hK hP hD hS 0 rfl rfl 0 (by decide) (hts (.fieldLink RX5 15 "PagesForAll$Stops" "parts" "LPagesForAll$Parts;") (wT1 146 rfl rfl)) (fun _ h9 => h9) rfl hin rfl (by decide +kernel) rfl rfl (Nat.le_of_ble_eq_true rfl) dX5_init_14 (fun H locs hP hD hS => ?_)
  have hP : va_P D vwCl [(h0, .inr (5, [.ref a1, .ref q1, .int 0])), (q1, .inl (cy, 24, .inl (fun _ => 0)))] H := hP
  have hD : va_D A [(h0, .inr (5, [.ref a1, .ref q1, .int 0])), (q1, .inl (cy, 24, .inl (fun _ => 0)))] := hD
  refine lv_aload_n hx hb dX5_init_17 rfl (lv_at hl 0 rfl) ?_
  refine lv_iconst (v := (0)) hx hb dX5_init_18 (by decide) ?_
  refine va_put (D := D) (ci := 5) (v := .int (0)) (ty := .int) (C := RX5) (T := TX5) (N := 3) hx hb hts inlX5 tyX5 tyX5_ok nmX5 hown hK hP hD hS 0 rfl rfl 2 (by decide) (hts (.fieldLink RX5 19 "PagesForAll$Stops" "size" "I") (wT1 148 rfl rfl)) (fun _ h9 => h9) rfl (by decide +kernel) rfl rfl (Nat.le_of_ble_eq_true rfl) dX5_init_19 (fun H locs hP hD hS => ?_)
  have hP : va_P D vwCl [(h0, .inr (5, [.ref a1, .ref q1, .int (0)])), (q1, .inl (cy, 24, .inl (fun _ => 0)))] H := hP
  have hD : va_D A [(h0, .inr (5, [.ref a1, .ref q1, .int (0)])), (q1, .inl (cy, 24, .inl (fun _ => 0)))] := hD
  exact W.vret hx hb hr (fun t ht hW => ⟨⟨(q1 : Nat), rfl, trivial, by rw [ht]; exact hP, va_K.moved hW.alike hK, hD⟩, hS.F ht⟩) hS.2.2 dX5_init_22
set_option maxHeartbeats 4000000 in
set_option maxRecDepth 100000 in
theorem c_X6_init (l : Launch) (D : va_G) (cy : ClassId) (h0 a1 a2 sz : Nat) : Met l yX6_init (ab_wm mX6_init) ({ frames := 1, cells := 5, slots := 6406, locals := 12 }) (cn_Pc D cy [.ref h0, .ref a1, .ref a2] sz [(h0, .inr (6, [.null, .null, .null, .int 0, .int 0, .null, .null, .null, .int 0, .null, .int 0]))]) (va_Qv (fun u : Nat × Nat × Nat × Nat × Nat => True) (fun u t => cn_B D cy (va_A [(h0, .inr (6, [.null, .null, .null, .int 0, .int 0, .null, .null, .null, .int 0, .null, .int 0]))] sz) [(h0, .inr (6, [.ref a1, .ref a2, .ref u.1, .int (0), .int (0), .ref u.2.1, .ref u.2.2.1, .ref u.2.2.2.1, .int (0), .ref u.2.2.2.2, .int (0)])), (u.1, .inl (cy, 6, .inl (fun _ => 0))), (u.2.1, .inl (cy, 1600, .inl (fun _ => 0))), (u.2.2.1, .inl (cy, 1600, .inl (fun _ => 0))), (u.2.2.2.1, .inl (cy, 1600, .inl (fun _ => 0))), (u.2.2.2.2, .inl (cy, 1600, .inl (fun _ => 0)))] t) (va_A [(h0, .inr (6, [.null, .null, .null, .int 0, .int 0, .null, .null, .null, .int 0, .null, .int 0]))] sz)) 5 6406 (va_A [(h0, .inr (6, [.null, .null, .null, .int 0, .int 0, .null, .null, .null, .int 0, .null, .int 0]))] sz) := by
  refine Met.ofW (cc := cX6_init) (maxL := 3) (ret := none) (by decide +kernel) rfl ?_
  intro p e s m args below meth c s₁ B hml hv
  obtain ⟨rfl, hsz, hP, hK, hD0, hN⟩ := hv
  have hx := B.exec
  have hb := B.bytes
  have hr := B.returns
  have hts0 := atoms_spec (ws := ab_wm mX6_init) B.pre
  have hts : ∀ w ∈ wAll, w.before _ s = true := fun w hw => hts0 w (List.mem_cons_of_mem _ hw)
  have hown : s.vm.findClass RX6 = some m.cls := findClass_of_methodNamed B.named
  have hlocks := B.notSynchronized
  have hin : meth.name = "<init>" := (name_of_methodNamed B.named B.method).1
  subst hsz
  have hD := hD0.self (sz := s.heap.size)
  generalize hAe : va_A [(h0, .inr (6, [.null, .null, .null, .int 0, .int 0, .null, .null, .null, .int 0, .null, .int 0]))] s.heap.size = A at hD ⊢
  have hA : ∀ q : Nat, s.heap.size ≤ q → A q := fun q h => by rw [← hAe]; exact Or.inr h
  have hS : va_S A s.heap s.heap [] := va_S.rf
  have hP : va_P D vwCl [(h0, .inr (6, [.null, .null, .null, .int 0, .int 0, .null, .null, .null, .int 0, .null, .int 0]))] s.heap := hP
  have hl := lv_entry ([.ref h0, .ref a1, .ref a2]) (n := 3) (Nat.le_of_ble_eq_true rfl)
  rw [lg_entry_eq]
  generalize (lg_sl ([.ref h0, .ref a1, .ref a2]) ++ List.replicate (3 - (lg_sl ([.ref h0, .ref a1, .ref a2])).length) Slot.unset).toArray = ls at hl ⊢
  have hl : lv_has ls 3 [(0, .ref h0), (1, .ref a1), (2, .ref a2)] := hl
  refine lv_aload_n hx hb dX6_init_0 rfl (lv_at hl 0 rfl) ?_
  refine W.objInit hx hb hown (hts (.methodLink RX6 5 Lib.objectInit) (wT1 161 rfl rfl)) (hts (.instanceMethod Lib.objectInit) (wT1 18 rfl rfl)) (hts (.code Lib.objectInit ⟨#[0xb1]⟩ 1 none) (wT1 19 rfl rfl)) rfl (by rw [hml]; exact hl.1) rfl dX6_init_1 (Nat.le_of_ble_eq_true rfl) (Nat.le_of_ble_eq_true rfl) ?_
  refine W.eq (g2 := F0 m 4 ls []) rfl ?_
  refine lv_aload_n hx hb dX6_init_4 rfl (lv_at hl 0 rfl) ?_
  refine lv_bipush (v := nI 6) hx hb dX6_init_5 (by decide) ?_
  refine cn_newa (N := 6) hx hb hts hK hP hD hS hA (by decide) (Nat.le_of_ble_eq_true rfl) (Nat.le_of_ble_eq_true rfl) dX6_init_7 (fun q1 H hP hD hS => ?_)
  have hP : va_P D vwCl [(h0, .inr (6, [.null, .null, .null, .int 0, .int 0, .null, .null, .null, .int 0, .null, .int 0])), (q1, .inl (cy, 6, .inl (fun _ => 0)))] H := hP
  have hD : va_D A [(h0, .inr (6, [.null, .null, .null, .int 0, .int 0, .null, .null, .null, .int 0, .null, .int 0])), (q1, .inl (cy, 6, .inl (fun _ => 0)))] := hD
  refine W.widen (k := 1) (n := 6) (by omega) (by omega) ?_
  refine va_putF (D := D) (ci := 6) (v := .ref q1) (ty := .array .int) (C := RX6) (T := TX6) (N := 11) hx hb hts inlX6 tyX6 tyX6_ok nmX6 hown hK hP hD hS 0 rfl rfl 2 (by decide) (hts (.fieldLink RX6 11 "PagesForAll$Walks" "doors" "[I") (wT1 164 rfl rfl)) (fun _ h9 => h9) rfl hin rfl (by decide +kernel) rfl rfl (Nat.le_of_ble_eq_true rfl) dX6_init_9 (fun H locs hP hD hS => ?_)
  have hP : va_P D vwCl [(h0, .inr (6, [.null, .null, .ref q1, .int 0, .int 0, .null, .null, .null, .int 0, .null, .int 0])), (q1, .inl (cy, 6, .inl (fun _ => 0)))] H := hP
  have hD : va_D A [(h0, .inr (6, [.null, .null, .ref q1, .int 0, .int 0, .null, .null, .null, .int 0, .null, .int 0])), (q1, .inl (cy, 6, .inl (fun _ => 0)))] := hD
  refine lv_aload_n hx hb dX6_init_12 rfl (lv_at hl 0 rfl) ?_
  refine lv_sipush (v := nI 1600) hx hb dX6_init_13 (by decide) ?_
  refine cn_newa (N := 1600) hx hb hts hK hP hD hS hA (by decide) (Nat.le_of_ble_eq_true rfl) (Nat.le_of_ble_eq_true rfl) dX6_init_16 (fun q2 H hP hD hS => ?_)
  have hP : va_P D vwCl [(h0, .inr (6, [.null, .null, .ref q1, .int 0, .int 0, .null, .null, .null, .int 0, .null, .int 0])), (q1, .inl (cy, 6, .inl (fun _ => 0))), (q2, .inl (cy, 1600, .inl (fun _ => 0)))] H := hP
  have hD : va_D A [(h0, .inr (6, [.null, .null, .ref q1, .int 0, .int 0, .null, .null, .null, .int 0, .null, .int 0])), (q1, .inl (cy, 6, .inl (fun _ => 0))), (q2, .inl (cy, 1600, .inl (fun _ => 0)))] := hD
  refine W.widen (k := 2) (n := 1606) (by omega) (by omega) ?_
  refine va_putF (D := D) (ci := 6) (v := .ref q2) (ty := .array .int) (C := RX6) (T := TX6) (N := 11) hx hb hts inlX6 tyX6 tyX6_ok nmX6 hown hK hP hD hS 0 rfl rfl 5 (by decide) (hts (.fieldLink RX6 15 "PagesForAll$Walks" "states" "[I") (wT1 167 rfl rfl)) (fun _ h9 => h9) rfl hin rfl (by decide +kernel) rfl rfl (Nat.le_of_ble_eq_true rfl) dX6_init_18 (fun H locs hP hD hS => ?_)
  have hP : va_P D vwCl [(h0, .inr (6, [.null, .null, .ref q1, .int 0, .int 0, .ref q2, .null, .null, .int 0, .null, .int 0])), (q1, .inl (cy, 6, .inl (fun _ => 0))), (q2, .inl (cy, 1600, .inl (fun _ => 0)))] H := hP
  have hD : va_D A [(h0, .inr (6, [.null, .null, .ref q1, .int 0, .int 0, .ref q2, .null, .null, .int 0, .null, .int 0])), (q1, .inl (cy, 6, .inl (fun _ => 0))), (q2, .inl (cy, 1600, .inl (fun _ => 0)))] := hD
  refine lv_aload_n hx hb dX6_init_21 rfl (lv_at hl 0 rfl) ?_
  refine lv_sipush (v := nI 1600) hx hb dX6_init_22 (by decide) ?_
  refine cn_newa (N := 1600) hx hb hts hK hP hD hS hA (by decide) (Nat.le_of_ble_eq_true rfl) (Nat.le_of_ble_eq_true rfl) dX6_init_25 (fun q3 H hP hD hS => ?_)
  have hP : va_P D vwCl [(h0, .inr (6, [.null, .null, .ref q1, .int 0, .int 0, .ref q2, .null, .null, .int 0, .null, .int 0])), (q1, .inl (cy, 6, .inl (fun _ => 0))), (q2, .inl (cy, 1600, .inl (fun _ => 0))), (q3, .inl (cy, 1600, .inl (fun _ => 0)))] H := hP
  have hD : va_D A [(h0, .inr (6, [.null, .null, .ref q1, .int 0, .int 0, .ref q2, .null, .null, .int 0, .null, .int 0])), (q1, .inl (cy, 6, .inl (fun _ => 0))), (q2, .inl (cy, 1600, .inl (fun _ => 0))), (q3, .inl (cy, 1600, .inl (fun _ => 0)))] := hD
  refine W.widen (k := 3) (n := 3206) (by omega) (by omega) ?_
  refine va_putF (D := D) (ci := 6) (v := .ref q3) (ty := .array .int) (C := RX6) (T := TX6) (N := 11) hx hb hts inlX6 tyX6 tyX6_ok nmX6 hown hK hP hD hS 0 rfl rfl 6 (by decide) (hts (.fieldLink RX6 18 "PagesForAll$Walks" "lengths" "[I") (wT1 168 rfl rfl)) (fun _ h9 => h9) rfl hin rfl (by decide +kernel) rfl rfl (Nat.le_of_ble_eq_true rfl) dX6_init_27 (fun H locs hP hD hS => ?_)
  have hP : va_P D vwCl [(h0, .inr (6, [.null, .null, .ref q1, .int 0, .int 0, .ref q2, .ref q3, .null, .int 0, .null, .int 0])), (q1, .inl (cy, 6, .inl (fun _ => 0))), (q2, .inl (cy, 1600, .inl (fun _ => 0))), (q3, .inl (cy, 1600, .inl (fun _ => 0)))] H := hP
  have hD : va_D A [(h0, .inr (6, [.null, .null, .ref q1, .int 0, .int 0, .ref q2, .ref q3, .null, .int 0, .null, .int 0])), (q1, .inl (cy, 6, .inl (fun _ => 0))), (q2, .inl (cy, 1600, .inl (fun _ => 0))), (q3, .inl (cy, 1600, .inl (fun _ => 0)))] := hD
  refine lv_aload_n hx hb dX6_init_30 rfl (lv_at hl 0 rfl) ?_
  refine lv_sipush (v := nI 1600) hx hb dX6_init_31 (by decide) ?_
  refine cn_newa (N := 1600) hx hb hts hK hP hD hS hA (by decide) (Nat.le_of_ble_eq_true rfl) (Nat.le_of_ble_eq_true rfl) dX6_init_34 (fun q4 H hP hD hS => ?_)
  have hP : va_P D vwCl [(h0, .inr (6, [.null, .null, .ref q1, .int 0, .int 0, .ref q2, .ref q3, .null, .int 0, .null, .int 0])), (q1, .inl (cy, 6, .inl (fun _ => 0))), (q2, .inl (cy, 1600, .inl (fun _ => 0))), (q3, .inl (cy, 1600, .inl (fun _ => 0))), (q4, .inl (cy, 1600, .inl (fun _ => 0)))] H := hP
  have hD : va_D A [(h0, .inr (6, [.null, .null, .ref q1, .int 0, .int 0, .ref q2, .ref q3, .null, .int 0, .null, .int 0])), (q1, .inl (cy, 6, .inl (fun _ => 0))), (q2, .inl (cy, 1600, .inl (fun _ => 0))), (q3, .inl (cy, 1600, .inl (fun _ => 0))), (q4, .inl (cy, 1600, .inl (fun _ => 0)))] := hD
  refine W.widen (k := 4) (n := 4806) (by omega) (by omega) ?_
  refine va_putF (D := D) (ci := 6) (v := .ref q4) (ty := .array .int) (C := RX6) (T := TX6) (N := 11) hx hb hts inlX6 tyX6 tyX6_ok nmX6 hown hK hP hD hS 0 rfl rfl 7 (by decide) (hts (.fieldLink RX6 21 "PagesForAll$Walks" "firstKeys" "[I") (wT1 169 rfl rfl)) (fun _ h9 => h9) rfl hin rfl (by decide +kernel) rfl rfl (Nat.le_of_ble_eq_true rfl) dX6_init_36 (fun H locs hP hD hS => ?_)
  have hP : va_P D vwCl [(h0, .inr (6, [.null, .null, .ref q1, .int 0, .int 0, .ref q2, .ref q3, .ref q4, .int 0, .null, .int 0])), (q1, .inl (cy, 6, .inl (fun _ => 0))), (q2, .inl (cy, 1600, .inl (fun _ => 0))), (q3, .inl (cy, 1600, .inl (fun _ => 0))), (q4, .inl (cy, 1600, .inl (fun _ => 0)))] H := hP
  have hD : va_D A [(h0, .inr (6, [.null, .null, .ref q1, .int 0, .int 0, .ref q2, .ref q3, .ref q4, .int 0, .null, .int 0])), (q1, .inl (cy, 6, .inl (fun _ => 0))), (q2, .inl (cy, 1600, .inl (fun _ => 0))), (q3, .inl (cy, 1600, .inl (fun _ => 0))), (q4, .inl (cy, 1600, .inl (fun _ => 0)))] := hD
  refine lv_aload_n hx hb dX6_init_39 rfl (lv_at hl 0 rfl) ?_
  refine lv_sipush (v := nI 1600) hx hb dX6_init_40 (by decide) ?_
  refine cn_newa (N := 1600) hx hb hts hK hP hD hS hA (by decide) (Nat.le_of_ble_eq_true rfl) (Nat.le_of_ble_eq_true rfl) dX6_init_43 (fun q5 H hP hD hS => ?_)
  have hP : va_P D vwCl [(h0, .inr (6, [.null, .null, .ref q1, .int 0, .int 0, .ref q2, .ref q3, .ref q4, .int 0, .null, .int 0])), (q1, .inl (cy, 6, .inl (fun _ => 0))), (q2, .inl (cy, 1600, .inl (fun _ => 0))), (q3, .inl (cy, 1600, .inl (fun _ => 0))), (q4, .inl (cy, 1600, .inl (fun _ => 0))), (q5, .inl (cy, 1600, .inl (fun _ => 0)))] H := hP
  have hD : va_D A [(h0, .inr (6, [.null, .null, .ref q1, .int 0, .int 0, .ref q2, .ref q3, .ref q4, .int 0, .null, .int 0])), (q1, .inl (cy, 6, .inl (fun _ => 0))), (q2, .inl (cy, 1600, .inl (fun _ => 0))), (q3, .inl (cy, 1600, .inl (fun _ => 0))), (q4, .inl (cy, 1600, .inl (fun _ => 0))), (q5, .inl (cy, 1600, .inl (fun _ => 0)))] := hD
  refine W.widen (k := 5) (n := 6406) (by omega) (by omega) ?_
  refine va_putF (D := D) (ci := 6) (v := .ref q5) (ty := .array .int) (C := RX6) (T := TX6) (N := 11) hx hb hts inlX6 tyX6 tyX6_ok nmX6 hown hK hP hD hS 0 rfl rfl 9 (by decide) (hts (.fieldLink RX6 24 "PagesForAll$Walks" "foundIn" "[I") (wT1 171 rfl rfl)) (fun _ h9 => h9) rfl hin rfl (by decide +kernel) rfl rfl (Nat.le_of_ble_eq_true rfl) dX6_init_45 (fun H locs hP hD hS => ?_)
  have hP : va_P D vwCl [(h0, .inr (6, [.null, .null, .ref q1, .int 0, .int 0, .ref q2, .ref q3, .ref q4, .int 0, .ref q5, .int 0])), (q1, .inl (cy, 6, .inl (fun _ => 0))), (q2, .inl (cy, 1600, .inl (fun _ => 0))), (q3, .inl (cy, 1600, .inl (fun _ => 0))), (q4, .inl (cy, 1600, .inl (fun _ => 0))), (q5, .inl (cy, 1600, .inl (fun _ => 0)))] H := hP
  have hD : va_D A [(h0, .inr (6, [.null, .null, .ref q1, .int 0, .int 0, .ref q2, .ref q3, .ref q4, .int 0, .ref q5, .int 0])), (q1, .inl (cy, 6, .inl (fun _ => 0))), (q2, .inl (cy, 1600, .inl (fun _ => 0))), (q3, .inl (cy, 1600, .inl (fun _ => 0))), (q4, .inl (cy, 1600, .inl (fun _ => 0))), (q5, .inl (cy, 1600, .inl (fun _ => 0)))] := hD
  refine lv_aload_n hx hb dX6_init_48 rfl (lv_at hl 0 rfl) ?_
  refine lv_aload_n hx hb dX6_init_49 rfl (lv_at hl 1 rfl) ?_
  refine va_putF (D := D) (ci := 6) (v := .ref a1) (ty := .object "PagesForAll$Parts") (C := RX6) (T := TX6) (N := 11) hx hb hts inlX6 tyX6 tyX6_ok nmX6 hown hK hP hD hS 0 rfl rfl 0 (by decide) (hts (.fieldLink RX6 27 "PagesForAll$Walks" "parts" "LPagesForAll$Parts;") (wT1 162 rfl rfl)) (fun _ h9 => h9) rfl hin rfl (by decide +kernel) rfl rfl (Nat.le_of_ble_eq_true rfl) dX6_init_50 (fun H locs hP hD hS => ?_)
  have hP : va_P D vwCl [(h0, .inr (6, [.ref a1, .null, .ref q1, .int 0, .int 0, .ref q2, .ref q3, .ref q4, .int 0, .ref q5, .int 0])), (q1, .inl (cy, 6, .inl (fun _ => 0))), (q2, .inl (cy, 1600, .inl (fun _ => 0))), (q3, .inl (cy, 1600, .inl (fun _ => 0))), (q4, .inl (cy, 1600, .inl (fun _ => 0))), (q5, .inl (cy, 1600, .inl (fun _ => 0)))] H := hP
  have hD : va_D A [(h0, .inr (6, [.ref a1, .null, .ref q1, .int 0, .int 0, .ref q2, .ref q3, .ref q4, .int 0, .ref q5, .int 0])), (q1, .inl (cy, 6, .inl (fun _ => 0))), (q2, .inl (cy, 1600, .inl (fun _ => 0))), (q3, .inl (cy, 1600, .inl (fun _ => 0))), (q4, .inl (cy, 1600, .inl (fun _ => 0))), (q5, .inl (cy, 1600, .inl (fun _ => 0)))] := hD
  refine lv_aload_n hx hb dX6_init_53 rfl (lv_at hl 0 rfl) ?_
  refine lv_aload_n hx hb dX6_init_54 rfl (lv_at hl 2 rfl) ?_
  refine va_putF (D := D) (ci := 6) (v := .ref a2) (ty := .object "PagesForAll$Stops") (C := RX6) (T := TX6) (N := 11) hx hb hts inlX6 tyX6 tyX6_ok nmX6 hown hK hP hD hS 0 rfl rfl 1 (by decide) (hts (.fieldLink RX6 31 "PagesForAll$Walks" "stops" "LPagesForAll$Stops;") (wT1 163 rfl rfl)) (fun _ h9 => h9) rfl hin rfl (by decide +kernel) rfl rfl (Nat.le_of_ble_eq_true rfl) dX6_init_55 (fun H locs hP hD hS => ?_)
  have hP : va_P D vwCl [(h0, .inr (6, [.ref a1, .ref a2, .ref q1, .int 0, .int 0, .ref q2, .ref q3, .ref q4, .int 0, .ref q5, .int 0])), (q1, .inl (cy, 6, .inl (fun _ => 0))), (q2, .inl (cy, 1600, .inl (fun _ => 0))), (q3, .inl (cy, 1600, .inl (fun _ => 0))), (q4, .inl (cy, 1600, .inl (fun _ => 0))), (q5, .inl (cy, 1600, .inl (fun _ => 0)))] H := hP
  have hD : va_D A [(h0, .inr (6, [.ref a1, .ref a2, .ref q1, .int 0, .int 0, .ref q2, .ref q3, .ref q4, .int 0, .ref q5, .int 0])), (q1, .inl (cy, 6, .inl (fun _ => 0))), (q2, .inl (cy, 1600, .inl (fun _ => 0))), (q3, .inl (cy, 1600, .inl (fun _ => 0))), (q4, .inl (cy, 1600, .inl (fun _ => 0))), (q5, .inl (cy, 1600, .inl (fun _ => 0)))] := hD
  refine lv_aload_n hx hb dX6_init_58 rfl (lv_at hl 0 rfl) ?_
  refine lv_iconst (v := (0)) hx hb dX6_init_59 (by decide) ?_
  refine va_put (D := D) (ci := 6) (v := .int (0)) (ty := .int) (C := RX6) (T := TX6) (N := 11) hx hb hts inlX6 tyX6 tyX6_ok nmX6 hown hK hP hD hS 0 rfl rfl 3 (by decide) (hts (.fieldLink RX6 35 "PagesForAll$Walks" "doorCount" "I") (wT1 165 rfl rfl)) (fun _ h9 => h9) rfl (by decide +kernel) rfl rfl (Nat.le_of_ble_eq_true rfl) dX6_init_60 (fun H locs hP hD hS => ?_)
  have hP : va_P D vwCl [(h0, .inr (6, [.ref a1, .ref a2, .ref q1, .int (0), .int 0, .ref q2, .ref q3, .ref q4, .int 0, .ref q5, .int 0])), (q1, .inl (cy, 6, .inl (fun _ => 0))), (q2, .inl (cy, 1600, .inl (fun _ => 0))), (q3, .inl (cy, 1600, .inl (fun _ => 0))), (q4, .inl (cy, 1600, .inl (fun _ => 0))), (q5, .inl (cy, 1600, .inl (fun _ => 0)))] H := hP
  have hD : va_D A [(h0, .inr (6, [.ref a1, .ref a2, .ref q1, .int (0), .int 0, .ref q2, .ref q3, .ref q4, .int 0, .ref q5, .int 0])), (q1, .inl (cy, 6, .inl (fun _ => 0))), (q2, .inl (cy, 1600, .inl (fun _ => 0))), (q3, .inl (cy, 1600, .inl (fun _ => 0))), (q4, .inl (cy, 1600, .inl (fun _ => 0))), (q5, .inl (cy, 1600, .inl (fun _ => 0)))] := hD
  refine lv_aload_n hx hb dX6_init_63 rfl (lv_at hl 0 rfl) ?_
  refine lv_iconst (v := (0)) hx hb dX6_init_64 (by decide) ?_
  refine va_put (D := D) (ci := 6) (v := .int (0)) (ty := .int) (C := RX6) (T := TX6) (N := 11) hx hb hts inlX6 tyX6 tyX6_ok nmX6 hown hK hP hD hS 0 rfl rfl 4 (by decide) (hts (.fieldLink RX6 39 "PagesForAll$Walks" "hiddenForGood" "I") (wT1 166 rfl rfl)) (fun _ h9 => h9) rfl (by decide +kernel) rfl rfl (Nat.le_of_ble_eq_true rfl) dX6_init_65 (fun H locs hP hD hS => ?_)
  have hP : va_P D vwCl [(h0, .inr (6, [.ref a1, .ref a2, .ref q1, .int (0), .int (0), .ref q2, .ref q3, .ref q4, .int 0, .ref q5, .int 0])), (q1, .inl (cy, 6, .inl (fun _ => 0))), (q2, .inl (cy, 1600, .inl (fun _ => 0))), (q3, .inl (cy, 1600, .inl (fun _ => 0))), (q4, .inl (cy, 1600, .inl (fun _ => 0))), (q5, .inl (cy, 1600, .inl (fun _ => 0)))] H := hP
  have hD : va_D A [(h0, .inr (6, [.ref a1, .ref a2, .ref q1, .int (0), .int (0), .ref q2, .ref q3, .ref q4, .int 0, .ref q5, .int 0])), (q1, .inl (cy, 6, .inl (fun _ => 0))), (q2, .inl (cy, 1600, .inl (fun _ => 0))), (q3, .inl (cy, 1600, .inl (fun _ => 0))), (q4, .inl (cy, 1600, .inl (fun _ => 0))), (q5, .inl (cy, 1600, .inl (fun _ => 0)))] := hD
  refine lv_aload_n hx hb dX6_init_68 rfl (lv_at hl 0 rfl) ?_
  refine lv_iconst (v := (0)) hx hb dX6_init_69 (by decide) ?_
  refine va_put (D := D) (ci := 6) (v := .int (0)) (ty := .int) (C := RX6) (T := TX6) (N := 11) hx hb hts inlX6 tyX6 tyX6_ok nmX6 hown hK hP hD hS 0 rfl rfl 8 (by decide) (hts (.fieldLink RX6 42 "PagesForAll$Walks" "found" "I") (wT1 170 rfl rfl)) (fun _ h9 => h9) rfl (by decide +kernel) rfl rfl (Nat.le_of_ble_eq_true rfl) dX6_init_70 (fun H locs hP hD hS => ?_)
  have hP : va_P D vwCl [(h0, .inr (6, [.ref a1, .ref a2, .ref q1, .int (0), .int (0), .ref q2, .ref q3, .ref q4, .int (0), .ref q5, .int 0])), (q1, .inl (cy, 6, .inl (fun _ => 0))), (q2, .inl (cy, 1600, .inl (fun _ => 0))), (q3, .inl (cy, 1600, .inl (fun _ => 0))), (q4, .inl (cy, 1600, .inl (fun _ => 0))), (q5, .inl (cy, 1600, .inl (fun _ => 0)))] H := hP
  have hD : va_D A [(h0, .inr (6, [.ref a1, .ref a2, .ref q1, .int (0), .int (0), .ref q2, .ref q3, .ref q4, .int (0), .ref q5, .int 0])), (q1, .inl (cy, 6, .inl (fun _ => 0))), (q2, .inl (cy, 1600, .inl (fun _ => 0))), (q3, .inl (cy, 1600, .inl (fun _ => 0))), (q4, .inl (cy, 1600, .inl (fun _ => 0))), (q5, .inl (cy, 1600, .inl (fun _ => 0)))] := hD
  refine lv_aload_n hx hb dX6_init_73 rfl (lv_at hl 0 rfl) ?_
  refine lv_iconst (v := (0)) hx hb dX6_init_74 (by decide) ?_
  refine va_put (D := D) (ci := 6) (v := .int (0)) (ty := .int) (C := RX6) (T := TX6) (N := 11) hx hb hts inlX6 tyX6 tyX6_ok nmX6 hown hK hP hD hS 0 rfl rfl 10 (by decide) (hts (.fieldLink RX6 45 "PagesForAll$Walks" "look" "I") (wT1 172 rfl rfl)) (fun _ h9 => h9) rfl (by decide +kernel) rfl rfl (Nat.le_of_ble_eq_true rfl) dX6_init_75 (fun H locs hP hD hS => ?_)
  have hP : va_P D vwCl [(h0, .inr (6, [.ref a1, .ref a2, .ref q1, .int (0), .int (0), .ref q2, .ref q3, .ref q4, .int (0), .ref q5, .int (0)])), (q1, .inl (cy, 6, .inl (fun _ => 0))), (q2, .inl (cy, 1600, .inl (fun _ => 0))), (q3, .inl (cy, 1600, .inl (fun _ => 0))), (q4, .inl (cy, 1600, .inl (fun _ => 0))), (q5, .inl (cy, 1600, .inl (fun _ => 0)))] H := hP
  have hD : va_D A [(h0, .inr (6, [.ref a1, .ref a2, .ref q1, .int (0), .int (0), .ref q2, .ref q3, .ref q4, .int (0), .ref q5, .int (0)])), (q1, .inl (cy, 6, .inl (fun _ => 0))), (q2, .inl (cy, 1600, .inl (fun _ => 0))), (q3, .inl (cy, 1600, .inl (fun _ => 0))), (q4, .inl (cy, 1600, .inl (fun _ => 0))), (q5, .inl (cy, 1600, .inl (fun _ => 0)))] := hD
  exact W.vret hx hb hr (fun t ht hW => ⟨⟨((q1, q2, q3, q4, q5) : Nat × Nat × Nat × Nat × Nat), rfl, trivial, by rw [ht]; exact hP, va_K.moved hW.alike hK, hD⟩, hS.F ht⟩) hS.2.2 dX6_init_78
set_option maxHeartbeats 4000000 in
set_option maxRecDepth 100000 in
theorem c_X0_init (l : Launch) (D : va_G) (cy : ClassId) (h0 a1 a2 a3 sz : Nat) : Met l yX0_init (ab_wm mX0_init) ({ frames := 1, cells := 2, slots := 288, locals := 12 }) (cn_Pc D cy [.ref h0, .ref a1, .ref a2, .ref a3] sz [(h0, .inr (0, [.null, .null, .null, .null, .null, .int 0]))]) (va_Qv (fun u : Nat × Nat => True) (fun u t => cn_B D cy (va_A [(h0, .inr (0, [.null, .null, .null, .null, .null, .int 0]))] sz) [(h0, .inr (0, [.ref a1, .ref a2, .ref a3, .ref u.1, .ref u.2, .int (0)])), (u.1, .inl (cy, 144, .inl (fun _ => 0))), (u.2, .inl (cy, 144, .inl (fun _ => 0)))] t) (va_A [(h0, .inr (0, [.null, .null, .null, .null, .null, .int 0]))] sz)) 2 288 (va_A [(h0, .inr (0, [.null, .null, .null, .null, .null, .int 0]))] sz) := by
  refine Met.ofW (cc := cX0_init) (maxL := 4) (ret := none) (by decide +kernel) rfl ?_
  intro p e s m args below meth c s₁ B hml hv
  obtain ⟨rfl, hsz, hP, hK, hD0, hN⟩ := hv
  have hx := B.exec
  have hb := B.bytes
  have hr := B.returns
  have hts0 := atoms_spec (ws := ab_wm mX0_init) B.pre
  have hts : ∀ w ∈ wAll, w.before _ s = true := fun w hw => hts0 w (List.mem_cons_of_mem _ hw)
  have hown : s.vm.findClass RX0 = some m.cls := findClass_of_methodNamed B.named
  have hlocks := B.notSynchronized
  have hin : meth.name = "<init>" := (name_of_methodNamed B.named B.method).1
  subst hsz
  have hD := hD0.self (sz := s.heap.size)
  generalize hAe : va_A [(h0, .inr (0, [.null, .null, .null, .null, .null, .int 0]))] s.heap.size = A at hD ⊢
  have hA : ∀ q : Nat, s.heap.size ≤ q → A q := fun q h => by rw [← hAe]; exact Or.inr h
  have hS : va_S A s.heap s.heap [] := va_S.rf
  have hP : va_P D vwCl [(h0, .inr (0, [.null, .null, .null, .null, .null, .int 0]))] s.heap := hP
  have hl := lv_entry ([.ref h0, .ref a1, .ref a2, .ref a3]) (n := 4) (Nat.le_of_ble_eq_true rfl)
  rw [lg_entry_eq]
  generalize (lg_sl ([.ref h0, .ref a1, .ref a2, .ref a3]) ++ List.replicate (4 - (lg_sl ([.ref h0, .ref a1, .ref a2, .ref a3])).length) Slot.unset).toArray = ls at hl ⊢
  have hl : lv_has ls 4 [(0, .ref h0), (1, .ref a1), (2, .ref a2), (3, .ref a3)] := hl
  refine lv_aload_n hx hb dX0_init_0 rfl (lv_at hl 0 rfl) ?_
  refine W.objInit hx hb hown (hts (.methodLink RX0 3 Lib.objectInit) (wT1 201 rfl rfl)) (hts (.instanceMethod Lib.objectInit) (wT1 18 rfl rfl)) (hts (.code Lib.objectInit ⟨#[0xb1]⟩ 1 none) (wT1 19 rfl rfl)) rfl (by rw [hml]; exact hl.1) rfl dX0_init_1 (Nat.le_of_ble_eq_true rfl) (Nat.le_of_ble_eq_true rfl) ?_
  refine W.eq (g2 := F0 m 4 ls []) rfl ?_
  refine lv_aload_n hx hb dX0_init_4 rfl (lv_at hl 0 rfl) ?_
  refine lv_sipush (v := nI 144) hx hb dX0_init_5 (by decide) ?_
  refine cn_newa (N := 144) hx hb hts hK hP hD hS hA (by decide) (Nat.le_of_ble_eq_true rfl) (Nat.le_of_ble_eq_true rfl) dX0_init_8 (fun q1 H hP hD hS => ?_)
  have hP : va_P D vwCl [(h0, .inr (0, [.null, .null, .null, .null, .null, .int 0])), (q1, .inl (cy, 144, .inl (fun _ => 0)))] H := hP
  have hD : va_D A [(h0, .inr (0, [.null, .null, .null, .null, .null, .int 0])), (q1, .inl (cy, 144, .inl (fun _ => 0)))] := hD
  refine W.widen (k := 1) (n := 144) (by omega) (by omega) ?_
  refine va_putF (D := D) (ci := 0) (v := .ref q1) (ty := .array .int) (C := RX0) (T := TX0) (N := 6) hx hb hts inlX0 tyX0 tyX0_ok nmX0 hown hK hP hD hS 0 rfl rfl 3 (by decide) (hts (.fieldLink RX0 9 "PagesForAll$Faults" "partRow" "[I") (wT1 205 rfl rfl)) (fun _ h9 => h9) rfl hin rfl (by decide +kernel) rfl rfl (Nat.le_of_ble_eq_true rfl) dX0_init_10 (fun H locs hP hD hS => ?_)
  have hP : va_P D vwCl [(h0, .inr (0, [.null, .null, .null, .ref q1, .null, .int 0])), (q1, .inl (cy, 144, .inl (fun _ => 0)))] H := hP
  have hD : va_D A [(h0, .inr (0, [.null, .null, .null, .ref q1, .null, .int 0])), (q1, .inl (cy, 144, .inl (fun _ => 0)))] := hD
  refine lv_aload_n hx hb dX0_init_13 rfl (lv_at hl 0 rfl) ?_
  refine lv_sipush (v := nI 144) hx hb dX0_init_14 (by decide) ?_
  refine cn_newa (N := 144) hx hb hts hK hP hD hS hA (by decide) (Nat.le_of_ble_eq_true rfl) (Nat.le_of_ble_eq_true rfl) dX0_init_17 (fun q2 H hP hD hS => ?_)
  have hP : va_P D vwCl [(h0, .inr (0, [.null, .null, .null, .ref q1, .null, .int 0])), (q1, .inl (cy, 144, .inl (fun _ => 0))), (q2, .inl (cy, 144, .inl (fun _ => 0)))] H := hP
  have hD : va_D A [(h0, .inr (0, [.null, .null, .null, .ref q1, .null, .int 0])), (q1, .inl (cy, 144, .inl (fun _ => 0))), (q2, .inl (cy, 144, .inl (fun _ => 0)))] := hD
  refine W.widen (k := 2) (n := 288) (by omega) (by omega) ?_
  refine va_putF (D := D) (ci := 0) (v := .ref q2) (ty := .array .int) (C := RX0) (T := TX0) (N := 6) hx hb hts inlX0 tyX0 tyX0_ok nmX0 hown hK hP hD hS 0 rfl rfl 4 (by decide) (hts (.fieldLink RX0 15 "PagesForAll$Faults" "sortRow" "[I") (wT1 206 rfl rfl)) (fun _ h9 => h9) rfl hin rfl (by decide +kernel) rfl rfl (Nat.le_of_ble_eq_true rfl) dX0_init_19 (fun H locs hP hD hS => ?_)
  have hP : va_P D vwCl [(h0, .inr (0, [.null, .null, .null, .ref q1, .ref q2, .int 0])), (q1, .inl (cy, 144, .inl (fun _ => 0))), (q2, .inl (cy, 144, .inl (fun _ => 0)))] H := hP
  have hD : va_D A [(h0, .inr (0, [.null, .null, .null, .ref q1, .ref q2, .int 0])), (q1, .inl (cy, 144, .inl (fun _ => 0))), (q2, .inl (cy, 144, .inl (fun _ => 0)))] := hD
  refine lv_aload_n hx hb dX0_init_22 rfl (lv_at hl 0 rfl) ?_
  refine lv_aload_n hx hb dX0_init_23 rfl (lv_at hl 1 rfl) ?_
  refine va_putF (D := D) (ci := 0) (v := .ref a1) (ty := .object "PagesForAll$Parts") (C := RX0) (T := TX0) (N := 6) hx hb hts inlX0 tyX0 tyX0_ok nmX0 hown hK hP hD hS 0 rfl rfl 0 (by decide) (hts (.fieldLink RX0 18 "PagesForAll$Faults" "parts" "LPagesForAll$Parts;") (wT1 202 rfl rfl)) (fun _ h9 => h9) rfl hin rfl (by decide +kernel) rfl rfl (Nat.le_of_ble_eq_true rfl) dX0_init_24 (fun H locs hP hD hS => ?_)
  have hP : va_P D vwCl [(h0, .inr (0, [.ref a1, .null, .null, .ref q1, .ref q2, .int 0])), (q1, .inl (cy, 144, .inl (fun _ => 0))), (q2, .inl (cy, 144, .inl (fun _ => 0)))] H := hP
  have hD : va_D A [(h0, .inr (0, [.ref a1, .null, .null, .ref q1, .ref q2, .int 0])), (q1, .inl (cy, 144, .inl (fun _ => 0))), (q2, .inl (cy, 144, .inl (fun _ => 0)))] := hD
  refine lv_aload_n hx hb dX0_init_27 rfl (lv_at hl 0 rfl) ?_
  refine lv_aload_n hx hb dX0_init_28 rfl (lv_at hl 2 rfl) ?_
  refine va_putF (D := D) (ci := 0) (v := .ref a2) (ty := .object "PagesForAll$Names") (C := RX0) (T := TX0) (N := 6) hx hb hts inlX0 tyX0 tyX0_ok nmX0 hown hK hP hD hS 0 rfl rfl 1 (by decide) (hts (.fieldLink RX0 22 "PagesForAll$Faults" "names" "LPagesForAll$Names;") (wT1 203 rfl rfl)) (fun _ h9 => h9) rfl hin rfl (by decide +kernel) rfl rfl (Nat.le_of_ble_eq_true rfl) dX0_init_29 (fun H locs hP hD hS => ?_)
  have hP : va_P D vwCl [(h0, .inr (0, [.ref a1, .ref a2, .null, .ref q1, .ref q2, .int 0])), (q1, .inl (cy, 144, .inl (fun _ => 0))), (q2, .inl (cy, 144, .inl (fun _ => 0)))] H := hP
  have hD : va_D A [(h0, .inr (0, [.ref a1, .ref a2, .null, .ref q1, .ref q2, .int 0])), (q1, .inl (cy, 144, .inl (fun _ => 0))), (q2, .inl (cy, 144, .inl (fun _ => 0)))] := hD
  refine lv_aload_n hx hb dX0_init_32 rfl (lv_at hl 0 rfl) ?_
  refine lv_aload_n hx hb dX0_init_33 rfl (lv_at hl 3 rfl) ?_
  refine va_putF (D := D) (ci := 0) (v := .ref a3) (ty := .object "PagesForAll$Reading") (C := RX0) (T := TX0) (N := 6) hx hb hts inlX0 tyX0 tyX0_ok nmX0 hown hK hP hD hS 0 rfl rfl 2 (by decide) (hts (.fieldLink RX0 26 "PagesForAll$Faults" "reading" "LPagesForAll$Reading;") (wT1 204 rfl rfl)) (fun _ h9 => h9) rfl hin rfl (by decide +kernel) rfl rfl (Nat.le_of_ble_eq_true rfl) dX0_init_34 (fun H locs hP hD hS => ?_)
  have hP : va_P D vwCl [(h0, .inr (0, [.ref a1, .ref a2, .ref a3, .ref q1, .ref q2, .int 0])), (q1, .inl (cy, 144, .inl (fun _ => 0))), (q2, .inl (cy, 144, .inl (fun _ => 0)))] H := hP
  have hD : va_D A [(h0, .inr (0, [.ref a1, .ref a2, .ref a3, .ref q1, .ref q2, .int 0])), (q1, .inl (cy, 144, .inl (fun _ => 0))), (q2, .inl (cy, 144, .inl (fun _ => 0)))] := hD
  refine lv_aload_n hx hb dX0_init_37 rfl (lv_at hl 0 rfl) ?_
  refine lv_iconst (v := (0)) hx hb dX0_init_38 (by decide) ?_
  refine va_put (D := D) (ci := 0) (v := .int (0)) (ty := .int) (C := RX0) (T := TX0) (N := 6) hx hb hts inlX0 tyX0 tyX0_ok nmX0 hown hK hP hD hS 0 rfl rfl 5 (by decide) (hts (.fieldLink RX0 30 "PagesForAll$Faults" "size" "I") (wT1 207 rfl rfl)) (fun _ h9 => h9) rfl (by decide +kernel) rfl rfl (Nat.le_of_ble_eq_true rfl) dX0_init_39 (fun H locs hP hD hS => ?_)
  have hP : va_P D vwCl [(h0, .inr (0, [.ref a1, .ref a2, .ref a3, .ref q1, .ref q2, .int (0)])), (q1, .inl (cy, 144, .inl (fun _ => 0))), (q2, .inl (cy, 144, .inl (fun _ => 0)))] H := hP
  have hD : va_D A [(h0, .inr (0, [.ref a1, .ref a2, .ref a3, .ref q1, .ref q2, .int (0)])), (q1, .inl (cy, 144, .inl (fun _ => 0))), (q2, .inl (cy, 144, .inl (fun _ => 0)))] := hD
  exact W.vret hx hb hr (fun t ht hW => ⟨⟨((q1, q2) : Nat × Nat), rfl, trivial, by rw [ht]; exact hP, va_K.moved hW.alike hK, hD⟩, hS.F ht⟩) hS.2.2 dX0_init_42
set_option maxHeartbeats 4000000 in
set_option maxRecDepth 100000 in
theorem c_X4_init (l : Launch) (D : va_G) (cy : ClassId) (h0 sz : Nat) : Met l yX4_init (ab_wm mX4_init) ({ frames := 1, cells := 1, slots := 24, locals := 12 }) (cn_Pc D cy [.ref h0] sz [(h0, .inr (4, [.null, .int 0]))]) (va_Qv (fun u : Nat => True) (fun u t => cn_B D cy (va_A [(h0, .inr (4, [.null, .int 0]))] sz) [(h0, .inr (4, [.ref u, .int (0)])), (u, .inl (cy, 24, .inl (fun _ => 0)))] t) (va_A [(h0, .inr (4, [.null, .int 0]))] sz)) 1 24 (va_A [(h0, .inr (4, [.null, .int 0]))] sz) := by
  refine Met.ofW (cc := cX4_init) (maxL := 1) (ret := none) (by decide +kernel) rfl ?_
  intro p e s m args below meth c s₁ B hml hv
  obtain ⟨rfl, hsz, hP, hK, hD0, hN⟩ := hv
  have hx := B.exec
  have hb := B.bytes
  have hr := B.returns
  have hts0 := atoms_spec (ws := ab_wm mX4_init) B.pre
  have hts : ∀ w ∈ wAll, w.before _ s = true := fun w hw => hts0 w (List.mem_cons_of_mem _ hw)
  have hown : s.vm.findClass RX4 = some m.cls := findClass_of_methodNamed B.named
  have hlocks := B.notSynchronized
  have hin : meth.name = "<init>" := (name_of_methodNamed B.named B.method).1
  subst hsz
  have hD := hD0.self (sz := s.heap.size)
  generalize hAe : va_A [(h0, .inr (4, [.null, .int 0]))] s.heap.size = A at hD ⊢
  have hA : ∀ q : Nat, s.heap.size ≤ q → A q := fun q h => by rw [← hAe]; exact Or.inr h
  have hS : va_S A s.heap s.heap [] := va_S.rf
  have hP : va_P D vwCl [(h0, .inr (4, [.null, .int 0]))] s.heap := hP
  have hl := lv_entry ([.ref h0]) (n := 1) (Nat.le_of_ble_eq_true rfl)
  rw [lg_entry_eq]
  generalize (lg_sl ([.ref h0]) ++ List.replicate (1 - (lg_sl ([.ref h0])).length) Slot.unset).toArray = ls at hl ⊢
  have hl : lv_has ls 1 [(0, .ref h0)] := hl
  refine lv_aload_n hx hb dX4_init_0 rfl (lv_at hl 0 rfl) ?_
  refine W.objInit hx hb hown (hts (.methodLink RX4 3 Lib.objectInit) (wT1 227 rfl rfl)) (hts (.instanceMethod Lib.objectInit) (wT1 18 rfl rfl)) (hts (.code Lib.objectInit ⟨#[0xb1]⟩ 1 none) (wT1 19 rfl rfl)) rfl (by rw [hml]; exact hl.1) rfl dX4_init_1 (Nat.le_of_ble_eq_true rfl) (Nat.le_of_ble_eq_true rfl) ?_
  refine W.eq (g2 := F0 m 4 ls []) rfl ?_
  refine lv_aload_n hx hb dX4_init_4 rfl (lv_at hl 0 rfl) ?_
  refine lv_bipush (v := nI 24) hx hb dX4_init_5 (by decide) ?_
  refine cn_newa (N := 24) hx hb hts hK hP hD hS hA (by decide) (Nat.le_of_ble_eq_true rfl) (Nat.le_of_ble_eq_true rfl) dX4_init_7 (fun q1 H hP hD hS => ?_)
  have hP : va_P D vwCl [(h0, .inr (4, [.null, .int 0])), (q1, .inl (cy, 24, .inl (fun _ => 0)))] H := hP
  have hD : va_D A [(h0, .inr (4, [.null, .int 0])), (q1, .inl (cy, 24, .inl (fun _ => 0)))] := hD
  refine W.widen (k := 1) (n := 24) (by omega) (by omega) ?_
  refine va_putF (D := D) (ci := 4) (v := .ref q1) (ty := .array .int) (C := RX4) (T := TX4) (N := 2) hx hb hts inlX4 tyX4 tyX4_ok nmX4 hown hK hP hD hS 0 rfl rfl 0 (by decide) (hts (.fieldLink RX4 9 "PagesForAll$Spoken" "row" "[I") (wT1 228 rfl rfl)) (fun _ h9 => h9) rfl hin rfl (by decide +kernel) rfl rfl (Nat.le_of_ble_eq_true rfl) dX4_init_9 (fun H locs hP hD hS => ?_)
  have hP : va_P D vwCl [(h0, .inr (4, [.ref q1, .int 0])), (q1, .inl (cy, 24, .inl (fun _ => 0)))] H := hP
  have hD : va_D A [(h0, .inr (4, [.ref q1, .int 0])), (q1, .inl (cy, 24, .inl (fun _ => 0)))] := hD
  refine lv_aload_n hx hb dX4_init_12 rfl (lv_at hl 0 rfl) ?_
  refine lv_iconst (v := (0)) hx hb dX4_init_13 (by decide) ?_
  refine va_put (D := D) (ci := 4) (v := .int (0)) (ty := .int) (C := RX4) (T := TX4) (N := 2) hx hb hts inlX4 tyX4 tyX4_ok nmX4 hown hK hP hD hS 0 rfl rfl 1 (by decide) (hts (.fieldLink RX4 15 "PagesForAll$Spoken" "size" "I") (wT1 230 rfl rfl)) (fun _ h9 => h9) rfl (by decide +kernel) rfl rfl (Nat.le_of_ble_eq_true rfl) dX4_init_14 (fun H locs hP hD hS => ?_)
  have hP : va_P D vwCl [(h0, .inr (4, [.ref q1, .int (0)])), (q1, .inl (cy, 24, .inl (fun _ => 0)))] H := hP
  have hD : va_D A [(h0, .inr (4, [.ref q1, .int (0)])), (q1, .inl (cy, 24, .inl (fun _ => 0)))] := hD
  exact W.vret hx hb hr (fun t ht hW => ⟨⟨(q1 : Nat), rfl, trivial, by rw [ht]; exact hP, va_K.moved hW.alike hK, hD⟩, hS.F ht⟩) hS.2.2 dX4_init_17
end
