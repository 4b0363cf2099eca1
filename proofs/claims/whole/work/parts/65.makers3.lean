section
/-! the reference's constructor -/
def cw (D : va_G) (A : Nat → Prop) (H0 H : Heap) (locs : List Loc) (ws : va_W) : Prop := va_P D vwCl ws H ∧ va_D A ws ∧ va_S A H0 H locs
theorem cn_fld {p : Program} {l : Launch} {e : Env} {R : Room} {s : State} {m : MethodId} {args : Array Value} {below : List Frame} {meth : Method} {c : Code} {H H0 : Heap} {locs : List Loc} {cells slots : Nat} {Q : State → Prop} {cc : ByteArray} {D : va_G} {cy : ClassId} {A : Nat → Prop} {ls : Array Slot} {own C : String} {T : u_T} {Nf ci idx h0 : Nat} {ty0 : Nat → FieldType} {fs : List Value} {tl : va_W} (pc N j : Nat)
    (hx : p.tables.exec = Jvm.exec) (hb : c.code = cc) (hts : ∀ w ∈ wAll, w.before args s = true) (hown : s.vm.findClass own = some m.cls) (hin : meth.name = "<init>") (hK : va_K D vwCl [(cy, .int)] s) (hA : ∀ q, H0.size ≤ q → A q) (hw : cw D A H0 H locs ((h0, .inr (ci, fs)) :: tl))
    (hc : vwCl[ci]? = some (C, T, Nf)) (hinl : ∀ w ∈ u_ws C T Nf, w ∈ wAll) (hty : ∀ k, k < Nf → parseFieldDescriptor (T k).2.2.1 = some (ty0 k)) (hnm : ∀ a, a < Nf → ∀ b, b < Nf → a ≠ b → (T a).2.1 ≠ (T b).2.1) (hj : j < Nf) (hlk : Cond.fieldLink own idx (T j).1 (T j).2.1 (T j).2.2.1 ∈ wAll) (hfin : (T j).2.2.2 = true) (hdecl : (T j).1 = own) (hd : parseFieldDescriptor (T j).2.2.1 = some (.array .int)) (hfl : j < fs.length) (hN : N < 2 ^ 20) (hcells : cells + 1 ≤ R.cells) (hslots : slots + N ≤ R.slots)
    (d1 : decode cc pc = .ok (.newarray .int, 2)) (d2 : decode cc (pc + 2) = .ok (.putfield idx, 3))
    (kk : ∀ (q : Nat) (H1 : Heap) (locs1 : List Loc), cw D A H0 H1 locs1 ((h0, .inr (ci, fs.set j (.ref q))) :: (tl ++ [(q, .inl (cy, N, .inl (fun _ => 0)))])) → W p l e R s m args below meth c H1 locs1 (cells + 1) (slots + N) Q (F0 m (pc + 5) ls [])) :
    W p l e R s m args below meth c H locs cells slots Q (F0 m pc ls [.int (nI N), .ref h0]) := by
  refine cn_newa hx hb hts hK hw.1 hw.2.1 hw.2.2 hA hN hcells hslots d1 (fun q H1 hP hD hS => ?_)
  exact va_putF (D := D) (ci := ci) (v := .ref q) (ty := .array .int) (C := C) (T := T) (N := Nf) hx hb hts hinl ty0 hty hnm hown hK hP hD hS 0 rfl hc j hj (hts _ hlk) (fun _ h9 => h9) hfin hin hdecl hd rfl rfl hfl d2 (fun H2 locs2 hP hD hS => kk q H2 locs2 ⟨hP, hD, hS⟩)
theorem cn_putI {p : Program} {l : Launch} {e : Env} {R : Room} {s : State} {m : MethodId} {args : Array Value} {below : List Frame} {meth : Method} {c : Code} {H H0 : Heap} {locs : List Loc} {cells slots : Nat} {QQ : State → Prop} {cc : ByteArray} {D : va_G} {cy : ClassId} {ad : Nat → Nat} {A : Nat → Prop} {pc i k j : Nat} {ls : Array Slot} {rest : List Value} {own : String} {Sh : Shp} {M : Mm} {q : Nat × List (Option Nat)} {x : Int32}
    (hx : p.tables.exec = Jvm.exec) (hb : c.code = cc) (hts : ∀ w ∈ wAll, w.before args s = true) (hN : ab_nst s) (hown : s.vm.findClass own = some m.cls) (hK : va_K D vwCl [(cy, .int)] s) (hP : va_P D vwCl (ab_ws cy Sh ad M) H) (hD : va_D A (ab_ws cy Sh ad M)) (hS : va_S A H0 H locs) (hk : Sh[k]? = some (.inr q)) (hf : ab_FL own i q.1 j) (hg : ab_FI q.1 j) (hj2 : q.2[j]? = some none) (hd : decode cc pc = .ok (.putfield i, 3))
    (kk : ∀ (H1 : Heap) (locs1 : List Loc), va_P D vwCl (ab_ws cy Sh ad (mst M k j x)) H1 → va_D A (ab_ws cy Sh ad (mst M k j x)) → va_S A H0 H1 locs1 → W p l e R s m args below meth c H1 locs1 cells slots QQ (F0 m (pc + 3) ls rest)) :
    W p l e R s m args below meth c H locs cells slots QQ (F0 m pc ls (.int x :: .ref (ad k) :: rest)) := by
  obtain ⟨C, T, N, ty0, hc, hj, hin, hty, hnm, hlk⟩ := hf
  obtain ⟨C2, T2, N2, hc2, hfin, hpi⟩ := hg
  cases hc.symm.trans hc2
  have he : (ab_ws cy Sh ad M)[k]? = some (ad k, .inr (q.1, ab_flds ad (M k) q.2)) := by rw [ab_get, hk]; rfl
  have hl : j < (ab_flds ad (M k) q.2).length := by
    have := (List.getElem?_eq_some_iff.mp hj2).1
    simpa [ab_flds] using this
  rcases hlk with hlk | ⟨host, hlk⟩
  · refine va_put (v := .int x) hx hb hts hin ty0 hty hnm hown hK hP hD hS k he hc j hj (hts _ hlk) (fun _ h9 => h9) hfin hpi rfl rfl hl hd (fun H1 locs1 hP1 hD1 hS1 => ?_)
    rw [ab_setF hk hj2] at hP1 hD1
    exact kk H1 locs1 hP1 hD1 hS1
  · refine va_putN (v := .int x) hx hb hts hin ty0 hty hnm hown hK hP hD hS k he hc j hj (va_Nw.use rfl (hN _ hlk)) (fun _ h9 => h9) hfin hpi rfl rfl hl hd (fun H1 locs1 hP1 hD1 hS1 => ?_)
    rw [ab_setF hk hj2] at hP1 hD1
    exact kk H1 locs1 hP1 hD1 hS1
set_option maxHeartbeats 600000 in
set_option maxRecDepth 100000 in
theorem c_X8_init (l : Launch) (D : va_G) (cy : ClassId) (h0 sz : Nat) : Met l yX8_init (ab_wm mX8_init) ({ frames := 2, cells := 13, slots := 4262, locals := 47 }) (cn_Pc D cy [.ref h0] sz [(h0, .inr (8, [.int 0, .null, .int 0, .int 0, .null, .null, .null, .null, .null, .null, .int 0, .null, .int 0, .null, .int 0, .null, .null, .int 0, .null, .null, .int 0]))]) (va_Qv (fun u : (Nat → Nat) × Mm => u.1 0 = h0 ∧ RS u.2 s0S) (fun u t => cn_B D cy (va_A [(h0, .inr (8, [.int 0, .null, .int 0, .int 0, .null, .null, .null, .null, .null, .null, .int 0, .null, .int 0, .null, .int 0, .null, .null, .int 0, .null, .null, .int 0]))] sz) (ab_ws cy MSh u.1 u.2) t) (va_A [(h0, .inr (8, [.int 0, .null, .int 0, .int 0, .null, .null, .null, .null, .null, .null, .int 0, .null, .int 0, .null, .int 0, .null, .null, .int 0, .null, .null, .int 0]))] sz)) 13 4262 (va_A [(h0, .inr (8, [.int 0, .null, .int 0, .int 0, .null, .null, .null, .null, .null, .null, .int 0, .null, .int 0, .null, .int 0, .null, .null, .int 0, .null, .null, .int 0]))] sz) := by
  refine Met.ofW (cc := cX8_init) (maxL := 1) (ret := none) (by decide +kernel) rfl ?_
  intro p e s m args below meth c s₁ B hml hv
  obtain ⟨rfl, hsz, hP, hK, hD0, hN⟩ := hv
  have hx := B.exec
  have hb := B.bytes
  have hr := B.returns
  have hts0 := atoms_spec (ws := ab_wm mX8_init) B.pre
  have hts : ∀ w ∈ wAll, w.before _ s = true := fun w hw => hts0 w (List.mem_cons_of_mem _ hw)
  have hown : s.vm.findClass RX8 = some m.cls := findClass_of_methodNamed B.named
  have hlocks := B.notSynchronized
  have hin : meth.name = "<init>" := (name_of_methodNamed B.named B.method).1
  subst hsz
  have hD := hD0.self (sz := s.heap.size)
  generalize hAe : va_A [(h0, .inr (8, [.int 0, .null, .int 0, .int 0, .null, .null, .null, .null, .null, .null, .int 0, .null, .int 0, .null, .int 0, .null, .null, .int 0, .null, .null, .int 0]))] s.heap.size = A at hD ⊢
  have hA : ∀ q : Nat, s.heap.size ≤ q → A q := fun q h => by rw [← hAe]; exact Or.inr h
  have hS : va_S A s.heap s.heap [] := va_S.rf
  have hP : va_P D vwCl [(h0, .inr (8, [.int 0, .null, .int 0, .int 0, .null, .null, .null, .null, .null, .null, .int 0, .null, .int 0, .null, .int 0, .null, .null, .int 0, .null, .null, .int 0]))] s.heap := hP
  have hl := lv_entry ([.ref h0]) (n := 1) (Nat.le_of_ble_eq_true rfl)
  rw [lg_entry_eq]
  generalize (lg_sl ([.ref h0]) ++ List.replicate (1 - (lg_sl ([.ref h0])).length) Slot.unset).toArray = ls at hl ⊢
  have hl : lv_has ls 1 [(0, .ref h0)] := hl
  refine lv_aload_n hx hb dX8_init_0 rfl (lv_at hl 0 rfl) ?_
  refine W.objInit hx hb hown (hts (.methodLink RX8 1 Lib.objectInit) (wT3 203 rfl rfl)) (hts (.instanceMethod Lib.objectInit) (wT1 18 rfl rfl)) (hts (.code Lib.objectInit ⟨#[0xb1]⟩ 1 none) (wT1 19 rfl rfl)) rfl (by rw [hml]; exact hl.1) rfl dX8_init_1 (Nat.le_of_ble_eq_true rfl) (Nat.le_of_ble_eq_true rfl) ?_
  refine W.eq (g2 := F0 m 4 ls []) rfl ?_
  have hw0 : cw D A s.heap s.heap [] ((h0, .inr (8, [.int 0, .null, .int 0, .int 0, .null, .null, .null, .null, .null, .null, .int 0, .null, .int 0, .null, .int 0, .null, .null, .int 0, .null, .null, .int 0])) :: []) := ⟨hP, hD, hS⟩
  clear hP hD hS hD0
  refine W.eq (g2 := F0 m 4 ls []) rfl ?_
  refine lv_aload_n hx hb dX8_init_4 rfl (lv_at hl 0 rfl) ?_
  refine lv_sipush (v := nI 432) hx hb dX8_init_5 (by decide) ?_
  refine W.eq (g2 := F0 m 8 ls [.int (nI 432), .ref h0]) rfl ?_
  refine cn_fld 8 432 1 (idx := 7) (ci := 8) (C := RX8) (T := TX8) (Nf := 21) (ty0 := tyX8) hx hb hts hown hin hK hA hw0 rfl inlX8 tyX8_ok nmX8 (by decide) (wT3 214 rfl rfl) rfl rfl (by decide +kernel) (by simp) (by decide) (Nat.le_of_ble_eq_true rfl) (Nat.le_of_ble_eq_true rfl) dX8_init_8 dX8_init_10 (fun q1 H1 locs1 hw1 => ?_)
  clear hw0
  refine W.widen (k := 1) (n := 432) (by omega) (by omega) ?_
  refine W.eq (g2 := F0 m 13 ls []) rfl ?_
  refine lv_aload_n hx hb dX8_init_13 rfl (lv_at hl 0 rfl) ?_
  refine lv_bipush (v := nI 24) hx hb dX8_init_14 (by decide) ?_
  refine W.eq (g2 := F0 m 16 ls [.int (nI 24), .ref h0]) rfl ?_
  refine cn_fld 16 24 4 (idx := 13) (ci := 8) (C := RX8) (T := TX8) (Nf := 21) (ty0 := tyX8) hx hb hts hown hin hK hA hw1 rfl inlX8 tyX8_ok nmX8 (by decide) (wT3 217 rfl rfl) rfl rfl (by decide +kernel) (by simp) (by decide) (Nat.le_of_ble_eq_true rfl) (Nat.le_of_ble_eq_true rfl) dX8_init_16 dX8_init_18 (fun q2 H2 locs2 hw2 => ?_)
  clear hw1
  refine W.widen (k := 2) (n := 456) (by omega) (by omega) ?_
  refine W.eq (g2 := F0 m 21 ls []) rfl ?_
  refine lv_aload_n hx hb dX8_init_21 rfl (lv_at hl 0 rfl) ?_
  refine lv_bipush (v := nI 24) hx hb dX8_init_22 (by decide) ?_
  refine W.eq (g2 := F0 m 24 ls [.int (nI 24), .ref h0]) rfl ?_
  refine cn_fld 24 24 5 (idx := 16) (ci := 8) (C := RX8) (T := TX8) (Nf := 21) (ty0 := tyX8) hx hb hts hown hin hK hA hw2 rfl inlX8 tyX8_ok nmX8 (by decide) (wT3 218 rfl rfl) rfl rfl (by decide +kernel) (by simp) (by decide) (Nat.le_of_ble_eq_true rfl) (Nat.le_of_ble_eq_true rfl) dX8_init_24 dX8_init_26 (fun q3 H3 locs3 hw3 => ?_)
  clear hw2
  refine W.widen (k := 3) (n := 480) (by omega) (by omega) ?_
  refine W.eq (g2 := F0 m 29 ls []) rfl ?_
  refine lv_aload_n hx hb dX8_init_29 rfl (lv_at hl 0 rfl) ?_
  refine lv_bipush (v := nI 24) hx hb dX8_init_30 (by decide) ?_
  refine W.eq (g2 := F0 m 32 ls [.int (nI 24), .ref h0]) rfl ?_
  refine cn_fld 32 24 6 (idx := 19) (ci := 8) (C := RX8) (T := TX8) (Nf := 21) (ty0 := tyX8) hx hb hts hown hin hK hA hw3 rfl inlX8 tyX8_ok nmX8 (by decide) (wT3 219 rfl rfl) rfl rfl (by decide +kernel) (by simp) (by decide) (Nat.le_of_ble_eq_true rfl) (Nat.le_of_ble_eq_true rfl) dX8_init_32 dX8_init_34 (fun q4 H4 locs4 hw4 => ?_)
  clear hw3
  refine W.widen (k := 4) (n := 504) (by omega) (by omega) ?_
  refine W.eq (g2 := F0 m 37 ls []) rfl ?_
  refine lv_aload_n hx hb dX8_init_37 rfl (lv_at hl 0 rfl) ?_
  refine lv_sipush (v := nI 192) hx hb dX8_init_38 (by decide) ?_
  refine W.eq (g2 := F0 m 41 ls [.int (nI 192), .ref h0]) rfl ?_
  refine cn_fld 41 192 7 (idx := 22) (ci := 8) (C := RX8) (T := TX8) (Nf := 21) (ty0 := tyX8) hx hb hts hown hin hK hA hw4 rfl inlX8 tyX8_ok nmX8 (by decide) (wT3 220 rfl rfl) rfl rfl (by decide +kernel) (by simp) (by decide) (Nat.le_of_ble_eq_true rfl) (Nat.le_of_ble_eq_true rfl) dX8_init_41 dX8_init_43 (fun q5 H5 locs5 hw5 => ?_)
  clear hw4
  refine W.widen (k := 5) (n := 696) (by omega) (by omega) ?_
  refine W.eq (g2 := F0 m 46 ls []) rfl ?_
  refine lv_aload_n hx hb dX8_init_46 rfl (lv_at hl 0 rfl) ?_
  refine lv_bipush (v := nI 24) hx hb dX8_init_47 (by decide) ?_
  refine W.eq (g2 := F0 m 49 ls [.int (nI 24), .ref h0]) rfl ?_
  refine cn_fld 49 24 8 (idx := 25) (ci := 8) (C := RX8) (T := TX8) (Nf := 21) (ty0 := tyX8) hx hb hts hown hin hK hA hw5 rfl inlX8 tyX8_ok nmX8 (by decide) (wT3 221 rfl rfl) rfl rfl (by decide +kernel) (by simp) (by decide) (Nat.le_of_ble_eq_true rfl) (Nat.le_of_ble_eq_true rfl) dX8_init_49 dX8_init_51 (fun q6 H6 locs6 hw6 => ?_)
  clear hw5
  refine W.widen (k := 6) (n := 720) (by omega) (by omega) ?_
  refine W.eq (g2 := F0 m 54 ls []) rfl ?_
  refine lv_aload_n hx hb dX8_init_54 rfl (lv_at hl 0 rfl) ?_
  refine lv_bipush (v := nI 24) hx hb dX8_init_55 (by decide) ?_
  refine W.eq (g2 := F0 m 57 ls [.int (nI 24), .ref h0]) rfl ?_
  refine cn_fld 57 24 9 (idx := 28) (ci := 8) (C := RX8) (T := TX8) (Nf := 21) (ty0 := tyX8) hx hb hts hown hin hK hA hw6 rfl inlX8 tyX8_ok nmX8 (by decide) (wT3 222 rfl rfl) rfl rfl (by decide +kernel) (by simp) (by decide) (Nat.le_of_ble_eq_true rfl) (Nat.le_of_ble_eq_true rfl) dX8_init_57 dX8_init_59 (fun q7 H7 locs7 hw7 => ?_)
  clear hw6
  refine W.widen (k := 7) (n := 744) (by omega) (by omega) ?_
  refine W.eq (g2 := F0 m 62 ls []) rfl ?_
  refine lv_aload_n hx hb dX8_init_62 rfl (lv_at hl 0 rfl) ?_
  refine lv_bipush (v := nI 24) hx hb dX8_init_63 (by decide) ?_
  refine W.eq (g2 := F0 m 65 ls [.int (nI 24), .ref h0]) rfl ?_
  refine cn_fld 65 24 11 (idx := 31) (ci := 8) (C := RX8) (T := TX8) (Nf := 21) (ty0 := tyX8) hx hb hts hown hin hK hA hw7 rfl inlX8 tyX8_ok nmX8 (by decide) (wT3 224 rfl rfl) rfl rfl (by decide +kernel) (by simp) (by decide) (Nat.le_of_ble_eq_true rfl) (Nat.le_of_ble_eq_true rfl) dX8_init_65 dX8_init_67 (fun q8 H8 locs8 hw8 => ?_)
  clear hw7
  refine W.widen (k := 8) (n := 768) (by omega) (by omega) ?_
  refine W.eq (g2 := F0 m 70 ls []) rfl ?_
  refine lv_aload_n hx hb dX8_init_70 rfl (lv_at hl 0 rfl) ?_
  refine lv_bipush (v := nI 6) hx hb dX8_init_71 (by decide) ?_
  refine W.eq (g2 := F0 m 73 ls [.int (nI 6), .ref h0]) rfl ?_
  refine cn_fld 73 6 13 (idx := 34) (ci := 8) (C := RX8) (T := TX8) (Nf := 21) (ty0 := tyX8) hx hb hts hown hin hK hA hw8 rfl inlX8 tyX8_ok nmX8 (by decide) (wT3 226 rfl rfl) rfl rfl (by decide +kernel) (by simp) (by decide) (Nat.le_of_ble_eq_true rfl) (Nat.le_of_ble_eq_true rfl) dX8_init_73 dX8_init_75 (fun q9 H9 locs9 hw9 => ?_)
  clear hw8
  refine W.widen (k := 9) (n := 774) (by omega) (by omega) ?_
  refine W.eq (g2 := F0 m 78 ls []) rfl ?_
  refine lv_aload_n hx hb dX8_init_78 rfl (lv_at hl 0 rfl) ?_
  refine lv_sipush (v := nI 1600) hx hb dX8_init_79 (by decide) ?_
  refine W.eq (g2 := F0 m 82 ls [.int (nI 1600), .ref h0]) rfl ?_
  refine cn_fld 82 1600 15 (idx := 37) (ci := 8) (C := RX8) (T := TX8) (Nf := 21) (ty0 := tyX8) hx hb hts hown hin hK hA hw9 rfl inlX8 tyX8_ok nmX8 (by decide) (wT3 228 rfl rfl) rfl rfl (by decide +kernel) (by simp) (by decide) (Nat.le_of_ble_eq_true rfl) (Nat.le_of_ble_eq_true rfl) dX8_init_82 dX8_init_84 (fun q10 H10 locs10 hw10 => ?_)
  clear hw9
  refine W.widen (k := 10) (n := 2374) (by omega) (by omega) ?_
  refine W.eq (g2 := F0 m 87 ls []) rfl ?_
  refine lv_aload_n hx hb dX8_init_87 rfl (lv_at hl 0 rfl) ?_
  refine lv_sipush (v := nI 1600) hx hb dX8_init_88 (by decide) ?_
  refine W.eq (g2 := F0 m 91 ls [.int (nI 1600), .ref h0]) rfl ?_
  refine cn_fld 91 1600 16 (idx := 40) (ci := 8) (C := RX8) (T := TX8) (Nf := 21) (ty0 := tyX8) hx hb hts hown hin hK hA hw10 rfl inlX8 tyX8_ok nmX8 (by decide) (wT3 229 rfl rfl) rfl rfl (by decide +kernel) (by simp) (by decide) (Nat.le_of_ble_eq_true rfl) (Nat.le_of_ble_eq_true rfl) dX8_init_91 dX8_init_93 (fun q11 H11 locs11 hw11 => ?_)
  clear hw10
  refine W.widen (k := 11) (n := 3974) (by omega) (by omega) ?_
  refine W.eq (g2 := F0 m 96 ls []) rfl ?_
  refine lv_aload_n hx hb dX8_init_96 rfl (lv_at hl 0 rfl) ?_
  refine lv_sipush (v := nI 144) hx hb dX8_init_97 (by decide) ?_
  refine W.eq (g2 := F0 m 100 ls [.int (nI 144), .ref h0]) rfl ?_
  refine cn_fld 100 144 18 (idx := 43) (ci := 8) (C := RX8) (T := TX8) (Nf := 21) (ty0 := tyX8) hx hb hts hown hin hK hA hw11 rfl inlX8 tyX8_ok nmX8 (by decide) (wT3 231 rfl rfl) rfl rfl (by decide +kernel) (by simp) (by decide) (Nat.le_of_ble_eq_true rfl) (Nat.le_of_ble_eq_true rfl) dX8_init_100 dX8_init_102 (fun q12 H12 locs12 hw12 => ?_)
  clear hw11
  refine W.widen (k := 12) (n := 4118) (by omega) (by omega) ?_
  refine W.eq (g2 := F0 m 105 ls []) rfl ?_
  refine lv_aload_n hx hb dX8_init_105 rfl (lv_at hl 0 rfl) ?_
  refine lv_sipush (v := nI 144) hx hb dX8_init_106 (by decide) ?_
  refine W.eq (g2 := F0 m 109 ls [.int (nI 144), .ref h0]) rfl ?_
  refine cn_fld 109 144 19 (idx := 46) (ci := 8) (C := RX8) (T := TX8) (Nf := 21) (ty0 := tyX8) hx hb hts hown hin hK hA hw12 rfl inlX8 tyX8_ok nmX8 (by decide) (wT3 232 rfl rfl) rfl rfl (by decide +kernel) (by simp) (by decide) (Nat.le_of_ble_eq_true rfl) (Nat.le_of_ble_eq_true rfl) dX8_init_109 dX8_init_111 (fun q13 H locs hw13 => ?_)
  clear hw12
  refine W.widen (k := 13) (n := 4262) (by omega) (by omega) ?_
  refine W.eq (g2 := F0 m 114 ls []) rfl ?_
  have hw : cw D A s.heap H locs [(h0, .inr (8, [.int 0, .ref q1, .int 0, .int 0, .ref q2, .ref q3, .ref q4, .ref q5, .ref q6, .ref q7, .int 0, .ref q8, .int 0, .ref q9, .int 0, .ref q10, .ref q11, .int 0, .ref q12, .ref q13, .int 0])), (q1, .inl (cy, 432, .inl (fun _ => 0))), (q2, .inl (cy, 24, .inl (fun _ => 0))), (q3, .inl (cy, 24, .inl (fun _ => 0))), (q4, .inl (cy, 24, .inl (fun _ => 0))), (q5, .inl (cy, 192, .inl (fun _ => 0))), (q6, .inl (cy, 24, .inl (fun _ => 0))), (q7, .inl (cy, 24, .inl (fun _ => 0))), (q8, .inl (cy, 24, .inl (fun _ => 0))), (q9, .inl (cy, 6, .inl (fun _ => 0))), (q10, .inl (cy, 1600, .inl (fun _ => 0))), (q11, .inl (cy, 1600, .inl (fun _ => 0))), (q12, .inl (cy, 144, .inl (fun _ => 0))), (q13, .inl (cy, 144, .inl (fun _ => 0)))] := hw13
  clear hw13
  obtain ⟨hP, hD, hS⟩ := hw
  obtain ⟨ad, had⟩ : ∃ ad : Nat → Nat, ad = adL [h0, q1, q2, q3, q4, q5, q6, q7, q8, q9, q10, q11, q12, q13] := ⟨_, rfl⟩
  have hww : ab_ws cy MSh ad Mz = [(h0, .inr (8, [.int 0, .ref q1, .int 0, .int 0, .ref q2, .ref q3, .ref q4, .ref q5, .ref q6, .ref q7, .int 0, .ref q8, .int 0, .ref q9, .int 0, .ref q10, .ref q11, .int 0, .ref q12, .ref q13, .int 0])), (q1, .inl (cy, 432, .inl (fun _ => 0))), (q2, .inl (cy, 24, .inl (fun _ => 0))), (q3, .inl (cy, 24, .inl (fun _ => 0))), (q4, .inl (cy, 24, .inl (fun _ => 0))), (q5, .inl (cy, 192, .inl (fun _ => 0))), (q6, .inl (cy, 24, .inl (fun _ => 0))), (q7, .inl (cy, 24, .inl (fun _ => 0))), (q8, .inl (cy, 24, .inl (fun _ => 0))), (q9, .inl (cy, 6, .inl (fun _ => 0))), (q10, .inl (cy, 1600, .inl (fun _ => 0))), (q11, .inl (cy, 1600, .inl (fun _ => 0))), (q12, .inl (cy, 144, .inl (fun _ => 0))), (q13, .inl (cy, 144, .inl (fun _ => 0)))] := by rw [had, ws_M]; rfl
  have hPw : va_P D vwCl (ab_ws cy MSh ad Mz) H := by rw [hww]; exact hP
  have hDw : va_D A (ab_ws cy MSh ad Mz) := by rw [hww]; exact hD
  have h0e : ad 0 = h0 := by rw [had]; rfl
  clear hww hP hD had
  have hl0 : lv_has ls 1 [(0, .ref (ad 0))] := by rw [h0e]; exact hl
  refine lv_aload_n hx hb dX8_init_114 rfl (lv_at hl0 0 rfl) ?_
  refine lv_iconst (v := (-1)) hx hb dX8_init_115 (by decide) ?_
  refine cn_putI (k := 0) (j := 2) (Sh := MSh) hx hb hts hN hown hK hPw hDw hS rfl flX8_49 fiX8_2 rfl dX8_init_116 (fun H2 locs2 hP2 hD2 hS2 => ?_)
  generalize hMf : mst Mz 0 2 (-1) = Mf at hP2 hD2
  have hAD := AD_A hD2
  clear hPw hDw
  refine lv_aload_n hx hb dX8_init_119 rfl (lv_at hl0 0 rfl) ?_
  refine lv_iconst (v := nI 0) hx hb dX8_init_120 (by decide) ?_
  refine lv_iconst (v := nI 0) hx hb dX8_init_121 (by decide) ?_
  refine lv_iconst (v := (-1)) hx hb dX8_init_122 (by decide) ?_
  refine W.eq (g2 := F0 m 123 ls [.int (-1), .int (nI 0), .int (nI 0), .ref (ad 0)]) rfl ?_
  have hz := cn_run (l := l) (e := e) (R := { frames := 2, cells := 13, slots := 4262, locals := 47 }) (below := below) (meth := meth) (locs := locs2) (cells := 13) (slots := 4262) (pc := 123) (as := [.int (nI 0), .int (nI 0), .int (-1)]) (rest := []) (k := 0) (M := Mf) (Sh := MSh) hx hb hml hown hts hN hK hP2 (D_ad hD2) (wT3 204 rfl rfl) moX8_begin imX8_begin ⟨Nat.le_of_ble_eq_true rfl, Nat.le_of_ble_eq_true rfl⟩ ⟨_, _, rfl, rfl, rfl⟩ rfl (Nat.le_of_ble_eq_true rfl) hl.1 (Nat.le_of_ble_eq_true rfl) dX8_init_123 ⟨Nat.le_of_ble_eq_true rfl, Nat.le_of_ble_eq_true rfl⟩ (s_X8_begin (M := Mf) (a := 0) (k := 0) (x := -1) (by decide) (fun j _ => by rw [← hMf, mst_other _ _ _ (by decide)]; rfl))
  refine cn_callX hz hS2 hAD (fun r M2 H3 locs3 hq hP3 hD3 hS3 hz3 hk3 => ?_)
  obtain ⟨rfl, hq⟩ := hq
  refine W.eq (g2 := F0 m 126 ls []) rfl ?_
  have hDA := D_of hAD hD3
  clear hz hD3 hk3 hz3 hP2 hD2
  refine lv_aload_n hx hb dX8_init_126 rfl (lv_at hl0 0 rfl) ?_
  refine lv_iconst (v := nI 1) hx hb dX8_init_127 (by decide) ?_
  refine cn_putI (k := 0) (j := 0) (Sh := MSh) hx hb hts hN hown hK hP3 hDA hS3 rfl flX8_57 fiX8_0 rfl dX8_init_128 (fun H4 locs4 hP4 hD4 hS4 => ?_)
  refine W.eq (g2 := F0 m 131 ls []) rfl ?_
  exact W.vret hx hb hr (fun t ht hW => ⟨⟨((ad, mst M2 0 0 (nI 1)) : (Nat → Nat) × Mm), rfl, ⟨h0e, rs_0 (by rw [hMf]; exact hq)⟩, by rw [ht]; exact hP4, va_K.moved hW.alike hK, hD4⟩, hS4.F ht⟩) hS4.2.2 dX8_init_131
end
