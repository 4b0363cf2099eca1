section
/-! rows for constructors and for the law: making arrays, calling into a world -/
theorem cn_arr : Cond.arrayClass .int ∈ wAll := wT1 98 rfl rfl
theorem cn_newa {p : Program} {l : Launch} {e : Env} {R : Room} {s : State} {m : MethodId} {args : Array Value} {below : List Frame} {meth : Method} {c : Code} {H H0 : Heap} {locs : List Loc} {cells slots : Nat} {Q : State → Prop} {cc : ByteArray} {D : va_G} {cy : ClassId} {ws : va_W} {A : Nat → Prop} {pc : Nat} {ls : Array Slot} {rest : List Value} {N : Nat}
    (hx : p.tables.exec = Jvm.exec) (hb : c.code = cc) (hts : ∀ w ∈ wAll, w.before args s = true) (hK : va_K D vwCl [(cy, .int)] s) (hP : va_P D vwCl ws H) (hD : va_D A ws) (hS : va_S A H0 H locs) (hA : ∀ q, H0.size ≤ q → A q) (hN : N < 2 ^ 20) (hcells : cells + 1 ≤ R.cells) (hslots : slots + N ≤ R.slots) (hdg : decode cc pc = .ok (.newarray .int, 2))
    (kk : ∀ (q : Nat) (H1 : Heap), va_P D vwCl (ws ++ [(q, .inl (cy, N, .inl (fun _ => 0)))]) H1 → va_D A (ws ++ [(q, .inl (cy, N, .inl (fun _ => 0)))]) → va_S A H0 H1 locs → W p l e R s m args below meth c H1 locs (cells + 1) (slots + N) Q (F0 m (pc + 2) ls (.ref q :: rest))) :
    W p l e R s m args below meth c H locs cells slots Q (F0 m pc ls (.int (nI N) :: rest)) := by
  refine va_newa (atype := .int) (ty := .int) (D := D) (cl := vwCl) (tys := [(cy, .int)]) (N' := N) (a0 := (N, .inl (fun _ => 0))) hx hb (hts _ cn_arr) rfl hK hP hD hS hA (fun cA => rfl) (by rw [int_lt0, nI_toInt (by omega)]; omega) (nI_clamp (by omega)) (by show N * 4 ≤ 536870912; omega) hcells hslots hdg (fun q cA H1 hK1 hP1 hD1 hS1 => ?_)
  have e1 := (hK1.2 1 (cA, .int) rfl).2
  have e2 := (hK1.2 0 (cy, .int) rfl).2
  have e : cA = cy := Option.some.inj (e1.symm.trans e2)
  subst e
  exact kk q H1 hP1 hD1 hS1
theorem cn_run {p : Program} {l : Launch} {e : Env} {R : Room} {s : State} {m : MethodId} {args : Array Value} {below : List Frame} {meth : Method} {c : Code} {H : Heap} {locs : List Loc} {cells slots : Nat} {cc : ByteArray} {D : va_G} {cy : ClassId} {ad : Nat → Nat} {pc nL np i k : Nat} {ls : Array Slot} {as rest : List Value} {own : String} {Sh : Shp} {M : Mm} {m2 : MI} {Q2 : Pst}
    (hx : p.tables.exec = Jvm.exec) (hb : c.code = cc) (hml : c.maxLocals = nL) (hown : s.vm.findClass own = some m.cls) (hts : ∀ w ∈ wAll, w.before args s = true) (hN : ab_nst s) (hK : va_K D vwCl [(cy, .int)] s)
    (hP : va_P D vwCl (ab_ws cy Sh ad M) H) (hD : va_D (ab_AD Sh ad) (ab_ws cy Sh ad M)) (hlk : Cond.methodLink own i m2.1 ∈ wAll) (hmo : ab_MO m2 np) (him : ab_IM m2) (hrm : m2.2.2.2.2.1 + 1 ≤ R.frames ∧ 8 + (m2.2.2.1 + 11) + m2.2.2.2.2.2 ≤ R.locals) (hob : ab_obj Sh k m2.1.cls) (hnp : as.length = np) (hle : (ab_ent0 (.ref k :: as)).length ≤ m2.2.2.1) (hsz : ls.size = nL) (hw : (rest.map fun v => v.category).sum ≤ 8) (hd : decode cc pc = .ok (.invokevirtual i, 3)) (hf : cells + 0 ≤ R.cells ∧ slots + 0 ≤ R.slots) (k1 : Ct Sh m2 (.ref k :: as) M Q2) :
    va_Run p l e R s m args below meth c H locs cells slots 0 0 (F0 m pc ls ((as.map (ab_cv ad)).reverse ++ Value.ref (ad k) :: rest)) rest (ab_Q Sh D cy ad Q2 (Value.ref (ad k) :: as.map (ab_cv ad)).toArray) (ab_AD Sh ad) := by
  obtain ⟨q, r0, hk, hc, hcl⟩ := hob
  have he : (ab_ws cy Sh ad M)[k]? = some (ad k, .inr (q.1, ab_flds ad (M k) q.2)) := by rw [ab_get, hk]; rfl
  have hM := ab_met l D cy ad (Ev.sound k1) hmo hle
  have hwd1 : ∀ w ∈ ab_wm m2, ∀ (a' : Array Value) (U : State), s.WarmedH U.vm → w.before a' U = true := pay_in hts (fun w hw => by
    rcases List.mem_cons.mp hw with rfl | hw
    · exact ab_good _ hmo.1
    · exact ab_good _ hw)
  have hwd2 : ∀ sig, parseMethodDescriptor m2.1.desc = some sig → np = sig.parameters.length := fun sig h => by
    have h2 := hmo.2.2.2.2.1
    rw [h] at h2
    exact (Option.some.inj h2).symm
  have hp : PreV s H r0.1 (ad k) (ab_Pc Sh D cy ad M (.ref (ad k) :: as.map (ab_cv ad))) (as.map (ab_cv ad)) :=
    ⟨ab_blind, va_recv hK hP hc he, fun U hU hW => ⟨rfl, by rw [hU]; exact hP, va_K.moved hW.alike hK, hD, ab_nst.warm hW hN⟩⟩
  rw [hcl] at hp
  exact va_runV (cc := cc) (nL := nL) (Ts := wAll) (own := own) (C := m2.1.cls) ⟨hx, hb, hml, hown, hts⟩ hM ⟨⟨rfl, rfl, hrm.1, hrm.2, hwd1, List.mem_cons_self, hts _ hmo.1, hts _ hmo.2.1, ⟨hmo.2.2.1, hmo.2.2.2.1⟩, hwd2, hts _ hlk⟩, hts _ him.1, hts _ him.2⟩ hp rfl (by rw [List.length_map]; exact hnp) hsz rfl (lv_room hw) hd hf
theorem cn_callX {p : Program} {l : Launch} {e : Env} {R : Room} {s : State} {m : MethodId} {args : Array Value} {below : List Frame} {meth : Method} {c : Code} {H H0 : Heap} {locs : List Loc} {cells slots : Nat} {QQ : State → Prop} {D : va_G} {cy : ClassId} {ad : Nat → Nat} {pc : Nat} {ls : Array Slot} {st0 rest : List Value} {Sh : Shp} {Q2 : Pst} {a : Array Value} {A0 : Nat → Prop}
    (hr : va_Run p l e R s m args below meth c H locs cells slots 0 0 (F0 m pc ls st0) rest (ab_Q Sh D cy ad Q2 a) (ab_AD Sh ad)) (hS : va_S A0 H0 H locs) (hA : ∀ q, ab_AD Sh ad q → A0 q)
    (kk : ∀ (r : Option Value) (M2 : Mm) (H1 : Heap) (locs1 : List Loc), Q2 r M2 → va_P D vwCl (ab_ws cy Sh ad M2) H1 → va_D (ab_AD Sh ad) (ab_ws cy Sh ad M2) → va_S A0 H0 H1 locs1 → H.size ≤ H1.size → (∀ q, q < H.size → ¬ ab_AD Sh ad q → H1[q]? = H[q]?) → W p l e R s m args below meth c H1 locs1 cells slots QQ (F0 m (pc + 3) ls ((r.map (ab_cv ad)).toList ++ rest))) :
    W p l e R s m args below meth c H locs cells slots QQ (F0 m pc ls st0) := by
  intro T hT X
  obtain ⟨v, st₀, t, T', L, h0, X', hL, e1, e2, ⟨⟨r, M2, hv, hq, hP, hD⟩, hz, hk⟩, st⟩ := hr T hT X
  have hv2 : v = r.map (ab_cv ad) := by injection hv
  subst hv2
  rw [h0] at hz hk
  rw [← e1] at hP
  obtain ⟨t2, a1, b1⟩ := kk r M2 T'.heap (locs ++ L) hq hP hD
    ⟨Nat.le_trans hS.1 (by rw [e1]; exact hz), fun q h1 h2 => by rw [e1, hk q (Nat.lt_of_lt_of_le h1 hS.1) (fun z => h2 (hA q z))]; exact hS.2.1 q h1 h2, fun q hq => by
      rcases List.mem_append.mp hq with h | h
      · exact hS.2.2 q h
      · exact hA _ (hL q h)⟩ (by rw [e1]; exact hz) (fun q h1 h2 => by rw [e1]; exact hk q h1 h2) T' rfl X'
  exact ⟨t2, st t2 a1, b1⟩
def cn_Pc (D : va_G) (cy : ClassId) (vs : List Value) (sz : Nat) (ws : va_W) : Array Value → State → Prop := va_Pc vs (fun U => U.heap.size = sz ∧ va_P D vwCl ws U.heap ∧ va_K D vwCl [(cy, .int)] U ∧ va_D (fun _ => True) ws ∧ ab_nst U)
def cn_B (D : va_G) (cy : ClassId) (A : Nat → Prop) (ws : va_W) (t : State) : Prop := va_P D vwCl ws t.heap ∧ va_K D vwCl [(cy, .int)] t ∧ va_D A ws
theorem cn_blind {D : va_G} {cy : ClassId} {vs : List Value} {sz : Nat} {ws : va_W} : FrameBlind (cn_Pc D cy vs sz ws) := fun a U g mk q => by
  obtain ⟨q0, q1, qP, qK, qD, qN⟩ := q
  exact ⟨q0, q1, qP, va_K.moved (u := U) (U := U.calling g mk a) (Vm.Alike.refl U.vm) qK, qD, ab_nst.same (u := U) (U := U.calling g mk a) rfl qN⟩
theorem cn_goodm {m : MI} (h : Cond.code m.1 m.2.1 m.2.2.1 m.2.2.2.1 ∈ wAll) : GoodIn wAll (ab_wm m) := fun w hw => by
  rcases List.mem_cons.mp hw with rfl | hw
  · exact ab_good _ h
  · exact ab_good _ hw
end
