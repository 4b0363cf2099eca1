section
/-! THE CLAIM OUT OF ONE WALK OF THE LAW'S BODY. Your part is whole_start (and what it stands on); all else here is the same for every law, but numbers. -/
def R_law : String := "PagesForAllLaw"
def lw_P (b : Addr) (xs : List Int32) (args : Array Value) (s : State) : Prop := args = #[.ref b] ∧ s.IntsAt b xs ∧ xs.length ≤ 3072 ∧ (Jvm.Cond.and given_1 narrow_1).before args s = true
def lw_Q (_ : Array Value) (s : State) (o : Outcome) (t : State) : Prop := o = .returned (some (.int 1)) ∧ Framed s o t [] 39 11820
def lw_Z (below : List Frame) (a : Array Value) (s : State) : State → Prop := fun t => ∃ o, t.status = .running ∧ Ended t below o ∧ lw_Q a s o t
/-- the law's own end, with 1 on the stack, nothing written that was there before, its room as the claim has it -/
theorem lw_ret {p : Program} {l : Launch} {e : Env} {s : State} {m : MethodId} {below : List Frame} {meth : Method} {c : Code} {b : Nat} (hx : p.tables.exec = Jvm.exec) (hb : c.code = code) (hr : meth.sig.returnType = ret) (hlocks : meth.locks = false) {pc : Nat} {H : Heap} {ls : Array Slot} (hdg : decode code pc = .ok (.ireturn, 1)) : W p l e room_1 s m #[Value.ref b] below meth c H [] 39 11820 (lw_Z below #[Value.ref b] s) (F0 m pc ls [.int 1]) := by
  intro T hT X
  obtain ⟨fs, hret, hrun, hended, hW, hframe⟩ := X.leave (v := some (.int 1)) (hlocks := hlocks) (fun h => by rw [hr] at h; cases h)
  have hmeth' : T.vm.method? m = some meth := X.method'
  refine ⟨T.setFrames fs, ?_, .returned (some (.int 1)), hrun, hended, rfl, ⟨_, rfl⟩, hW, hframe⟩
  jvm_step X.here [X.here.top, hx, hb, hdg, hmeth', hr, ret, narrow_b1]
  (try refine ⟨rfl, ?_⟩); (try refine ⟨rfl, ?_⟩)
  first | (intro acts; rw [hret _ acts rfl rfl rfl]) | rw [hret _ _ rfl rfl rfl]
  exact Steps.refl _
/-- what holds at the law's entry: the machine, the code, the tables' words (any of lw_tbl by 'hts w (by decide +kernel)'), the script of L ints xs at the cell b, what the Statement gives of the start (any of its parts by flat_of_before) -/
def lw_At (p : Program) (s : State) (m : MethodId) (meth : Method) (c : Code) (b L : Nat) (xs : Nat → Int32) : Prop :=
  p.tables.exec = Jvm.exec ∧ c.code = code ∧ meth.sig.returnType = ret ∧ c.maxLocals = 4 ∧ s.vm.findClass R_law = some m.cls ∧ (∀ w ∈ lw_tbl, w.before #[Value.ref b] s = true) ∧ va_X b L xs s s.heap ∧ b < s.heap.size ∧ meth.locks = false ∧ (Jvm.Cond.and given_1 narrow_1).before #[Value.ref b] s = true

def AL (s : State) : Nat → Prop := fun q => s.heap.size ≤ q
/-- what stays while the law runs -/
def lwC (p : Program) (s : State) (m : MethodId) (meth : Method) (c : Code) (D : va_G) (cy : ClassId) (b L : Nat) (xs : Nat → Int32) (adX adM : Nat → Nat) : Prop := (lw_At p s m meth c b L xs ∧ L ≤ 3072) ∧ ((∀ w ∈ wAll, w.before #[Value.ref b] s = true) ∧ ab_nst s ∧ va_K D vwCl [(cy, .int)] s) ∧ (∀ q, ab_AD XSh adX q → AL s q) ∧ (∀ q, ab_AD MSh adM q → AL s q) ∧ ∀ q, ab_AD XSh adX q → ¬ ab_AD MSh adM q
/-- the two worlds -/
def lwW (s : State) (D : va_G) (cy : ClassId) (adX adM : Nat → Nat) (H : Heap) (locs : List Loc) (MX MM : Mm) : Prop := (va_P D vwCl (ab_ws cy XSh adX MX) H ∧ va_D (ab_AD XSh adX) (ab_ws cy XSh adX MX)) ∧ (va_P D vwCl (ab_ws cy MSh adM MM) H ∧ va_D (ab_AD MSh adM) (ab_ws cy MSh adM MM)) ∧ va_S (AL s) s.heap H locs
theorem keepP {D : va_G} {cy : ClassId} {Sh Sh2 : Shp} {ad ad2 : Nat → Nat} {M : Mm} {H H1 : Heap} (hP : va_P D vwCl (ab_ws cy Sh ad M) H) (hk : ∀ q, q < H.size → ¬ ab_AD Sh2 ad2 q → H1[q]? = H[q]?) (dj : ∀ q, ab_AD Sh ad q → ¬ ab_AD Sh2 ad2 q) : va_P D vwCl (ab_ws cy Sh ad M) H1 := hP.kept (fun k x hx => hk x.1 ((hP k x hx).lt) (dj _ (by
  rw [ab_get] at hx
  cases e : Sh[k]? with
  | none => rw [e] at hx; cases hx
  | some y =>
    rw [e] at hx
    cases hx
    exact ⟨k, (List.getElem?_eq_some_iff.mp e).1, rfl⟩)))
abbrev lwQ (below : List Frame) (b : Nat) (s : State) : State → Prop := lw_Z below #[Value.ref b] s
abbrev lwL (b : Nat) (adX adM : Nat → Nat) (i : Nat) : List (Nat × Value) := [(0, .ref b), (1, .ref (adX 24)), (2, .ref (adM 0)), (3, .int (nI i))]
theorem law_X {p : Program} {l : Launch} {e : Env} {s : State} {m : MethodId} {below : List Frame} {meth : Method} {c : Code} {D : va_G} {cy : ClassId} {b L : Nat} {xs : Nat → Int32} {adX adM : Nat → Nat} {H : Heap} {locs : List Loc} {MX MM : Mm} {pc np i : Nat} {ls : Array Slot} {as rest : List Value} {m2 : MI} {Q2 : Pst} {lv : List (Nat × Value)} (C : lwC p s m meth c D cy b L xs adX adM) (hl : lv_has ls 4 lv) (hw : lwW s D cy adX adM H locs MX MM)
    (ct : Ct XSh m2 (.ref 24 :: as) MX Q2) (has : as.map (ab_cv adX) = as) (hlk : Cond.methodLink R_law i m2.1 ∈ wAll) (hmo : ab_MO m2 np) (him : ab_IM m2) (hrm : m2.2.2.2.2.1 + 1 ≤ room_1.frames ∧ 8 + (m2.2.2.1 + 11) + m2.2.2.2.2.2 ≤ room_1.locals) (hcl : m2.1.cls = "PagesForAll") (hnp : as.length = np) (hle : (ab_ent0 (.ref 24 :: as)).length ≤ m2.2.2.1) (hws : (rest.map fun v => v.category).sum ≤ 8) (hd : decode code pc = .ok (.invokevirtual i, 3))
    (kk : ∀ (r : Option Value) (M2 : Mm) (H1 : Heap) (locs1 : List Loc), Q2 r M2 → lwW s D cy adX adM H1 locs1 M2 MM → W p l e room_1 s m #[Value.ref b] below meth c H1 locs1 39 11820 (lwQ below b s) (F0 m (pc + 3) ls ((r.map (ab_cv adX)).toList ++ rest))) :
    W p l e room_1 s m #[Value.ref b] below meth c H locs 39 11820 (lwQ below b s) (F0 m pc ls (as.reverse ++ Value.ref (adX 24) :: rest)) := by
  obtain ⟨⟨⟨hx, hb, hr, hml, hown, hts, hX, hbl, hlocks, hgv⟩, hL⟩, ⟨hA, hN, hK⟩, hXA, hMA, hdj⟩ := C
  obtain ⟨⟨x1, x2⟩, ⟨m1, m3⟩, hS⟩ := hw
  have z := cn_run (l := l) (e := e) (R := room_1) (below := below) (meth := meth) (locs := locs) (cells := 39) (slots := 11820) (k := 24) (rest := rest) hx hb hml hown hA hN hK x1 x2 hlk hmo him hrm ⟨_, _, rfl, rfl, hcl.symm⟩ hnp hle hl.1 hws hd ⟨Nat.le_refl _, Nat.le_refl _⟩ ct
  rw [has] at z
  exact cn_callX z hS hXA (fun r M2 H1 locs1 hq hP1 hD1 hS1 hz1 hk1 => kk r M2 H1 locs1 hq ⟨⟨hP1, hD1⟩, ⟨keepP m1 hk1 (fun q h1 h2 => hdj q h2 h1), m3⟩, hS1⟩)
theorem law_M {p : Program} {l : Launch} {e : Env} {s : State} {m : MethodId} {below : List Frame} {meth : Method} {c : Code} {D : va_G} {cy : ClassId} {b L : Nat} {xs : Nat → Int32} {adX adM : Nat → Nat} {H : Heap} {locs : List Loc} {MX MM : Mm} {pc np i : Nat} {ls : Array Slot} {as rest : List Value} {m2 : MI} {Q2 : Pst} {lv : List (Nat × Value)} (C : lwC p s m meth c D cy b L xs adX adM) (hl : lv_has ls 4 lv) (hw : lwW s D cy adX adM H locs MX MM)
    (ct : Ct MSh m2 (.ref 0 :: as) MM Q2) (has : as.map (ab_cv adM) = as) (hlk : Cond.methodLink R_law i m2.1 ∈ wAll) (hmo : ab_MO m2 np) (him : ab_IM m2) (hrm : m2.2.2.2.2.1 + 1 ≤ room_1.frames ∧ 8 + (m2.2.2.1 + 11) + m2.2.2.2.2.2 ≤ room_1.locals) (hcl : m2.1.cls = "PagesForAllModel") (hnp : as.length = np) (hle : (ab_ent0 (.ref 0 :: as)).length ≤ m2.2.2.1) (hws : (rest.map fun v => v.category).sum ≤ 8) (hd : decode code pc = .ok (.invokevirtual i, 3))
    (kk : ∀ (r : Option Value) (M2 : Mm) (H1 : Heap) (locs1 : List Loc), Q2 r M2 → lwW s D cy adX adM H1 locs1 MX M2 → W p l e room_1 s m #[Value.ref b] below meth c H1 locs1 39 11820 (lwQ below b s) (F0 m (pc + 3) ls ((r.map (ab_cv adM)).toList ++ rest))) :
    W p l e room_1 s m #[Value.ref b] below meth c H locs 39 11820 (lwQ below b s) (F0 m pc ls (as.reverse ++ Value.ref (adM 0) :: rest)) := by
  obtain ⟨⟨⟨hx, hb, hr, hml, hown, hts, hX, hbl, hlocks, hgv⟩, hL⟩, ⟨hA, hN, hK⟩, hXA, hMA, hdj⟩ := C
  obtain ⟨⟨x1, x2⟩, ⟨m1, m3⟩, hS⟩ := hw
  have z := cn_run (l := l) (e := e) (R := room_1) (below := below) (meth := meth) (locs := locs) (cells := 39) (slots := 11820) (k := 0) (rest := rest) hx hb hml hown hA hN hK m1 m3 hlk hmo him hrm ⟨_, _, rfl, rfl, hcl.symm⟩ hnp hle hl.1 hws hd ⟨Nat.le_refl _, Nat.le_refl _⟩ ct
  rw [has] at z
  exact cn_callX z hS hMA (fun r M2 H1 locs1 hq hP1 hD1 hS1 hz1 hk1 => kk r M2 H1 locs1 hq ⟨⟨keepP x1 hk1 hdj, x2⟩, ⟨hP1, hD1⟩, hS1⟩)
theorem ld_arg {p : Program} {l : Launch} {e : Env} {s : State} {m : MethodId} {below : List Frame} {meth : Method} {c : Code} {D : va_G} {cy : ClassId} {b L : Nat} {xs : Nat → Int32} {adX adM : Nat → Nat} {H : Heap} {locs : List Loc} {MX MM : Mm} {ls : Array Slot} {st : List Value} {i : Nat} (C : lwC p s m meth c D cy b L xs adX adM) (hl : lv_has ls 4 (lwL b adX adM i)) (hw : lwW s D cy adX adM H locs MX MM) (hi : i + 6 ≤ L) (pc j : Nat) (jz : Int) (hj : j < 6) (hz : Int32.ofInt jz = nI j) (d0 : decode code pc = .ok (.aload_n 0, 1)) (d1 : decode code (pc + 1) = .ok (.iload_n 3, 1)) (d2 : decode code (pc + 2) = .ok (.iconst jz, 1)) (d3 : decode code (pc + 3) = .ok (.iadd, 1)) (d4 : decode code (pc + 4) = .ok (.iaload, 1))
    (kk : W p l e room_1 s m #[Value.ref b] below meth c H locs 39 11820 (lwQ below b s) (F0 m (pc + 5) ls (.int (xs (i + j)) :: st))) : W p l e room_1 s m #[Value.ref b] below meth c H locs 39 11820 (lwQ below b s) (F0 m pc ls st) := by
  obtain ⟨⟨⟨hx, hb, hr, hml, hown, hts, hX, hbl, hlocks, hgv⟩, hL⟩, -⟩ := C
  have hS := hw.2.2
  have hbA : ¬ AL s b := Nat.not_le.mpr hbl
  refine lv_aload_n hx hb d0 rfl (lv_at hl 0 rfl) ?_
  refine lv_iload_n hx hb d1 rfl (lv_at hl 3 rfl) ?_
  refine lv_iconst (v := nI j) hx hb d2 hz ?_
  refine lv_iadd hx hb d3 ?_
  have ea : nI i + nI j = nI (i + j) := nI_add i j
  rw [ea]
  have hin : vp_in (nI (i + j)) L := vp_in_nI (by omega) (by omega)
  refine va_sld hx hb hX hbl hbA hS hin d4 ?_
  rw [nI_clamp (by omega)]
  exact kk
end
