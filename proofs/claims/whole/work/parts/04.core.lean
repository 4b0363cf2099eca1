/-! the abstract layer: a world of fixed shape, its memory, and walks over it -/
abbrev Shp : Type := List (Nat ⊕ (Nat × List (Option Nat)))
abbrev Mm : Type := Nat → Nat → Int32
abbrev MI : Type := MethodName × ByteArray × Nat × Option FieldType × Nat × Nat
abbrev Pst : Type := Option Value → Mm → Prop
def ab_cv (ad : Nat → Nat) (v : Value) : Value := match v with
  | .ref k => .ref (ad k)
  | v => v
def ab_flds (ad : Nat → Nat) (f : Nat → Int32) (fs : List (Option Nat)) : List Value := fs.mapIdx (fun j o => match o with
  | some r => Value.ref (ad r)
  | none => .int (f j))
def ab_cell (cy : ClassId) (ad : Nat → Nat) (f : Nat → Int32) (h : Nat ⊕ (Nat × List (Option Nat))) : va_E := match h with
  | .inl n => .inl (cy, n, .inl f)
  | .inr q => .inr (q.1, ab_flds ad f q.2)
def ab_ws (cy : ClassId) (Sh : Shp) (ad : Nat → Nat) (M : Mm) : va_W := Sh.mapIdx (fun k h => (ad k, ab_cell cy ad (M k) h))
def mst (M : Mm) (k j : Nat) (x : Int32) : Mm := fun a => if a = k then upd (M k) j x else M a
def ab_AD (Sh : Shp) (ad : Nat → Nat) : Nat → Prop := fun q => ∃ k, k < Sh.length ∧ ad k = q
theorem mst_same (M : Mm) (k j : Nat) (x : Int32) : mst M k j x k = upd (M k) j x := by simp [mst]
theorem mst_other (M : Mm) {k a : Nat} (j : Nat) (x : Int32) (h : a ≠ k) : mst M k j x a = M a := by simp [mst, h]
theorem ab_get (cy : ClassId) (Sh : Shp) (ad : Nat → Nat) (M : Mm) (k : Nat) : (ab_ws cy Sh ad M)[k]? = (Sh[k]?).map (fun h => (ad k, ab_cell cy ad (M k) h)) := by
  simp [ab_ws, List.getElem?_mapIdx]
theorem ab_setA {cy : ClassId} {Sh : Shp} {ad : Nat → Nat} {M : Mm} {k n : Nat} (h : Sh[k]? = some (.inl n)) (j : Nat) (x : Int32) :
    (ab_ws cy Sh ad M).set k (ad k, .inl (cy, n, .inl (upd (M k) j x))) = ab_ws cy Sh ad (mst M k j x) := by
  apply List.ext_getElem?
  intro i
  rw [List.getElem?_set, ab_get, ab_get]
  by_cases hi : k = i
  · subst hi
    have hl : k < (ab_ws cy Sh ad M).length := by
      have := (List.getElem?_eq_some_iff.mp h).1
      simpa [ab_ws] using this
    simp [hl, h, ab_cell, mst_same]
  · simp [hi, mst_other M j x (Ne.symm hi)]
theorem ab_fset {ad : Nat → Nat} {f : Nat → Int32} {fs : List (Option Nat)} {j : Nat} (h : fs[j]? = some none) (x : Int32) : (ab_flds ad f fs).set j (.int x) = ab_flds ad (upd f j x) fs := by
  apply List.ext_getElem?
  intro i
  rw [List.getElem?_set]
  have hl : j < (ab_flds ad f fs).length := by
    have := (List.getElem?_eq_some_iff.mp h).1
    simpa [ab_flds] using this
  by_cases hi : j = i
  · subst hi
    simp [ab_flds, List.getElem?_mapIdx, h, upd]
    simpa [ab_flds] using hl
  · simp only [hi, if_false]
    simp only [ab_flds, List.getElem?_mapIdx]
    congr 1
    funext o
    cases o with
    | none => simp [upd, Ne.symm hi]
    | some r => rfl
theorem ab_setF {cy : ClassId} {Sh : Shp} {ad : Nat → Nat} {M : Mm} {k j : Nat} {q : Nat × List (Option Nat)} (h : Sh[k]? = some (.inr q)) (hj : q.2[j]? = some none) (x : Int32) :
    (ab_ws cy Sh ad M).set k (ad k, .inr (q.1, (ab_flds ad (M k) q.2).set j (.int x))) = ab_ws cy Sh ad (mst M k j x) := by
  rw [ab_fset hj]
  apply List.ext_getElem?
  intro i
  rw [List.getElem?_set, ab_get, ab_get]
  by_cases hi : k = i
  · subst hi
    have hl : k < (ab_ws cy Sh ad M).length := by
      have := (List.getElem?_eq_some_iff.mp h).1
      simpa [ab_ws] using this
    simp [hl, h, ab_cell, mst_same]
  · simp [hi, mst_other M j x (Ne.symm hi)]
theorem ab_cat (ad : Nat → Nat) (v : Value) : (ab_cv ad v).category = v.category := by cases v <;> rfl
theorem ab_catS (ad : Nat → Nat) (st : List Value) : ((st.map (ab_cv ad)).map fun v => v.category).sum = (st.map fun v => v.category).sum := by
  rw [List.map_map]
  congr 2
  funext v
  exact ab_cat ad v
theorem ab_null {ad : Nat → Nat} {v : Value} (h : v ≠ .null) : ab_cv ad v ≠ .null := by cases v <;> simp_all [ab_cv]
-- locals
def ab_LR (ad : Nat → Nat) (n : Nat) (lsM : Array Slot) (ls : List Value) : Prop := lsM.size = n ∧ lv_wf lsM ∧ ∀ (i : Nat) (v : Value), ls[i]? = some v → v ≠ .null → lsM[i]? = some (.val (ab_cv ad v))
def ab_asc (ad : Nat → Nat) (ls : List Value) : List (Nat × Value) := (List.range ls.length).filterMap (fun i => match ls[i]? with
  | some v => if v = .null then none else some (i, ab_cv ad v)
  | none => none)
theorem ab_asc_mem {ad : Nat → Nat} {ls : List Value} {q : Nat × Value} : q ∈ ab_asc ad ls ↔ ∃ v, ls[q.1]? = some v ∧ v ≠ .null ∧ q.2 = ab_cv ad v := by
  obtain ⟨i, w⟩ := q
  simp only [ab_asc, List.mem_filterMap, List.mem_range]
  constructor
  · rintro ⟨j, hj, h⟩
    rw [List.getElem?_eq_getElem hj] at h
    dsimp only at h
    split at h
    · cases h
    · rename_i hn
      cases h
      exact ⟨_, List.getElem?_eq_getElem hj, hn, rfl⟩
  · rintro ⟨v, hv, hn, e⟩
    refine ⟨i, (List.getElem?_eq_some_iff.mp hv).1, ?_⟩
    rw [hv]
    simp [hn, e]
theorem ab_LR.has {ad : Nat → Nat} {n : Nat} {lsM : Array Slot} {ls : List Value} (h : ab_LR ad n lsM ls) : lv_has lsM n (ab_asc ad ls) := by
  refine ⟨h.1, h.2.1, ?_⟩
  rintro ⟨i, w⟩ hq
  obtain ⟨v, hv, hn, e⟩ := ab_asc_mem.mp hq
  dsimp only at hv e ⊢
  rw [e]
  exact h.2.2 i v hv hn
def ab_ok (ls : List Value) (i : Nat) : Bool := match i with
  | 0 => true
  | j + 1 => match ls[j]? with
    | some (.long _) => false
    | some (.double _) => false
    | _ => true
theorem ab_ok_spec {ls : List Value} {j : Nat} {v : Value} (h : ab_ok ls (j + 1) = true) (hv : ls[j]? = some v) : v.category = 1 := by
  simp only [ab_ok, hv] at h
  cases v <;> first | rfl | (simp at h)
theorem ab_st1 {ad : Nat → Nat} {n i : Nat} {ls : List Value} {v : Value} (ho : ab_ok ls i = true) {ls' : Array Slot}
    (h : lv_has ls' n ((i, ab_cv ad v) :: (ab_asc ad ls).filter (fun q => !(q.1 == i) && !(q.1 + 1 == i && q.2.category == 2)))) : ab_LR ad n ls' (ls.set i v) := by
  refine ⟨h.1, h.2.1, fun j w hj hw => ?_⟩
  rw [List.getElem?_set] at hj
  by_cases e : i = j
  · subst e
    rw [if_pos rfl] at hj
    split at hj
    · cases hj
      exact h.2.2 _ List.mem_cons_self
    · cases hj
  · rw [if_neg e] at hj
    refine h.2.2 (j, ab_cv ad w) (List.mem_cons_of_mem _ (List.mem_filter.mpr ⟨ab_asc_mem.mpr ⟨w, hj, hw, rfl⟩, ?_⟩))
    have e2 : ¬ j = i := fun q => e q.symm
    by_cases e3 : j + 1 = i
    · subst e3
      have := ab_ok_spec ho hj
      simp [ab_cat, this]
    · simp [e2, e3]
theorem ab_st2 {ad : Nat → Nat} {n i : Nat} {ls : List Value} {v : Value} (ho : ab_ok ls i = true) {ls' : Array Slot}
    (h : lv_has ls' n ((i, ab_cv ad v) :: (ab_asc ad ls).filter (fun q => !(q.1 == i) && (!(q.1 == i + 1) && !(q.1 + 1 == i && q.2.category == 2))))) : ab_LR ad n ls' ((ls.set i v).set (i + 1) .null) := by
  refine ⟨h.1, h.2.1, fun j w hj hw => ?_⟩
  rw [List.getElem?_set] at hj
  by_cases e0 : i + 1 = j
  · subst e0
    rw [if_pos rfl] at hj
    split at hj
    · cases hj
      exact absurd rfl hw
    · cases hj
  rw [if_neg e0, List.getElem?_set] at hj
  by_cases e : i = j
  · subst e
    rw [if_pos rfl] at hj
    split at hj
    · cases hj
      exact h.2.2 _ List.mem_cons_self
    · cases hj
  · rw [if_neg e] at hj
    refine h.2.2 (j, ab_cv ad w) (List.mem_cons_of_mem _ (List.mem_filter.mpr ⟨ab_asc_mem.mpr ⟨w, hj, hw, rfl⟩, ?_⟩))
    have e2 : ¬ j = i := fun q => e q.symm
    have e4 : ¬ j = i + 1 := fun q => e0 q.symm
    by_cases e3 : j + 1 = i
    · subst e3
      have := ab_ok_spec ho hj
      simp [ab_cat, this, e4]
    · simp [e2, e3, e4]
def ab_ent0 (vs : List Value) : List Value := vs.flatMap (fun v => if v.category = 2 then [v, .null] else [v])
def ab_ent (n : Nat) (vs : List Value) : List Value := ab_ent0 vs ++ List.replicate (n - (ab_ent0 vs).length) .null
theorem ab_ent_get (ad : Nat → Nat) : ∀ (vs : List Value) (pre : List Value) (preM : List Slot), pre.length = preM.length → (∀ (i : Nat) (v : Value), pre[i]? = some v → v ≠ .null → preM[i]? = some (.val (ab_cv ad v))) →
    ∀ (i : Nat) (v : Value), (pre ++ ab_ent0 vs)[i]? = some v → v ≠ .null → (preM ++ lg_sl (vs.map (ab_cv ad)))[i]? = some (.val (ab_cv ad v))
  | [], pre, preM, _, h, i, v, hi, hn => by
    simp only [ab_ent0, lg_sl, List.flatMap_nil, List.map_nil, List.append_nil] at hi ⊢
    exact h i v hi hn
  | a :: vs, pre, preM, hl, h, i, v, hi, hn => by
    by_cases hc : a.category = 2
    · have hi' : ((pre ++ [a, .null]) ++ ab_ent0 vs)[i]? = some v := by
        rw [List.append_assoc]; simpa [ab_ent0, hc] using hi
      have := ab_ent_get ad vs (pre ++ [a, .null]) (preM ++ [.val (ab_cv ad a), .second]) (by simp [hl]) (fun j w hj hw => by
        rcases Nat.lt_or_ge j pre.length with q | q
        · rw [List.getElem?_append_left q] at hj
          rw [List.getElem?_append_left (by omega)]
          exact h j w hj hw
        · rw [List.getElem?_append_right q] at hj
          rw [List.getElem?_append_right (by omega), ← hl]
          match h2 : j - pre.length, hj with
          | 0, hj => cases hj; rfl
          | 1, hj => cases hj; exact absurd rfl hw
          | k + 2, hj => simp at hj) i v hi' hn
      rw [List.append_assoc] at this
      simpa [lg_sl, ab_cat, hc] using this
    · have hi' : ((pre ++ [a]) ++ ab_ent0 vs)[i]? = some v := by
        rw [List.append_assoc]; simpa [ab_ent0, hc] using hi
      have := ab_ent_get ad vs (pre ++ [a]) (preM ++ [.val (ab_cv ad a)]) (by simp [hl]) (fun j w hj hw => by
        rcases Nat.lt_or_ge j pre.length with q | q
        · rw [List.getElem?_append_left q] at hj
          rw [List.getElem?_append_left (by omega)]
          exact h j w hj hw
        · rw [List.getElem?_append_right q] at hj
          rw [List.getElem?_append_right (by omega), ← hl]
          match h2 : j - pre.length, hj with
          | 0, hj => cases hj; rfl
          | k + 1, hj => simp at hj) i v hi' hn
      rw [List.append_assoc] at this
      simpa [lg_sl, ab_cat, hc] using this
theorem ab_entL (ad : Nat → Nat) (vs : List Value) : (lg_sl (vs.map (ab_cv ad))).length = (ab_ent0 vs).length := by
  induction vs with
  | nil => rfl
  | cons a vs ih =>
    simp only [lg_sl, ab_ent0, List.map_cons, List.flatMap_cons, List.length_append] at ih ⊢
    rw [ih, ab_cat]
    split <;> rfl
theorem ab_LR_ent (ad : Nat → Nat) (vs : List Value) {n : Nat} (h : (ab_ent0 vs).length ≤ n) :
    ab_LR ad n ((lg_sl (vs.map (ab_cv ad)) ++ List.replicate (n - (lg_sl (vs.map (ab_cv ad))).length) Slot.unset).toArray) (ab_ent n vs) := by
  obtain ⟨h1, h2, -⟩ := lv_entry (vs.map (ab_cv ad)) (n := n) (by rw [ab_entL]; exact h)
  refine ⟨h1, h2, fun i v hi hn => ?_⟩
  rw [List.getElem?_toArray]
  rcases Nat.lt_or_ge i (ab_ent0 vs).length with q | q
  · rw [ab_ent, List.getElem?_append_left q] at hi
    rw [List.getElem?_append_left (by rw [ab_entL]; exact q)]
    have := ab_ent_get ad vs [] [] rfl (fun i v h => by simp at h) i v (by simpa using hi) hn
    simpa using this
  · rw [ab_ent, List.getElem?_append_right q, List.getElem?_replicate] at hi
    split at hi
    · cases hi; exact absurd rfl hn
    · cases hi
-- machine contexts
def ab_rm (m : MI) : Room := { frames := m.2.2.2.2.1, cells := 0, slots := 0, locals := m.2.2.2.2.2 }
def ab_wm (m : MI) : List Cond := Cond.code m.1 m.2.1 m.2.2.1 m.2.2.2.1 :: wAll
def ab_nst (U : State) : Prop := ∀ w ∈ NST, va_Nw w U
def ab_CX (m : MI) (D : va_G) (cy : ClassId) (p : Program) (s : State) (mid : MethodId) (args : Array Value) (meth : Method) (c : Code) : Prop :=
  p.tables.exec = Jvm.exec ∧ c.code = m.2.1 ∧ meth.sig.returnType = m.2.2.2.1 ∧ c.maxLocals = m.2.2.1 ∧ s.vm.findClass m.1.cls = some mid.cls ∧ meth.locks = false ∧ (∀ w ∈ wAll, w.before args s = true) ∧ ab_nst s ∧ va_K D vwCl [(cy, .int)] s
def ab_Q (Sh : Shp) (D : va_G) (cy : ClassId) (ad : Nat → Nat) (Q : Pst) : Array Value → State → Outcome → State → Prop := fun _ st oc t =>
  (∃ (r : Option Value) (M' : Mm), oc = .returned (r.map (ab_cv ad)) ∧ Q r M' ∧ va_P D vwCl (ab_ws cy Sh ad M') t.heap ∧ va_D (ab_AD Sh ad) (ab_ws cy Sh ad M')) ∧ va_F (ab_AD Sh ad) st t
abbrev PT : Type := Shp → MI → Nat → List Value → List Value → Mm → Pst → Prop
def ab_W : PT := fun Sh m pc ls st M Q => ∀ (l : Launch) (p : Program) (e : Env) (s : State) (mid : MethodId) (args : Array Value) (below : List Frame) (meth : Method) (c : Code) (D : va_G) (cy : ClassId) (ad : Nat → Nat), ab_CX m D cy p s mid args meth c →
  ∀ (H : Heap) (locs : List Loc) (lsM : Array Slot), va_P D vwCl (ab_ws cy Sh ad M) H → va_D (ab_AD Sh ad) (ab_ws cy Sh ad M) → va_S (ab_AD Sh ad) s.heap H locs → ab_LR ad m.2.2.1 lsM ls →
  W p l e (ab_rm m) s mid args below meth c H locs 0 0 (MQ below (ab_Q Sh D cy ad Q) args s 0 0 (ab_AD Sh ad)) (F0 mid pc lsM (st.map (ab_cv ad)))
/-- a field's link: the instruction 'index' of the class 'own' names the slot j of the class number ci -/
def ab_FL (own : String) (index ci j : Nat) : Prop := ∃ (C : String) (T : u_T) (N : Nat) (ty0 : Nat → FieldType), vwCl[ci]? = some (C, T, N) ∧ j < N ∧ (∀ w ∈ u_ws C T N, w ∈ wAll) ∧ (∀ k, k < N → parseFieldDescriptor (T k).2.2.1 = some (ty0 k)) ∧ (∀ a, a < N → ∀ b, b < N → a ≠ b → (T a).2.1 ≠ (T b).2.1) ∧
  (Cond.fieldLink own index (T j).1 (T j).2.1 (T j).2.2.1 ∈ wAll ∨ ∃ host, Cond.fieldLinkNest own index (T j).1 (T j).2.1 (T j).2.2.1 host ∈ NST)
def ab_FI (ci j : Nat) : Prop := ∃ (C : String) (T : u_T) (N : Nat), vwCl[ci]? = some (C, T, N) ∧ (T j).2.2.2 = false ∧ parseFieldDescriptor (T j).2.2.1 = some .int
/-- a method that may be called -/
def ab_MO (m : MI) (n : Nat) : Prop := Cond.code m.1 m.2.1 m.2.2.1 m.2.2.2.1 ∈ wAll ∧ Cond.initialized m.1.cls ∈ wAll ∧ m.1.cls ≠ "java/lang/invoke/MethodHandle" ∧ m.1.cls ≠ "java/lang/invoke/VarHandle" ∧ (parseMethodDescriptor m.1.desc).map (fun d => d.parameters.length) = some n ∧ plainName m.1.cls = true
def ab_IM (m : MI) : Prop := Cond.instanceMethod m.1 ∈ wAll ∧ Cond.selects m.1.cls m.1 m.1 ∈ wAll
def ab_SM (m : MI) : Prop := Cond.static m.1 ∈ wAll
def ab_ML (own : String) (index : Nat) (m : MI) : Prop := Cond.methodLink own index m.1 ∈ wAll ∨ ∃ host, Cond.methodLinkNest own index m.1 host ∈ NST
def ab_RM (m m' : MI) : Bool := Nat.ble (m'.2.2.2.2.1 + 1) m.2.2.2.2.1 && Nat.ble (8 + (m'.2.2.1 + 11) + m'.2.2.2.2.2) m.2.2.2.2.2
def ab_obj (Sh : Shp) (k : Nat) (C : String) : Prop := ∃ (q : Nat × List (Option Nat)) (r : vw_C), Sh[k]? = some (.inr q) ∧ vwCl[q.1]? = some r ∧ r.1 = C

theorem ab_nst.same {u U : State} (h : u.vm = U.vm) (z : ab_nst u) : ab_nst U := fun w hw => va_Nw.same (NST_on w hw) h (z w hw)
theorem ab_nst.warm {s U : State} (hW : s.WarmedH U.vm) (z : ab_nst s) : ab_nst U := by
  intro w hw
  have h1 := NST_form w hw
  have h2 := z w hw
  cases w <;> first | exact va_Nw.warmF hW h2 | exact va_Nw.warmM hW h2 | (exact absurd h1 (by decide)) | (simp [NST_isn] at h1)
def ab_Pc (Sh : Shp) (D : va_G) (cy : ClassId) (ad : Nat → Nat) (M : Mm) (vs : List Value) : Array Value → State → Prop := va_Pc vs (fun U => va_P D vwCl (ab_ws cy Sh ad M) U.heap ∧ va_K D vwCl [(cy, .int)] U ∧ va_D (ab_AD Sh ad) (ab_ws cy Sh ad M) ∧ ab_nst U)
theorem ab_blind {Sh : Shp} {D : va_G} {cy : ClassId} {ad : Nat → Nat} {M : Mm} {vs : List Value} : FrameBlind (ab_Pc Sh D cy ad M vs) := fun a U g mk q => by
  obtain ⟨q0, qP, qK, qD, qN⟩ := q
  exact ⟨q0, qP, va_K.moved (u := U) (U := U.calling g mk a) (Vm.Alike.refl U.vm) qK, qD, ab_nst.same (u := U) (U := U.calling g mk a) rfl qN⟩
theorem ab_met {Sh : Shp} {m : MI} {vs : List Value} {M : Mm} {Q : Pst} (l : Launch) (D : va_G) (cy : ClassId) (ad : Nat → Nat) {np : Nat} (h : ab_W Sh m 0 (ab_ent m.2.2.1 vs) [] M Q) (hmo : ab_MO m np) (hle : (ab_ent0 vs).length ≤ m.2.2.1) :
    Met l m.1 (ab_wm m) (ab_rm m) (ab_Pc Sh D cy ad M (vs.map (ab_cv ad))) (ab_Q Sh D cy ad Q) 0 0 (ab_AD Sh ad) := by
  refine Met.ofW (cc := m.2.1) (maxL := m.2.2.1) (ret := m.2.2.2.1) hmo.2.2.2.2.2 rfl ?_
  intro p e s mid args below meth c s₁ B hml hv
  obtain ⟨rfl, hP, hK, hD, hN⟩ := hv
  have hts := atoms_spec (ws := ab_wm m) B.pre
  have hown : s.vm.findClass m.1.cls = some mid.cls := findClass_of_methodNamed B.named
  rw [lg_entry_eq]
  exact h l p e s mid _ below meth c D cy ad ⟨B.exec, B.bytes, B.returns, hml, hown, B.notSynchronized, fun w hw => hts w (List.mem_cons_of_mem _ hw), hN, hK⟩ s.heap [] _ hP hD va_S.rf (ab_LR_ent ad vs hle)
theorem ab_good : ∀ w ∈ wAll, w ∈ wAll ∧ ((w.onTables && w.keeps) = true ∨ ∃ ty, w = .arrayClass ty) := fun w h => ⟨h, (wAll_good h).2⟩
theorem ab_words {m m2 : MI} {D : va_G} {cy : ClassId} {p : Program} {s : State} {mid : MethodId} {args : Array Value} {meth : Method} {c : Code} {np : Nat} (cx : ab_CX m D cy p s mid args meth c) (hmo : ab_MO m2 np) :
    (∀ w ∈ ab_wm m2, ∀ (a' : Array Value) (U : State), s.WarmedH U.vm → w.before a' U = true) ∧ (∀ sig, parseMethodDescriptor m2.1.desc = some sig → np = sig.parameters.length) := by
  refine ⟨pay_in cx.2.2.2.2.2.2.1 (fun w hw => ?_), fun sig h => ?_⟩
  · rcases List.mem_cons.mp hw with rfl | hw
    · exact ab_good _ hmo.1
    · exact ab_good _ hw
  · have h2 := hmo.2.2.2.2.1
    rw [h] at h2
    exact (Option.some.inj h2).symm
theorem ab_prev {Sh : Shp} {m : MI} {M : Mm} {D : va_G} {cy : ClassId} {ad : Nat → Nat} {p : Program} {s : State} {mid : MethodId} {args : Array Value} {meth : Method} {c : Code} {H : Heap} {As : List Value} {k : Nat} {q : Nat × List (Option Nat)} {r0 : vw_C} (cx : ab_CX m D cy p s mid args meth c)
    (hP : va_P D vwCl (ab_ws cy Sh ad M) H) (hD : va_D (ab_AD Sh ad) (ab_ws cy Sh ad M)) (he : (ab_ws cy Sh ad M)[k]? = some (ad k, .inr (q.1, ab_flds ad (M k) q.2))) (hc : vwCl[q.1]? = some r0) :
    PreV s H r0.1 (ad k) (ab_Pc Sh D cy ad M (.ref (ad k) :: As)) As :=
  ⟨ab_blind, va_recv cx.2.2.2.2.2.2.2.2 hP hc he, fun U hU hW => ⟨rfl, by rw [hU]; exact hP, va_K.moved hW.alike cx.2.2.2.2.2.2.2.2, hD, ab_nst.warm hW cx.2.2.2.2.2.2.2.1⟩⟩
theorem ab_pres {Sh : Shp} {m : MI} {M : Mm} {D : va_G} {cy : ClassId} {ad : Nat → Nat} {p : Program} {s : State} {mid : MethodId} {args : Array Value} {meth : Method} {c : Code} {H : Heap} {As : List Value} (cx : ab_CX m D cy p s mid args meth c)
    (hP : va_P D vwCl (ab_ws cy Sh ad M) H) (hD : va_D (ab_AD Sh ad) (ab_ws cy Sh ad M)) : PreS s H (ab_Pc Sh D cy ad M As) As :=
  ⟨ab_blind, fun U hU hW => ⟨rfl, by rw [hU]; exact hP, va_K.moved hW.alike cx.2.2.2.2.2.2.2.2, hD, ab_nst.warm hW cx.2.2.2.2.2.2.2.1⟩⟩
theorem ab_callX {p : Program} {l : Launch} {e : Env} {R : Room} {s : State} {m : MethodId} {args : Array Value} {below : List Frame} {meth : Method} {c : Code} {H : Heap} {locs : List Loc} {QQ : State → Prop} {Sh : Shp} {D : va_G} {cy : ClassId} {ad : Nat → Nat} {Q2 : Pst} {pc : Nat} {lsM : Array Slot} {st0 : List Value} {rest : List Value} {a : Array Value} {H0 : Heap}
    (hr : va_Run p l e R s m args below meth c H locs 0 0 0 0 (F0 m pc lsM st0) (rest.map (ab_cv ad)) (ab_Q Sh D cy ad Q2 a) (ab_AD Sh ad)) (hS : va_S (ab_AD Sh ad) H0 H locs)
    (kk : ∀ (r : Option Value) (M2 : Mm) (H1 : Heap) (locs1 : List Loc), Q2 r M2 → va_P D vwCl (ab_ws cy Sh ad M2) H1 → va_D (ab_AD Sh ad) (ab_ws cy Sh ad M2) → va_S (ab_AD Sh ad) H0 H1 locs1 → W p l e R s m args below meth c H1 locs1 0 0 QQ (F0 m (pc + 3) lsM ((r.toList ++ rest).map (ab_cv ad)))) :
    W p l e R s m args below meth c H locs 0 0 QQ (F0 m pc lsM st0) := by
  intro T hT X
  obtain ⟨v, st₀, t, T', L, h0, X', hL, e1, e2, ⟨⟨r, M2, hv, hq, hP, hD⟩, hz, hk⟩, st⟩ := hr T hT X
  have hv2 : v = r.map (ab_cv ad) := by injection hv
  subst hv2
  rw [h0] at hz hk
  rw [← e1] at hP
  obtain ⟨t2, a1, b1⟩ := kk r M2 T'.heap (locs ++ L) hq hP hD
    ⟨Nat.le_trans hS.1 (by rw [e1]; exact hz), fun q h1 h2 => by rw [e1, hk q (Nat.lt_of_lt_of_le h1 hS.1) h2]; exact hS.2.1 q h1 h2, fun q hq => by
      rcases List.mem_append.mp hq with h | h
      · exact hS.2.2 q h
      · exact hL q h⟩ T' rfl X'
  refine ⟨t2, st t2 ?_, b1⟩
  have es : (r.map (ab_cv ad)).toList ++ rest.map (ab_cv ad) = (r.toList ++ rest).map (ab_cv ad) := by cases r <;> simp
  rw [es]
  exact a1

def Rl_iadd (P : PT) : Prop := ∀ (Sh : Shp) (m : MI) (pc n : Nat) (ls st : List Value) (M : Mm) (Q : Pst) (x y : Int32), decode m.2.1 pc = .ok (.iadd, 1) → pc + 1 = n → (P Sh m (n) ls (.int (x + y) :: st) M Q) → P Sh m pc ls (.int y :: .int x :: st) M Q
def Rl_isub (P : PT) : Prop := ∀ (Sh : Shp) (m : MI) (pc n : Nat) (ls st : List Value) (M : Mm) (Q : Pst) (x y : Int32), decode m.2.1 pc = .ok (.isub, 1) → pc + 1 = n → (P Sh m (n) ls (.int (x - y) :: st) M Q) → P Sh m pc ls (.int y :: .int x :: st) M Q
def Rl_imul (P : PT) : Prop := ∀ (Sh : Shp) (m : MI) (pc n : Nat) (ls st : List Value) (M : Mm) (Q : Pst) (x y : Int32), decode m.2.1 pc = .ok (.imul, 1) → pc + 1 = n → (P Sh m (n) ls (.int (x * y) :: st) M Q) → P Sh m pc ls (.int y :: .int x :: st) M Q
def Rl_iand (P : PT) : Prop := ∀ (Sh : Shp) (m : MI) (pc n : Nat) (ls st : List Value) (M : Mm) (Q : Pst) (x y : Int32), decode m.2.1 pc = .ok (.iand, 1) → pc + 1 = n → (P Sh m (n) ls (.int (x &&& y) :: st) M Q) → P Sh m pc ls (.int y :: .int x :: st) M Q
def Rl_ior (P : PT) : Prop := ∀ (Sh : Shp) (m : MI) (pc n : Nat) (ls st : List Value) (M : Mm) (Q : Pst) (x y : Int32), decode m.2.1 pc = .ok (.ior, 1) → pc + 1 = n → (P Sh m (n) ls (.int (x ||| y) :: st) M Q) → P Sh m pc ls (.int y :: .int x :: st) M Q
def Rl_ixor (P : PT) : Prop := ∀ (Sh : Shp) (m : MI) (pc n : Nat) (ls st : List Value) (M : Mm) (Q : Pst) (x y : Int32), decode m.2.1 pc = .ok (.ixor, 1) → pc + 1 = n → (P Sh m (n) ls (.int (x ^^^ y) :: st) M Q) → P Sh m pc ls (.int y :: .int x :: st) M Q
def Rl_ishl (P : PT) : Prop := ∀ (Sh : Shp) (m : MI) (pc n : Nat) (ls st : List Value) (M : Mm) (Q : Pst) (x y : Int32), decode m.2.1 pc = .ok (.ishl, 1) → pc + 1 = n → (P Sh m (n) ls (.int (x <<< (y &&& 31)) :: st) M Q) → P Sh m pc ls (.int y :: .int x :: st) M Q
def Rl_ishr (P : PT) : Prop := ∀ (Sh : Shp) (m : MI) (pc n : Nat) (ls st : List Value) (M : Mm) (Q : Pst) (x y : Int32), decode m.2.1 pc = .ok (.ishr, 1) → pc + 1 = n → (P Sh m (n) ls (.int (x >>> (y &&& 31)) :: st) M Q) → P Sh m pc ls (.int y :: .int x :: st) M Q
def Rl_iushr (P : PT) : Prop := ∀ (Sh : Shp) (m : MI) (pc n : Nat) (ls st : List Value) (M : Mm) (Q : Pst) (x y : Int32), decode m.2.1 pc = .ok (.iushr, 1) → pc + 1 = n → (P Sh m (n) ls (.int ((x.toUInt32 >>> (y.toUInt32 &&& Int32.toUInt32 31)).toInt32) :: st) M Q) → P Sh m pc ls (.int y :: .int x :: st) M Q
def Rl_idiv (P : PT) : Prop := ∀ (Sh : Shp) (m : MI) (pc n : Nat) (ls st : List Value) (M : Mm) (Q : Pst) (x y : Int32), decode m.2.1 pc = .ok (.idiv, 1) → ¬ y = 0 → pc + 1 = n → (P Sh m (n) ls (.int (x / y) :: st) M Q) → P Sh m pc ls (.int y :: .int x :: st) M Q
def Rl_irem (P : PT) : Prop := ∀ (Sh : Shp) (m : MI) (pc n : Nat) (ls st : List Value) (M : Mm) (Q : Pst) (x y : Int32), decode m.2.1 pc = .ok (.irem, 1) → ¬ y = 0 → pc + 1 = n → (P Sh m (n) ls (.int (x - x / y * y) :: st) M Q) → P Sh m pc ls (.int y :: .int x :: st) M Q
def Rl_ladd (P : PT) : Prop := ∀ (Sh : Shp) (m : MI) (pc n : Nat) (ls st : List Value) (M : Mm) (Q : Pst) (x y : Int64), decode m.2.1 pc = .ok (.ladd, 1) → pc + 1 = n → (P Sh m (n) ls (.long (x + y) :: st) M Q) → P Sh m pc ls (.long y :: .long x :: st) M Q
def Rl_lmul (P : PT) : Prop := ∀ (Sh : Shp) (m : MI) (pc n : Nat) (ls st : List Value) (M : Mm) (Q : Pst) (x y : Int64), decode m.2.1 pc = .ok (.lmul, 1) → pc + 1 = n → (P Sh m (n) ls (.long (x * y) :: st) M Q) → P Sh m pc ls (.long y :: .long x :: st) M Q
def Rl_ldiv (P : PT) : Prop := ∀ (Sh : Shp) (m : MI) (pc n : Nat) (ls st : List Value) (M : Mm) (Q : Pst) (x y : Int64), decode m.2.1 pc = .ok (.ldiv, 1) → ¬ y = 0 → pc + 1 = n → (P Sh m (n) ls (.long (x / y) :: st) M Q) → P Sh m pc ls (.long y :: .long x :: st) M Q
def Rl_lcmp (P : PT) : Prop := ∀ (Sh : Shp) (m : MI) (pc n : Nat) (ls st : List Value) (M : Mm) (Q : Pst) (x y : Int64), decode m.2.1 pc = .ok (.lcmp, 1) → pc + 1 = n → (P Sh m (n) ls (.int (lg_cmp x y) :: st) M Q) → P Sh m pc ls (.long y :: .long x :: st) M Q
def Rl_i2l (P : PT) : Prop := ∀ (Sh : Shp) (m : MI) (pc n : Nat) (ls st : List Value) (M : Mm) (Q : Pst) (x : Int32), decode m.2.1 pc = .ok (.i2l, 1) → pc + 1 = n → (P Sh m (n) ls (.long x.toInt64 :: st) M Q) → P Sh m pc ls (.int x :: st) M Q
def Rl_l2i (P : PT) : Prop := ∀ (Sh : Shp) (m : MI) (pc n : Nat) (ls st : List Value) (M : Mm) (Q : Pst) (x : Int64), decode m.2.1 pc = .ok (.l2i, 1) → pc + 1 = n → (P Sh m (n) ls (.int x.toInt32 :: st) M Q) → P Sh m pc ls (.long x :: st) M Q
def Rl_dup (P : PT) : Prop := ∀ (Sh : Shp) (m : MI) (pc n : Nat) (ls st : List Value) (M : Mm) (Q : Pst) (v : Value), decode m.2.1 pc = .ok (.dup, 1) → v.category = 1 → pc + 1 = n → (P Sh m (n) ls (v :: v :: st) M Q) → P Sh m pc ls (v :: st) M Q
def Rl_pop (P : PT) : Prop := ∀ (Sh : Shp) (m : MI) (pc n : Nat) (ls st : List Value) (M : Mm) (Q : Pst) (v : Value), decode m.2.1 pc = .ok (.pop, 1) → v.category = 1 → pc + 1 = n → (P Sh m (n) ls st M Q) → P Sh m pc ls (v :: st) M Q
def Rl_dup2 (P : PT) : Prop := ∀ (Sh : Shp) (m : MI) (pc n : Nat) (ls st : List Value) (M : Mm) (Q : Pst) (v u : Value), decode m.2.1 pc = .ok (.dup2, 1) → v.category = 1 → u.category = 1 → pc + 1 = n → (P Sh m (n) ls (v :: u :: v :: u :: st) M Q) → P Sh m pc ls (v :: u :: st) M Q
def Rl_iconst (P : PT) : Prop := ∀ (Sh : Shp) (m : MI) (pc n : Nat) (ls st : List Value) (M : Mm) (Q : Pst) (z : Int) (v : Int32), decode m.2.1 pc = .ok (.iconst z, 1) → Int32.ofInt z = v → pc + 1 = n → (P Sh m (n) ls (.int v :: st) M Q) → P Sh m pc ls st M Q
def Rl_bipush (P : PT) : Prop := ∀ (Sh : Shp) (m : MI) (pc n : Nat) (ls st : List Value) (M : Mm) (Q : Pst) (z : Int) (v : Int32), decode m.2.1 pc = .ok (.bipush z, 2) → (Int8.ofInt z).toInt32 = v → pc + 2 = n → (P Sh m (n) ls (.int v :: st) M Q) → P Sh m pc ls st M Q
def Rl_sipush (P : PT) : Prop := ∀ (Sh : Shp) (m : MI) (pc n : Nat) (ls st : List Value) (M : Mm) (Q : Pst) (z : Int) (v : Int32), decode m.2.1 pc = .ok (.sipush z, 3) → (Int16.ofInt z).toInt32 = v → pc + 3 = n → (P Sh m (n) ls (.int v :: st) M Q) → P Sh m pc ls st M Q
def Rl_lconst (P : PT) : Prop := ∀ (Sh : Shp) (m : MI) (pc n : Nat) (ls st : List Value) (M : Mm) (Q : Pst) (z : Fin 2) (v : Int64), decode m.2.1 pc = .ok (.lconst z, 1) → Int64.ofNat (z : Nat) = v → pc + 1 = n → (P Sh m (n) ls (.long v :: st) M Q) → P Sh m pc ls st M Q
def Rl_ldc (P : PT) : Prop := ∀ (Sh : Shp) (m : MI) (pc n : Nat) (ls st : List Value) (M : Mm) (Q : Pst) (i : Nat) (v : Int32), decode m.2.1 pc = .ok (.ldc i, 2) → Cond.constant m.1.cls i v ∈ wAll → pc + 2 = n → (P Sh m (n) ls (.int v :: st) M Q) → P Sh m pc ls st M Q
def Rl_ldcw (P : PT) : Prop := ∀ (Sh : Shp) (m : MI) (pc n : Nat) (ls st : List Value) (M : Mm) (Q : Pst) (i : Nat) (v : Int32), decode m.2.1 pc = .ok (.ldc_w i, 3) → Cond.constant m.1.cls i v ∈ wAll → pc + 3 = n → (P Sh m (n) ls (.int v :: st) M Q) → P Sh m pc ls st M Q
def Rl_ldc2 (P : PT) : Prop := ∀ (Sh : Shp) (m : MI) (pc n : Nat) (ls st : List Value) (M : Mm) (Q : Pst) (i : Nat) (v : Int64), decode m.2.1 pc = .ok (.ldc2_w i, 3) → Cond.constantLong m.1.cls i v ∈ wAll → pc + 3 = n → (P Sh m (n) ls (.long v :: st) M Q) → P Sh m pc ls st M Q
def Rl_iload_n (P : PT) : Prop := ∀ (Sh : Shp) (m : MI) (pc n : Nat) (ls st : List Value) (M : Mm) (Q : Pst) (z : Fin 4) (x : Int32), decode m.2.1 pc = .ok (.iload_n z, 1) → ls[(z : Nat)]? = some (.int x) → pc + 1 = n → (P Sh m (n) ls (.int x :: st) M Q) → P Sh m pc ls st M Q
def Rl_iload (P : PT) : Prop := ∀ (Sh : Shp) (m : MI) (pc n : Nat) (ls st : List Value) (M : Mm) (Q : Pst) (z : Nat) (x : Int32), decode m.2.1 pc = .ok (.iload z, 2) → ls[z]? = some (.int x) → pc + 2 = n → (P Sh m (n) ls (.int x :: st) M Q) → P Sh m pc ls st M Q
def Rl_lload_n (P : PT) : Prop := ∀ (Sh : Shp) (m : MI) (pc n : Nat) (ls st : List Value) (M : Mm) (Q : Pst) (z : Fin 4) (x : Int64), decode m.2.1 pc = .ok (.lload_n z, 1) → ls[(z : Nat)]? = some (.long x) → pc + 1 = n → (P Sh m (n) ls (.long x :: st) M Q) → P Sh m pc ls st M Q
def Rl_lload (P : PT) : Prop := ∀ (Sh : Shp) (m : MI) (pc n : Nat) (ls st : List Value) (M : Mm) (Q : Pst) (z : Nat) (x : Int64), decode m.2.1 pc = .ok (.lload z, 2) → ls[z]? = some (.long x) → pc + 2 = n → (P Sh m (n) ls (.long x :: st) M Q) → P Sh m pc ls st M Q
def Rl_aload_n (P : PT) : Prop := ∀ (Sh : Shp) (m : MI) (pc n : Nat) (ls st : List Value) (M : Mm) (Q : Pst) (z : Fin 4) (x : Nat), decode m.2.1 pc = .ok (.aload_n z, 1) → ls[(z : Nat)]? = some (.ref x) → pc + 1 = n → (P Sh m (n) ls (.ref x :: st) M Q) → P Sh m pc ls st M Q
def Rl_istore_n (P : PT) : Prop := ∀ (Sh : Shp) (m : MI) (pc n : Nat) (ls st : List Value) (M : Mm) (Q : Pst) (ls2 : List Value) (z : Fin 4) (x : Int32), decode m.2.1 pc = .ok (.istore_n z, 1) → (z : Nat) < m.2.2.1 → ab_ok ls (z : Nat) = true → (ls.set (z : Nat) (.int x)) = ls2 → pc + 1 = n → (P Sh m (n) ls2 st M Q) → P Sh m pc ls ((.int x) :: st) M Q
def Rl_istore (P : PT) : Prop := ∀ (Sh : Shp) (m : MI) (pc n : Nat) (ls st : List Value) (M : Mm) (Q : Pst) (ls2 : List Value) (z : Nat) (x : Int32), decode m.2.1 pc = .ok (.istore z, 2) → z < m.2.2.1 → ab_ok ls z = true → (ls.set z (.int x)) = ls2 → pc + 2 = n → (P Sh m (n) ls2 st M Q) → P Sh m pc ls ((.int x) :: st) M Q
def Rl_lstore_n (P : PT) : Prop := ∀ (Sh : Shp) (m : MI) (pc n : Nat) (ls st : List Value) (M : Mm) (Q : Pst) (ls2 : List Value) (z : Fin 4) (x : Int64), decode m.2.1 pc = .ok (.lstore_n z, 1) → (z : Nat) + 1 < m.2.2.1 → ab_ok ls (z : Nat) = true → ((ls.set (z : Nat) (.long x)).set ((z : Nat) + 1) .null) = ls2 → pc + 1 = n → (P Sh m (n) ls2 st M Q) → P Sh m pc ls ((.long x) :: st) M Q
def Rl_lstore (P : PT) : Prop := ∀ (Sh : Shp) (m : MI) (pc n : Nat) (ls st : List Value) (M : Mm) (Q : Pst) (ls2 : List Value) (z : Nat) (x : Int64), decode m.2.1 pc = .ok (.lstore z, 2) → z + 1 < m.2.2.1 → ab_ok ls z = true → ((ls.set z (.long x)).set (z + 1) .null) = ls2 → pc + 2 = n → (P Sh m (n) ls2 st M Q) → P Sh m pc ls ((.long x) :: st) M Q
def Rl_iinc (P : PT) : Prop := ∀ (Sh : Shp) (m : MI) (pc n : Nat) (ls st : List Value) (M : Mm) (Q : Pst) (ls2 : List Value) (z : Nat) (d : Int) (x v : Int32), decode m.2.1 pc = .ok (.iinc z d, 3) → ls[z]? = some (.int x) → x + Int32.ofInt d = v → z < m.2.2.1 → ab_ok ls z = true → ls.set z (.int v) = ls2 → pc + 3 = n → (P Sh m (n) ls2 st M Q) → P Sh m pc ls st M Q
def Rl_if_eq (P : PT) : Prop := ∀ (Sh : Shp) (m : MI) (pc n : Nat) (ls st : List Value) (M : Mm) (Q : Pst) (t : Nat) (x : Int32) (off : Int), decode m.2.1 pc = .ok (.ifCond .eq off, 3) → (pc : Int) + off = (t : Int) → pc + 3 = n → (x = 0 → P Sh m (t) ls st M Q) → (¬ x = 0 → P Sh m (n) ls st M Q) → P Sh m pc ls (.int x :: st) M Q
def Rl_if_ne (P : PT) : Prop := ∀ (Sh : Shp) (m : MI) (pc n : Nat) (ls st : List Value) (M : Mm) (Q : Pst) (t : Nat) (x : Int32) (off : Int), decode m.2.1 pc = .ok (.ifCond .ne off, 3) → (pc : Int) + off = (t : Int) → pc + 3 = n → (¬ x = 0 → P Sh m (t) ls st M Q) → (x = 0 → P Sh m (n) ls st M Q) → P Sh m pc ls (.int x :: st) M Q
def Rl_if_lt (P : PT) : Prop := ∀ (Sh : Shp) (m : MI) (pc n : Nat) (ls st : List Value) (M : Mm) (Q : Pst) (t : Nat) (x : Int32) (off : Int), decode m.2.1 pc = .ok (.ifCond .lt off, 3) → (pc : Int) + off = (t : Int) → pc + 3 = n → (x < 0 → P Sh m (t) ls st M Q) → (¬ x < 0 → P Sh m (n) ls st M Q) → P Sh m pc ls (.int x :: st) M Q
def Rl_if_ge (P : PT) : Prop := ∀ (Sh : Shp) (m : MI) (pc n : Nat) (ls st : List Value) (M : Mm) (Q : Pst) (t : Nat) (x : Int32) (off : Int), decode m.2.1 pc = .ok (.ifCond .ge off, 3) → (pc : Int) + off = (t : Int) → pc + 3 = n → (0 ≤ x → P Sh m (t) ls st M Q) → (¬ 0 ≤ x → P Sh m (n) ls st M Q) → P Sh m pc ls (.int x :: st) M Q
def Rl_if_gt (P : PT) : Prop := ∀ (Sh : Shp) (m : MI) (pc n : Nat) (ls st : List Value) (M : Mm) (Q : Pst) (t : Nat) (x : Int32) (off : Int), decode m.2.1 pc = .ok (.ifCond .gt off, 3) → (pc : Int) + off = (t : Int) → pc + 3 = n → (0 < x → P Sh m (t) ls st M Q) → (¬ 0 < x → P Sh m (n) ls st M Q) → P Sh m pc ls (.int x :: st) M Q
def Rl_if_le (P : PT) : Prop := ∀ (Sh : Shp) (m : MI) (pc n : Nat) (ls st : List Value) (M : Mm) (Q : Pst) (t : Nat) (x : Int32) (off : Int), decode m.2.1 pc = .ok (.ifCond .le off, 3) → (pc : Int) + off = (t : Int) → pc + 3 = n → (x ≤ 0 → P Sh m (t) ls st M Q) → (¬ x ≤ 0 → P Sh m (n) ls st M Q) → P Sh m pc ls (.int x :: st) M Q
def Rl_icmp_eq (P : PT) : Prop := ∀ (Sh : Shp) (m : MI) (pc n : Nat) (ls st : List Value) (M : Mm) (Q : Pst) (t : Nat) (x y : Int32) (off : Int), decode m.2.1 pc = .ok (.if_icmp .eq off, 3) → (pc : Int) + off = (t : Int) → pc + 3 = n → (x = y → P Sh m (t) ls st M Q) → (¬ x = y → P Sh m (n) ls st M Q) → P Sh m pc ls (.int y :: .int x :: st) M Q
def Rl_icmp_ne (P : PT) : Prop := ∀ (Sh : Shp) (m : MI) (pc n : Nat) (ls st : List Value) (M : Mm) (Q : Pst) (t : Nat) (x y : Int32) (off : Int), decode m.2.1 pc = .ok (.if_icmp .ne off, 3) → (pc : Int) + off = (t : Int) → pc + 3 = n → (¬ x = y → P Sh m (t) ls st M Q) → (x = y → P Sh m (n) ls st M Q) → P Sh m pc ls (.int y :: .int x :: st) M Q
def Rl_icmp_lt (P : PT) : Prop := ∀ (Sh : Shp) (m : MI) (pc n : Nat) (ls st : List Value) (M : Mm) (Q : Pst) (t : Nat) (x y : Int32) (off : Int), decode m.2.1 pc = .ok (.if_icmp .lt off, 3) → (pc : Int) + off = (t : Int) → pc + 3 = n → (x < y → P Sh m (t) ls st M Q) → (¬ x < y → P Sh m (n) ls st M Q) → P Sh m pc ls (.int y :: .int x :: st) M Q
def Rl_icmp_ge (P : PT) : Prop := ∀ (Sh : Shp) (m : MI) (pc n : Nat) (ls st : List Value) (M : Mm) (Q : Pst) (t : Nat) (x y : Int32) (off : Int), decode m.2.1 pc = .ok (.if_icmp .ge off, 3) → (pc : Int) + off = (t : Int) → pc + 3 = n → (y ≤ x → P Sh m (t) ls st M Q) → (¬ y ≤ x → P Sh m (n) ls st M Q) → P Sh m pc ls (.int y :: .int x :: st) M Q
def Rl_icmp_gt (P : PT) : Prop := ∀ (Sh : Shp) (m : MI) (pc n : Nat) (ls st : List Value) (M : Mm) (Q : Pst) (t : Nat) (x y : Int32) (off : Int), decode m.2.1 pc = .ok (.if_icmp .gt off, 3) → (pc : Int) + off = (t : Int) → pc + 3 = n → (y < x → P Sh m (t) ls st M Q) → (¬ y < x → P Sh m (n) ls st M Q) → P Sh m pc ls (.int y :: .int x :: st) M Q
def Rl_icmp_le (P : PT) : Prop := ∀ (Sh : Shp) (m : MI) (pc n : Nat) (ls st : List Value) (M : Mm) (Q : Pst) (t : Nat) (x y : Int32) (off : Int), decode m.2.1 pc = .ok (.if_icmp .le off, 3) → (pc : Int) + off = (t : Int) → pc + 3 = n → (x ≤ y → P Sh m (t) ls st M Q) → (¬ x ≤ y → P Sh m (n) ls st M Q) → P Sh m pc ls (.int y :: .int x :: st) M Q
def Rl_goto (P : PT) : Prop := ∀ (Sh : Shp) (m : MI) (pc t : Nat) (ls st : List Value) (M : Mm) (Q : Pst) (off : Int), decode m.2.1 pc = .ok (.goto off, 3) → (pc : Int) + off = (t : Int) → (P Sh m (t) ls st M Q) → P Sh m pc ls st M Q
def Rl_tabOut (P : PT) : Prop := ∀ (Sh : Shp) (m : MI) (pc t : Nat) (ls st : List Value) (M : Mm) (Q : Pst) (df lo hi : Int) (offs : Array Int) (len : Nat) (x : Int32), decode m.2.1 pc = .ok (.tableswitch df lo hi offs, len) → x.toInt < lo ∨ hi < x.toInt → (pc : Int) + df = (t : Int) → (P Sh m (t) ls st M Q) → P Sh m pc ls (.int x :: st) M Q
def Rl_tabIn (P : PT) : Prop := ∀ (Sh : Shp) (m : MI) (pc t : Nat) (ls st : List Value) (M : Mm) (Q : Pst) (df lo hi : Int) (offs : Array Int) (len : Nat) (x : Int32) (off : Int), decode m.2.1 pc = .ok (.tableswitch df lo hi offs, len) → ¬ x.toInt < lo → ¬ hi < x.toInt → offs[(x.toInt - lo).toNat]? = some off → (pc : Int) + off = (t : Int) → (P Sh m (t) ls st M Q) → P Sh m pc ls (.int x :: st) M Q
def Rl_getI (P : PT) : Prop := ∀ (Sh : Shp) (m : MI) (pc n : Nat) (ls st : List Value) (M : Mm) (Q : Pst) (i k j : Nat) (q : Nat × List (Option Nat)), decode m.2.1 pc = .ok (.getfield i, 3) → Sh[k]? = some (.inr q) → ab_FL m.1.cls i q.1 j → q.2[j]? = some none → pc + 3 = n → (P Sh m (n) ls (.int (M k j) :: st) M Q) → P Sh m pc ls (.ref k :: st) M Q
def Rl_getR (P : PT) : Prop := ∀ (Sh : Shp) (m : MI) (pc n : Nat) (ls st : List Value) (M : Mm) (Q : Pst) (i k j r : Nat) (q : Nat × List (Option Nat)), decode m.2.1 pc = .ok (.getfield i, 3) → Sh[k]? = some (.inr q) → ab_FL m.1.cls i q.1 j → q.2[j]? = some (some r) → pc + 3 = n → (P Sh m (n) ls (.ref r :: st) M Q) → P Sh m pc ls (.ref k :: st) M Q
def Rl_putI (P : PT) : Prop := ∀ (Sh : Shp) (m : MI) (pc n : Nat) (ls st : List Value) (M : Mm) (Q : Pst) (i k j : Nat) (q : Nat × List (Option Nat)) (x : Int32), decode m.2.1 pc = .ok (.putfield i, 3) → Sh[k]? = some (.inr q) → ab_FL m.1.cls i q.1 j → ab_FI q.1 j → q.2[j]? = some none → pc + 3 = n → (P Sh m (n) ls st (mst M k j x) Q) → P Sh m pc ls (.int x :: .ref k :: st) M Q
def Rl_iald (P : PT) : Prop := ∀ (Sh : Shp) (m : MI) (pc n : Nat) (ls st : List Value) (M : Mm) (Q : Pst) (k N : Nat) (i : Int32), decode m.2.1 pc = .ok (.iaload, 1) → Sh[k]? = some (.inl N) → vp_in i N → pc + 1 = n → (P Sh m (n) ls (.int (M k i.toNatClampNeg) :: st) M Q) → P Sh m pc ls (.int i :: .ref k :: st) M Q
def Rl_alen (P : PT) : Prop := ∀ (Sh : Shp) (m : MI) (pc n : Nat) (ls st : List Value) (M : Mm) (Q : Pst) (k N : Nat), decode m.2.1 pc = .ok (.arraylength, 1) → Sh[k]? = some (.inl N) → pc + 1 = n → (P Sh m (n) ls (.int (nI N) :: st) M Q) → P Sh m pc ls (.ref k :: st) M Q
def Rl_iast (P : PT) : Prop := ∀ (Sh : Shp) (m : MI) (pc n : Nat) (ls st : List Value) (M : Mm) (Q : Pst) (k N : Nat) (i x : Int32), decode m.2.1 pc = .ok (.iastore, 1) → Sh[k]? = some (.inl N) → vp_in i N → pc + 1 = n → (P Sh m (n) ls st (mst M k i.toNatClampNeg x) Q) → P Sh m pc ls (.int x :: .int i :: .ref k :: st) M Q
def Rl_iret (P : PT) : Prop := ∀ (Sh : Shp) (m : MI) (pc : Nat) (ls : List Value) (M : Mm) (Q : Pst) (v : Int32), decode m.2.1 pc = .ok (.ireturn, 1) → m.2.2.2.1 = some .int → Q (some (.int v)) M → P Sh m pc ls [.int v] M Q
def Rl_zret (P : PT) : Prop := ∀ (Sh : Shp) (m : MI) (pc : Nat) (ls : List Value) (M : Mm) (Q : Pst) (v : Int32), decode m.2.1 pc = .ok (.ireturn, 1) → m.2.2.2.1 = some .boolean → v = 0 ∨ v = 1 → Q (some (.int v)) M → P Sh m pc ls [.int v] M Q
def Rl_lret (P : PT) : Prop := ∀ (Sh : Shp) (m : MI) (pc : Nat) (ls : List Value) (M : Mm) (Q : Pst) (v : Int64), decode m.2.1 pc = .ok (.lreturn, 1) → m.2.2.2.1 = some .long → Q (some (.long v)) M → P Sh m pc ls [.long v] M Q
def Rl_vret (P : PT) : Prop := ∀ (Sh : Shp) (m : MI) (pc : Nat) (ls : List Value) (M : Mm) (Q : Pst), decode m.2.1 pc = .ok (.return_, 1) → m.2.2.2.1 = none → Q none M → P Sh m pc ls [] M Q
def Rl_callV (P : PT) : Prop := ∀ (Sh : Shp) (m m2 : MI) (pc n : Nat) (ls st as rest : List Value) (M : Mm) (Q Q2 : Pst) (i np : Nat) (k : Nat), decode m.2.1 pc = .ok (.invokevirtual i, 3) → ab_ML m.1.cls i m2 → ab_MO m2 np → ab_RM m m2 = true → ab_IM m2 → ab_obj Sh k m2.1.cls → st = as.reverse ++ .ref k :: rest → as.length = np → (ab_ent0 (.ref k :: as)).length ≤ m2.2.2.1 → (rest.map fun v => v.category).sum ≤ 8 → pc + 3 = n → (P Sh m2 0 (ab_ent m2.2.2.1 (.ref k :: as)) [] M Q2) → (∀ (r : Option Value) (M2 : Mm), Q2 r M2 → P Sh m n ls (r.toList ++ rest) M2 Q) → P Sh m pc ls st M Q
def Rl_callS (P : PT) : Prop := ∀ (Sh : Shp) (m m2 : MI) (pc n : Nat) (ls st as rest : List Value) (M : Mm) (Q Q2 : Pst) (i np : Nat), decode m.2.1 pc = .ok (.invokestatic i, 3) → ab_ML m.1.cls i m2 → ab_MO m2 np → ab_RM m m2 = true → ab_SM m2 → st = as.reverse ++ rest → as.length = np → (ab_ent0 as).length ≤ m2.2.2.1 → (rest.map fun v => v.category).sum ≤ 8 → pc + 3 = n → (P Sh m2 0 (ab_ent m2.2.2.1 as) [] M Q2) → (∀ (r : Option Value) (M2 : Mm), Q2 r M2 → P Sh m n ls (r.toList ++ rest) M2 Q) → P Sh m pc ls st M Q
def Rl_imax (P : PT) : Prop := ∀ (Sh : Shp) (m : MI) (pc n : Nat) (ls st : List Value) (M : Mm) (Q : Pst) (i : Nat) (x y : Int32), decode m.2.1 pc = .ok (.invokestatic i, 3) → Cond.methodLink m.1.cls i Lib.Math.max.name ∈ wAll → Cond.static Lib.Math.max.name ∈ wAll → Cond.initialized "java/lang/Math" ∈ wAll → Cond.code Lib.Math.max.name Lib.Math.max.code 2 (some .int) ∈ wAll → 1 ≤ m.2.2.2.2.1 → (st.map fun v => v.category).sum + 13 ≤ m.2.2.2.2.2 → pc + 3 = n → (P Sh m (n) ls (.int (if x < y then y else x) :: st) M Q) → P Sh m pc ls (.int y :: .int x :: st) M Q
def Rl_imin (P : PT) : Prop := ∀ (Sh : Shp) (m : MI) (pc n : Nat) (ls st : List Value) (M : Mm) (Q : Pst) (i : Nat) (x y : Int32), decode m.2.1 pc = .ok (.invokestatic i, 3) → Cond.methodLink m.1.cls i Lib.Math.min.name ∈ wAll → Cond.static Lib.Math.min.name ∈ wAll → Cond.initialized "java/lang/Math" ∈ wAll → Cond.code Lib.Math.min.name Lib.Math.min.code 2 (some .int) ∈ wAll → 1 ≤ m.2.2.2.2.1 → (st.map fun v => v.category).sum + 13 ≤ m.2.2.2.2.2 → pc + 3 = n → (P Sh m (n) ls (.int (if y < x then y else x) :: st) M Q) → P Sh m pc ls (.int y :: .int x :: st) M Q
def Rls (P : PT) : Prop := Rl_iadd P ∧ Rl_isub P ∧ Rl_imul P ∧ Rl_iand P ∧ Rl_ior P ∧ Rl_ixor P ∧ Rl_ishl P ∧ Rl_ishr P ∧ Rl_iushr P ∧ Rl_idiv P ∧ Rl_irem P ∧ Rl_ladd P ∧ Rl_lmul P ∧ Rl_ldiv P ∧ Rl_lcmp P ∧ Rl_i2l P ∧ Rl_l2i P ∧ Rl_dup P ∧ Rl_pop P ∧ Rl_dup2 P ∧ Rl_iconst P ∧ Rl_bipush P ∧ Rl_sipush P ∧ Rl_lconst P ∧ Rl_ldc P ∧ Rl_ldcw P ∧ Rl_ldc2 P ∧ Rl_iload_n P ∧ Rl_iload P ∧ Rl_lload_n P ∧ Rl_lload P ∧ Rl_aload_n P ∧ Rl_istore_n P ∧ Rl_istore P ∧ Rl_lstore_n P ∧ Rl_lstore P ∧ Rl_iinc P ∧ Rl_if_eq P ∧ Rl_if_ne P ∧ Rl_if_lt P ∧ Rl_if_ge P ∧ Rl_if_gt P ∧ Rl_if_le P ∧ Rl_icmp_eq P ∧ Rl_icmp_ne P ∧ Rl_icmp_lt P ∧ Rl_icmp_ge P ∧ Rl_icmp_gt P ∧ Rl_icmp_le P ∧ Rl_goto P ∧ Rl_tabOut P ∧ Rl_tabIn P ∧ Rl_getI P ∧ Rl_getR P ∧ Rl_putI P ∧ Rl_iald P ∧ Rl_alen P ∧ Rl_iast P ∧ Rl_iret P ∧ Rl_zret P ∧ Rl_lret P ∧ Rl_vret P ∧ Rl_callV P ∧ Rl_callS P ∧ Rl_imax P ∧ Rl_imin P
def Ev : PT := fun Sh m pc ls st M Q => ∀ P : PT, Rls P → P Sh m pc ls st M Q
theorem ev_iadd {Sh : Shp} {m : MI} {pc : Nat} {ls st : List Value} {M : Mm} {Q : Pst} {x y : Int32} (n : Nat) (hd : decode m.2.1 pc = .ok (.iadd, 1)) (hn : pc + 1 = n) (k : Ev Sh m (n) ls (.int (x + y) :: st) M Q) : Ev Sh m pc ls (.int y :: .int x :: st) M Q := fun P h => h.1 Sh m pc n ls st M Q x y hd hn (k P h)
theorem ev_isub {Sh : Shp} {m : MI} {pc : Nat} {ls st : List Value} {M : Mm} {Q : Pst} {x y : Int32} (n : Nat) (hd : decode m.2.1 pc = .ok (.isub, 1)) (hn : pc + 1 = n) (k : Ev Sh m (n) ls (.int (x - y) :: st) M Q) : Ev Sh m pc ls (.int y :: .int x :: st) M Q := fun P h => h.2.1 Sh m pc n ls st M Q x y hd hn (k P h)
theorem ev_imul {Sh : Shp} {m : MI} {pc : Nat} {ls st : List Value} {M : Mm} {Q : Pst} {x y : Int32} (n : Nat) (hd : decode m.2.1 pc = .ok (.imul, 1)) (hn : pc + 1 = n) (k : Ev Sh m (n) ls (.int (x * y) :: st) M Q) : Ev Sh m pc ls (.int y :: .int x :: st) M Q := fun P h => h.2.2.1 Sh m pc n ls st M Q x y hd hn (k P h)
theorem ev_iand {Sh : Shp} {m : MI} {pc : Nat} {ls st : List Value} {M : Mm} {Q : Pst} {x y : Int32} (n : Nat) (hd : decode m.2.1 pc = .ok (.iand, 1)) (hn : pc + 1 = n) (k : Ev Sh m (n) ls (.int (x &&& y) :: st) M Q) : Ev Sh m pc ls (.int y :: .int x :: st) M Q := fun P h => h.2.2.2.1 Sh m pc n ls st M Q x y hd hn (k P h)
theorem ev_ior {Sh : Shp} {m : MI} {pc : Nat} {ls st : List Value} {M : Mm} {Q : Pst} {x y : Int32} (n : Nat) (hd : decode m.2.1 pc = .ok (.ior, 1)) (hn : pc + 1 = n) (k : Ev Sh m (n) ls (.int (x ||| y) :: st) M Q) : Ev Sh m pc ls (.int y :: .int x :: st) M Q := fun P h => h.2.2.2.2.1 Sh m pc n ls st M Q x y hd hn (k P h)
theorem ev_ixor {Sh : Shp} {m : MI} {pc : Nat} {ls st : List Value} {M : Mm} {Q : Pst} {x y : Int32} (n : Nat) (hd : decode m.2.1 pc = .ok (.ixor, 1)) (hn : pc + 1 = n) (k : Ev Sh m (n) ls (.int (x ^^^ y) :: st) M Q) : Ev Sh m pc ls (.int y :: .int x :: st) M Q := fun P h => h.2.2.2.2.2.1 Sh m pc n ls st M Q x y hd hn (k P h)
theorem ev_ishl {Sh : Shp} {m : MI} {pc : Nat} {ls st : List Value} {M : Mm} {Q : Pst} {x y : Int32} (n : Nat) (hd : decode m.2.1 pc = .ok (.ishl, 1)) (hn : pc + 1 = n) (k : Ev Sh m (n) ls (.int (x <<< (y &&& 31)) :: st) M Q) : Ev Sh m pc ls (.int y :: .int x :: st) M Q := fun P h => h.2.2.2.2.2.2.1 Sh m pc n ls st M Q x y hd hn (k P h)
theorem ev_ishr {Sh : Shp} {m : MI} {pc : Nat} {ls st : List Value} {M : Mm} {Q : Pst} {x y : Int32} (n : Nat) (hd : decode m.2.1 pc = .ok (.ishr, 1)) (hn : pc + 1 = n) (k : Ev Sh m (n) ls (.int (x >>> (y &&& 31)) :: st) M Q) : Ev Sh m pc ls (.int y :: .int x :: st) M Q := fun P h => h.2.2.2.2.2.2.2.1 Sh m pc n ls st M Q x y hd hn (k P h)
theorem ev_iushr {Sh : Shp} {m : MI} {pc : Nat} {ls st : List Value} {M : Mm} {Q : Pst} {x y : Int32} (n : Nat) (hd : decode m.2.1 pc = .ok (.iushr, 1)) (hn : pc + 1 = n) (k : Ev Sh m (n) ls (.int ((x.toUInt32 >>> (y.toUInt32 &&& Int32.toUInt32 31)).toInt32) :: st) M Q) : Ev Sh m pc ls (.int y :: .int x :: st) M Q := fun P h => h.2.2.2.2.2.2.2.2.1 Sh m pc n ls st M Q x y hd hn (k P h)
theorem ev_idiv {Sh : Shp} {m : MI} {pc : Nat} {ls st : List Value} {M : Mm} {Q : Pst} {x y : Int32} (n : Nat) (hd : decode m.2.1 pc = .ok (.idiv, 1)) (hz : ¬ y = 0) (hn : pc + 1 = n) (k : Ev Sh m (n) ls (.int (x / y) :: st) M Q) : Ev Sh m pc ls (.int y :: .int x :: st) M Q := fun P h => h.2.2.2.2.2.2.2.2.2.1 Sh m pc n ls st M Q x y hd hz hn (k P h)
theorem ev_irem {Sh : Shp} {m : MI} {pc : Nat} {ls st : List Value} {M : Mm} {Q : Pst} {x y : Int32} (n : Nat) (hd : decode m.2.1 pc = .ok (.irem, 1)) (hz : ¬ y = 0) (hn : pc + 1 = n) (k : Ev Sh m (n) ls (.int (x - x / y * y) :: st) M Q) : Ev Sh m pc ls (.int y :: .int x :: st) M Q := fun P h => h.2.2.2.2.2.2.2.2.2.2.1 Sh m pc n ls st M Q x y hd hz hn (k P h)
theorem ev_ladd {Sh : Shp} {m : MI} {pc : Nat} {ls st : List Value} {M : Mm} {Q : Pst} {x y : Int64} (n : Nat) (hd : decode m.2.1 pc = .ok (.ladd, 1)) (hn : pc + 1 = n) (k : Ev Sh m (n) ls (.long (x + y) :: st) M Q) : Ev Sh m pc ls (.long y :: .long x :: st) M Q := fun P h => h.2.2.2.2.2.2.2.2.2.2.2.1 Sh m pc n ls st M Q x y hd hn (k P h)
theorem ev_lmul {Sh : Shp} {m : MI} {pc : Nat} {ls st : List Value} {M : Mm} {Q : Pst} {x y : Int64} (n : Nat) (hd : decode m.2.1 pc = .ok (.lmul, 1)) (hn : pc + 1 = n) (k : Ev Sh m (n) ls (.long (x * y) :: st) M Q) : Ev Sh m pc ls (.long y :: .long x :: st) M Q := fun P h => h.2.2.2.2.2.2.2.2.2.2.2.2.1 Sh m pc n ls st M Q x y hd hn (k P h)
theorem ev_ldiv {Sh : Shp} {m : MI} {pc : Nat} {ls st : List Value} {M : Mm} {Q : Pst} {x y : Int64} (n : Nat) (hd : decode m.2.1 pc = .ok (.ldiv, 1)) (hz : ¬ y = 0) (hn : pc + 1 = n) (k : Ev Sh m (n) ls (.long (x / y) :: st) M Q) : Ev Sh m pc ls (.long y :: .long x :: st) M Q := fun P h => h.2.2.2.2.2.2.2.2.2.2.2.2.2.1 Sh m pc n ls st M Q x y hd hz hn (k P h)
theorem ev_lcmp {Sh : Shp} {m : MI} {pc : Nat} {ls st : List Value} {M : Mm} {Q : Pst} {x y : Int64} (n : Nat) (hd : decode m.2.1 pc = .ok (.lcmp, 1)) (hn : pc + 1 = n) (k : Ev Sh m (n) ls (.int (lg_cmp x y) :: st) M Q) : Ev Sh m pc ls (.long y :: .long x :: st) M Q := fun P h => h.2.2.2.2.2.2.2.2.2.2.2.2.2.2.1 Sh m pc n ls st M Q x y hd hn (k P h)
theorem ev_i2l {Sh : Shp} {m : MI} {pc : Nat} {ls st : List Value} {M : Mm} {Q : Pst} {x : Int32} (n : Nat) (hd : decode m.2.1 pc = .ok (.i2l, 1)) (hn : pc + 1 = n) (k : Ev Sh m (n) ls (.long x.toInt64 :: st) M Q) : Ev Sh m pc ls (.int x :: st) M Q := fun P h => h.2.2.2.2.2.2.2.2.2.2.2.2.2.2.2.1 Sh m pc n ls st M Q x hd hn (k P h)
theorem ev_l2i {Sh : Shp} {m : MI} {pc : Nat} {ls st : List Value} {M : Mm} {Q : Pst} {x : Int64} (n : Nat) (hd : decode m.2.1 pc = .ok (.l2i, 1)) (hn : pc + 1 = n) (k : Ev Sh m (n) ls (.int x.toInt32 :: st) M Q) : Ev Sh m pc ls (.long x :: st) M Q := fun P h => h.2.2.2.2.2.2.2.2.2.2.2.2.2.2.2.2.1 Sh m pc n ls st M Q x hd hn (k P h)
theorem ev_dup {Sh : Shp} {m : MI} {pc : Nat} {ls st : List Value} {M : Mm} {Q : Pst} {v : Value} (n : Nat) (hd : decode m.2.1 pc = .ok (.dup, 1)) (hc : v.category = 1) (hn : pc + 1 = n) (k : Ev Sh m (n) ls (v :: v :: st) M Q) : Ev Sh m pc ls (v :: st) M Q := fun P h => h.2.2.2.2.2.2.2.2.2.2.2.2.2.2.2.2.2.1 Sh m pc n ls st M Q v hd hc hn (k P h)
theorem ev_pop {Sh : Shp} {m : MI} {pc : Nat} {ls st : List Value} {M : Mm} {Q : Pst} {v : Value} (n : Nat) (hd : decode m.2.1 pc = .ok (.pop, 1)) (hc : v.category = 1) (hn : pc + 1 = n) (k : Ev Sh m (n) ls st M Q) : Ev Sh m pc ls (v :: st) M Q := fun P h => h.2.2.2.2.2.2.2.2.2.2.2.2.2.2.2.2.2.2.1 Sh m pc n ls st M Q v hd hc hn (k P h)
theorem ev_dup2 {Sh : Shp} {m : MI} {pc : Nat} {ls st : List Value} {M : Mm} {Q : Pst} {v u : Value} (n : Nat) (hd : decode m.2.1 pc = .ok (.dup2, 1)) (hc : v.category = 1) (hc2 : u.category = 1) (hn : pc + 1 = n) (k : Ev Sh m (n) ls (v :: u :: v :: u :: st) M Q) : Ev Sh m pc ls (v :: u :: st) M Q := fun P h => h.2.2.2.2.2.2.2.2.2.2.2.2.2.2.2.2.2.2.2.1 Sh m pc n ls st M Q v u hd hc hc2 hn (k P h)
theorem ev_iconst {Sh : Shp} {m : MI} {pc : Nat} {ls st : List Value} {M : Mm} {Q : Pst} {z : Int}  (n : Nat) (v : Int32) (hd : decode m.2.1 pc = .ok (.iconst z, 1)) (hv : Int32.ofInt z = v) (hn : pc + 1 = n) (k : Ev Sh m (n) ls (.int v :: st) M Q) : Ev Sh m pc ls st M Q := fun P h => h.2.2.2.2.2.2.2.2.2.2.2.2.2.2.2.2.2.2.2.2.1 Sh m pc n ls st M Q z v hd hv hn (k P h)
theorem ev_bipush {Sh : Shp} {m : MI} {pc : Nat} {ls st : List Value} {M : Mm} {Q : Pst} {z : Int}  (n : Nat) (v : Int32) (hd : decode m.2.1 pc = .ok (.bipush z, 2)) (hv : (Int8.ofInt z).toInt32 = v) (hn : pc + 2 = n) (k : Ev Sh m (n) ls (.int v :: st) M Q) : Ev Sh m pc ls st M Q := fun P h => h.2.2.2.2.2.2.2.2.2.2.2.2.2.2.2.2.2.2.2.2.2.1 Sh m pc n ls st M Q z v hd hv hn (k P h)
theorem ev_sipush {Sh : Shp} {m : MI} {pc : Nat} {ls st : List Value} {M : Mm} {Q : Pst} {z : Int}  (n : Nat) (v : Int32) (hd : decode m.2.1 pc = .ok (.sipush z, 3)) (hv : (Int16.ofInt z).toInt32 = v) (hn : pc + 3 = n) (k : Ev Sh m (n) ls (.int v :: st) M Q) : Ev Sh m pc ls st M Q := fun P h => h.2.2.2.2.2.2.2.2.2.2.2.2.2.2.2.2.2.2.2.2.2.2.1 Sh m pc n ls st M Q z v hd hv hn (k P h)
theorem ev_lconst {Sh : Shp} {m : MI} {pc : Nat} {ls st : List Value} {M : Mm} {Q : Pst} {z : Fin 2}  (n : Nat) (v : Int64) (hd : decode m.2.1 pc = .ok (.lconst z, 1)) (hv : Int64.ofNat (z : Nat) = v) (hn : pc + 1 = n) (k : Ev Sh m (n) ls (.long v :: st) M Q) : Ev Sh m pc ls st M Q := fun P h => h.2.2.2.2.2.2.2.2.2.2.2.2.2.2.2.2.2.2.2.2.2.2.2.1 Sh m pc n ls st M Q z v hd hv hn (k P h)
theorem ev_ldc {Sh : Shp} {m : MI} {pc : Nat} {ls st : List Value} {M : Mm} {Q : Pst} {i : Nat}  (n : Nat) (v : Int32) (hd : decode m.2.1 pc = .ok (.ldc i, 2)) (hv : Cond.constant m.1.cls i v ∈ wAll) (hn : pc + 2 = n) (k : Ev Sh m (n) ls (.int v :: st) M Q) : Ev Sh m pc ls st M Q := fun P h => h.2.2.2.2.2.2.2.2.2.2.2.2.2.2.2.2.2.2.2.2.2.2.2.2.1 Sh m pc n ls st M Q i v hd hv hn (k P h)
theorem ev_ldcw {Sh : Shp} {m : MI} {pc : Nat} {ls st : List Value} {M : Mm} {Q : Pst} {i : Nat}  (n : Nat) (v : Int32) (hd : decode m.2.1 pc = .ok (.ldc_w i, 3)) (hv : Cond.constant m.1.cls i v ∈ wAll) (hn : pc + 3 = n) (k : Ev Sh m (n) ls (.int v :: st) M Q) : Ev Sh m pc ls st M Q := fun P h => h.2.2.2.2.2.2.2.2.2.2.2.2.2.2.2.2.2.2.2.2.2.2.2.2.2.1 Sh m pc n ls st M Q i v hd hv hn (k P h)
theorem ev_ldc2 {Sh : Shp} {m : MI} {pc : Nat} {ls st : List Value} {M : Mm} {Q : Pst} {i : Nat}  (n : Nat) (v : Int64) (hd : decode m.2.1 pc = .ok (.ldc2_w i, 3)) (hv : Cond.constantLong m.1.cls i v ∈ wAll) (hn : pc + 3 = n) (k : Ev Sh m (n) ls (.long v :: st) M Q) : Ev Sh m pc ls st M Q := fun P h => h.2.2.2.2.2.2.2.2.2.2.2.2.2.2.2.2.2.2.2.2.2.2.2.2.2.2.1 Sh m pc n ls st M Q i v hd hv hn (k P h)
theorem ev_iload_n {Sh : Shp} {m : MI} {pc : Nat} {ls st : List Value} {M : Mm} {Q : Pst} {z : Fin 4} {x : Int32} (n : Nat) (hd : decode m.2.1 pc = .ok (.iload_n z, 1)) (hv : ls[(z : Nat)]? = some (.int x)) (hn : pc + 1 = n) (k : Ev Sh m (n) ls (.int x :: st) M Q) : Ev Sh m pc ls st M Q := fun P h => h.2.2.2.2.2.2.2.2.2.2.2.2.2.2.2.2.2.2.2.2.2.2.2.2.2.2.2.1 Sh m pc n ls st M Q z x hd hv hn (k P h)
theorem ev_iload {Sh : Shp} {m : MI} {pc : Nat} {ls st : List Value} {M : Mm} {Q : Pst} {z : Nat} {x : Int32} (n : Nat) (hd : decode m.2.1 pc = .ok (.iload z, 2)) (hv : ls[z]? = some (.int x)) (hn : pc + 2 = n) (k : Ev Sh m (n) ls (.int x :: st) M Q) : Ev Sh m pc ls st M Q := fun P h => h.2.2.2.2.2.2.2.2.2.2.2.2.2.2.2.2.2.2.2.2.2.2.2.2.2.2.2.2.1 Sh m pc n ls st M Q z x hd hv hn (k P h)
theorem ev_lload_n {Sh : Shp} {m : MI} {pc : Nat} {ls st : List Value} {M : Mm} {Q : Pst} {z : Fin 4} {x : Int64} (n : Nat) (hd : decode m.2.1 pc = .ok (.lload_n z, 1)) (hv : ls[(z : Nat)]? = some (.long x)) (hn : pc + 1 = n) (k : Ev Sh m (n) ls (.long x :: st) M Q) : Ev Sh m pc ls st M Q := fun P h => h.2.2.2.2.2.2.2.2.2.2.2.2.2.2.2.2.2.2.2.2.2.2.2.2.2.2.2.2.2.1 Sh m pc n ls st M Q z x hd hv hn (k P h)
theorem ev_lload {Sh : Shp} {m : MI} {pc : Nat} {ls st : List Value} {M : Mm} {Q : Pst} {z : Nat} {x : Int64} (n : Nat) (hd : decode m.2.1 pc = .ok (.lload z, 2)) (hv : ls[z]? = some (.long x)) (hn : pc + 2 = n) (k : Ev Sh m (n) ls (.long x :: st) M Q) : Ev Sh m pc ls st M Q := fun P h => h.2.2.2.2.2.2.2.2.2.2.2.2.2.2.2.2.2.2.2.2.2.2.2.2.2.2.2.2.2.2.1 Sh m pc n ls st M Q z x hd hv hn (k P h)
theorem ev_aload_n {Sh : Shp} {m : MI} {pc : Nat} {ls st : List Value} {M : Mm} {Q : Pst} {z : Fin 4} {x : Nat} (n : Nat) (hd : decode m.2.1 pc = .ok (.aload_n z, 1)) (hv : ls[(z : Nat)]? = some (.ref x)) (hn : pc + 1 = n) (k : Ev Sh m (n) ls (.ref x :: st) M Q) : Ev Sh m pc ls st M Q := fun P h => h.2.2.2.2.2.2.2.2.2.2.2.2.2.2.2.2.2.2.2.2.2.2.2.2.2.2.2.2.2.2.2.1 Sh m pc n ls st M Q z x hd hv hn (k P h)
theorem ev_istore_n {Sh : Shp} {m : MI} {pc : Nat} {ls st : List Value} {M : Mm} {Q : Pst}  {z : Fin 4} {x : Int32} (n : Nat) (ls2 : List Value) (hd : decode m.2.1 pc = .ok (.istore_n z, 1)) (hi : (z : Nat) < m.2.2.1) (ho : ab_ok ls (z : Nat) = true) (hl : (ls.set (z : Nat) (.int x)) = ls2) (hn : pc + 1 = n) (k : Ev Sh m (n) ls2 st M Q) : Ev Sh m pc ls ((.int x) :: st) M Q := fun P h => h.2.2.2.2.2.2.2.2.2.2.2.2.2.2.2.2.2.2.2.2.2.2.2.2.2.2.2.2.2.2.2.2.1 Sh m pc n ls st M Q ls2 z x hd hi ho hl hn (k P h)
theorem ev_istore {Sh : Shp} {m : MI} {pc : Nat} {ls st : List Value} {M : Mm} {Q : Pst}  {z : Nat} {x : Int32} (n : Nat) (ls2 : List Value) (hd : decode m.2.1 pc = .ok (.istore z, 2)) (hi : z < m.2.2.1) (ho : ab_ok ls z = true) (hl : (ls.set z (.int x)) = ls2) (hn : pc + 2 = n) (k : Ev Sh m (n) ls2 st M Q) : Ev Sh m pc ls ((.int x) :: st) M Q := fun P h => h.2.2.2.2.2.2.2.2.2.2.2.2.2.2.2.2.2.2.2.2.2.2.2.2.2.2.2.2.2.2.2.2.2.1 Sh m pc n ls st M Q ls2 z x hd hi ho hl hn (k P h)
theorem ev_lstore_n {Sh : Shp} {m : MI} {pc : Nat} {ls st : List Value} {M : Mm} {Q : Pst}  {z : Fin 4} {x : Int64} (n : Nat) (ls2 : List Value) (hd : decode m.2.1 pc = .ok (.lstore_n z, 1)) (hi : (z : Nat) + 1 < m.2.2.1) (ho : ab_ok ls (z : Nat) = true) (hl : ((ls.set (z : Nat) (.long x)).set ((z : Nat) + 1) .null) = ls2) (hn : pc + 1 = n) (k : Ev Sh m (n) ls2 st M Q) : Ev Sh m pc ls ((.long x) :: st) M Q := fun P h => h.2.2.2.2.2.2.2.2.2.2.2.2.2.2.2.2.2.2.2.2.2.2.2.2.2.2.2.2.2.2.2.2.2.2.1 Sh m pc n ls st M Q ls2 z x hd hi ho hl hn (k P h)
theorem ev_lstore {Sh : Shp} {m : MI} {pc : Nat} {ls st : List Value} {M : Mm} {Q : Pst}  {z : Nat} {x : Int64} (n : Nat) (ls2 : List Value) (hd : decode m.2.1 pc = .ok (.lstore z, 2)) (hi : z + 1 < m.2.2.1) (ho : ab_ok ls z = true) (hl : ((ls.set z (.long x)).set (z + 1) .null) = ls2) (hn : pc + 2 = n) (k : Ev Sh m (n) ls2 st M Q) : Ev Sh m pc ls ((.long x) :: st) M Q := fun P h => h.2.2.2.2.2.2.2.2.2.2.2.2.2.2.2.2.2.2.2.2.2.2.2.2.2.2.2.2.2.2.2.2.2.2.2.1 Sh m pc n ls st M Q ls2 z x hd hi ho hl hn (k P h)
theorem ev_iinc {Sh : Shp} {m : MI} {pc : Nat} {ls st : List Value} {M : Mm} {Q : Pst}  {z : Nat} {d : Int} {x : Int32} (n : Nat) (ls2 : List Value) (v : Int32) (hd : decode m.2.1 pc = .ok (.iinc z d, 3)) (hx : ls[z]? = some (.int x)) (hv : x + Int32.ofInt d = v) (hi : z < m.2.2.1) (ho : ab_ok ls z = true) (hl : ls.set z (.int v) = ls2) (hn : pc + 3 = n) (k : Ev Sh m (n) ls2 st M Q) : Ev Sh m pc ls st M Q := fun P h => h.2.2.2.2.2.2.2.2.2.2.2.2.2.2.2.2.2.2.2.2.2.2.2.2.2.2.2.2.2.2.2.2.2.2.2.2.1 Sh m pc n ls st M Q ls2 z d x v hd hx hv hi ho hl hn (k P h)
theorem ev_if_eq {Sh : Shp} {m : MI} {pc : Nat} {ls st : List Value} {M : Mm} {Q : Pst}  {x : Int32} {off : Int} (n : Nat) (t : Nat) (hd : decode m.2.1 pc = .ok (.ifCond .eq off, 3)) (ht : (pc : Int) + off = (t : Int)) (hn : pc + 3 = n) (k1 : x = 0 → Ev Sh m (t) ls st M Q) (k2 : ¬ x = 0 → Ev Sh m (n) ls st M Q) : Ev Sh m pc ls (.int x :: st) M Q := fun P h => h.2.2.2.2.2.2.2.2.2.2.2.2.2.2.2.2.2.2.2.2.2.2.2.2.2.2.2.2.2.2.2.2.2.2.2.2.2.1 Sh m pc n ls st M Q t x off hd ht hn (fun q => k1 q P h) (fun q => k2 q P h)
theorem ev_if_ne {Sh : Shp} {m : MI} {pc : Nat} {ls st : List Value} {M : Mm} {Q : Pst}  {x : Int32} {off : Int} (n : Nat) (t : Nat) (hd : decode m.2.1 pc = .ok (.ifCond .ne off, 3)) (ht : (pc : Int) + off = (t : Int)) (hn : pc + 3 = n) (k1 : ¬ x = 0 → Ev Sh m (t) ls st M Q) (k2 : x = 0 → Ev Sh m (n) ls st M Q) : Ev Sh m pc ls (.int x :: st) M Q := fun P h => h.2.2.2.2.2.2.2.2.2.2.2.2.2.2.2.2.2.2.2.2.2.2.2.2.2.2.2.2.2.2.2.2.2.2.2.2.2.2.1 Sh m pc n ls st M Q t x off hd ht hn (fun q => k1 q P h) (fun q => k2 q P h)
theorem ev_if_lt {Sh : Shp} {m : MI} {pc : Nat} {ls st : List Value} {M : Mm} {Q : Pst}  {x : Int32} {off : Int} (n : Nat) (t : Nat) (hd : decode m.2.1 pc = .ok (.ifCond .lt off, 3)) (ht : (pc : Int) + off = (t : Int)) (hn : pc + 3 = n) (k1 : x < 0 → Ev Sh m (t) ls st M Q) (k2 : ¬ x < 0 → Ev Sh m (n) ls st M Q) : Ev Sh m pc ls (.int x :: st) M Q := fun P h => h.2.2.2.2.2.2.2.2.2.2.2.2.2.2.2.2.2.2.2.2.2.2.2.2.2.2.2.2.2.2.2.2.2.2.2.2.2.2.2.1 Sh m pc n ls st M Q t x off hd ht hn (fun q => k1 q P h) (fun q => k2 q P h)
theorem ev_if_ge {Sh : Shp} {m : MI} {pc : Nat} {ls st : List Value} {M : Mm} {Q : Pst}  {x : Int32} {off : Int} (n : Nat) (t : Nat) (hd : decode m.2.1 pc = .ok (.ifCond .ge off, 3)) (ht : (pc : Int) + off = (t : Int)) (hn : pc + 3 = n) (k1 : 0 ≤ x → Ev Sh m (t) ls st M Q) (k2 : ¬ 0 ≤ x → Ev Sh m (n) ls st M Q) : Ev Sh m pc ls (.int x :: st) M Q := fun P h => h.2.2.2.2.2.2.2.2.2.2.2.2.2.2.2.2.2.2.2.2.2.2.2.2.2.2.2.2.2.2.2.2.2.2.2.2.2.2.2.2.1 Sh m pc n ls st M Q t x off hd ht hn (fun q => k1 q P h) (fun q => k2 q P h)
theorem ev_if_gt {Sh : Shp} {m : MI} {pc : Nat} {ls st : List Value} {M : Mm} {Q : Pst}  {x : Int32} {off : Int} (n : Nat) (t : Nat) (hd : decode m.2.1 pc = .ok (.ifCond .gt off, 3)) (ht : (pc : Int) + off = (t : Int)) (hn : pc + 3 = n) (k1 : 0 < x → Ev Sh m (t) ls st M Q) (k2 : ¬ 0 < x → Ev Sh m (n) ls st M Q) : Ev Sh m pc ls (.int x :: st) M Q := fun P h => h.2.2.2.2.2.2.2.2.2.2.2.2.2.2.2.2.2.2.2.2.2.2.2.2.2.2.2.2.2.2.2.2.2.2.2.2.2.2.2.2.2.1 Sh m pc n ls st M Q t x off hd ht hn (fun q => k1 q P h) (fun q => k2 q P h)
theorem ev_if_le {Sh : Shp} {m : MI} {pc : Nat} {ls st : List Value} {M : Mm} {Q : Pst}  {x : Int32} {off : Int} (n : Nat) (t : Nat) (hd : decode m.2.1 pc = .ok (.ifCond .le off, 3)) (ht : (pc : Int) + off = (t : Int)) (hn : pc + 3 = n) (k1 : x ≤ 0 → Ev Sh m (t) ls st M Q) (k2 : ¬ x ≤ 0 → Ev Sh m (n) ls st M Q) : Ev Sh m pc ls (.int x :: st) M Q := fun P h => h.2.2.2.2.2.2.2.2.2.2.2.2.2.2.2.2.2.2.2.2.2.2.2.2.2.2.2.2.2.2.2.2.2.2.2.2.2.2.2.2.2.2.1 Sh m pc n ls st M Q t x off hd ht hn (fun q => k1 q P h) (fun q => k2 q P h)
theorem ev_icmp_eq {Sh : Shp} {m : MI} {pc : Nat} {ls st : List Value} {M : Mm} {Q : Pst}  {x y : Int32} {off : Int} (n : Nat) (t : Nat) (hd : decode m.2.1 pc = .ok (.if_icmp .eq off, 3)) (ht : (pc : Int) + off = (t : Int)) (hn : pc + 3 = n) (k1 : x = y → Ev Sh m (t) ls st M Q) (k2 : ¬ x = y → Ev Sh m (n) ls st M Q) : Ev Sh m pc ls (.int y :: .int x :: st) M Q := fun P h => h.2.2.2.2.2.2.2.2.2.2.2.2.2.2.2.2.2.2.2.2.2.2.2.2.2.2.2.2.2.2.2.2.2.2.2.2.2.2.2.2.2.2.2.1 Sh m pc n ls st M Q t x y off hd ht hn (fun q => k1 q P h) (fun q => k2 q P h)
theorem ev_icmp_ne {Sh : Shp} {m : MI} {pc : Nat} {ls st : List Value} {M : Mm} {Q : Pst}  {x y : Int32} {off : Int} (n : Nat) (t : Nat) (hd : decode m.2.1 pc = .ok (.if_icmp .ne off, 3)) (ht : (pc : Int) + off = (t : Int)) (hn : pc + 3 = n) (k1 : ¬ x = y → Ev Sh m (t) ls st M Q) (k2 : x = y → Ev Sh m (n) ls st M Q) : Ev Sh m pc ls (.int y :: .int x :: st) M Q := fun P h => h.2.2.2.2.2.2.2.2.2.2.2.2.2.2.2.2.2.2.2.2.2.2.2.2.2.2.2.2.2.2.2.2.2.2.2.2.2.2.2.2.2.2.2.2.1 Sh m pc n ls st M Q t x y off hd ht hn (fun q => k1 q P h) (fun q => k2 q P h)
theorem ev_icmp_lt {Sh : Shp} {m : MI} {pc : Nat} {ls st : List Value} {M : Mm} {Q : Pst}  {x y : Int32} {off : Int} (n : Nat) (t : Nat) (hd : decode m.2.1 pc = .ok (.if_icmp .lt off, 3)) (ht : (pc : Int) + off = (t : Int)) (hn : pc + 3 = n) (k1 : x < y → Ev Sh m (t) ls st M Q) (k2 : ¬ x < y → Ev Sh m (n) ls st M Q) : Ev Sh m pc ls (.int y :: .int x :: st) M Q := fun P h => h.2.2.2.2.2.2.2.2.2.2.2.2.2.2.2.2.2.2.2.2.2.2.2.2.2.2.2.2.2.2.2.2.2.2.2.2.2.2.2.2.2.2.2.2.2.1 Sh m pc n ls st M Q t x y off hd ht hn (fun q => k1 q P h) (fun q => k2 q P h)
theorem ev_icmp_ge {Sh : Shp} {m : MI} {pc : Nat} {ls st : List Value} {M : Mm} {Q : Pst}  {x y : Int32} {off : Int} (n : Nat) (t : Nat) (hd : decode m.2.1 pc = .ok (.if_icmp .ge off, 3)) (ht : (pc : Int) + off = (t : Int)) (hn : pc + 3 = n) (k1 : y ≤ x → Ev Sh m (t) ls st M Q) (k2 : ¬ y ≤ x → Ev Sh m (n) ls st M Q) : Ev Sh m pc ls (.int y :: .int x :: st) M Q := fun P h => h.2.2.2.2.2.2.2.2.2.2.2.2.2.2.2.2.2.2.2.2.2.2.2.2.2.2.2.2.2.2.2.2.2.2.2.2.2.2.2.2.2.2.2.2.2.2.1 Sh m pc n ls st M Q t x y off hd ht hn (fun q => k1 q P h) (fun q => k2 q P h)
theorem ev_icmp_gt {Sh : Shp} {m : MI} {pc : Nat} {ls st : List Value} {M : Mm} {Q : Pst}  {x y : Int32} {off : Int} (n : Nat) (t : Nat) (hd : decode m.2.1 pc = .ok (.if_icmp .gt off, 3)) (ht : (pc : Int) + off = (t : Int)) (hn : pc + 3 = n) (k1 : y < x → Ev Sh m (t) ls st M Q) (k2 : ¬ y < x → Ev Sh m (n) ls st M Q) : Ev Sh m pc ls (.int y :: .int x :: st) M Q := fun P h => h.2.2.2.2.2.2.2.2.2.2.2.2.2.2.2.2.2.2.2.2.2.2.2.2.2.2.2.2.2.2.2.2.2.2.2.2.2.2.2.2.2.2.2.2.2.2.2.1 Sh m pc n ls st M Q t x y off hd ht hn (fun q => k1 q P h) (fun q => k2 q P h)
theorem ev_icmp_le {Sh : Shp} {m : MI} {pc : Nat} {ls st : List Value} {M : Mm} {Q : Pst}  {x y : Int32} {off : Int} (n : Nat) (t : Nat) (hd : decode m.2.1 pc = .ok (.if_icmp .le off, 3)) (ht : (pc : Int) + off = (t : Int)) (hn : pc + 3 = n) (k1 : x ≤ y → Ev Sh m (t) ls st M Q) (k2 : ¬ x ≤ y → Ev Sh m (n) ls st M Q) : Ev Sh m pc ls (.int y :: .int x :: st) M Q := fun P h => h.2.2.2.2.2.2.2.2.2.2.2.2.2.2.2.2.2.2.2.2.2.2.2.2.2.2.2.2.2.2.2.2.2.2.2.2.2.2.2.2.2.2.2.2.2.2.2.2.1 Sh m pc n ls st M Q t x y off hd ht hn (fun q => k1 q P h) (fun q => k2 q P h)
theorem ev_goto {Sh : Shp} {m : MI} {pc : Nat} {ls st : List Value} {M : Mm} {Q : Pst} {off : Int} (t : Nat) (hd : decode m.2.1 pc = .ok (.goto off, 3)) (ht : (pc : Int) + off = (t : Int)) (k : Ev Sh m (t) ls st M Q) : Ev Sh m pc ls st M Q := fun P h => h.2.2.2.2.2.2.2.2.2.2.2.2.2.2.2.2.2.2.2.2.2.2.2.2.2.2.2.2.2.2.2.2.2.2.2.2.2.2.2.2.2.2.2.2.2.2.2.2.2.1 Sh m pc t ls st M Q off hd ht (k P h)
theorem ev_tabOut {Sh : Shp} {m : MI} {pc : Nat} {ls st : List Value} {M : Mm} {Q : Pst} {df lo hi : Int} {offs : Array Int} {len : Nat} {x : Int32} (t : Nat) (hd : decode m.2.1 pc = .ok (.tableswitch df lo hi offs, len)) (hx : x.toInt < lo ∨ hi < x.toInt) (ht : (pc : Int) + df = (t : Int)) (k : Ev Sh m (t) ls st M Q) : Ev Sh m pc ls (.int x :: st) M Q := fun P h => h.2.2.2.2.2.2.2.2.2.2.2.2.2.2.2.2.2.2.2.2.2.2.2.2.2.2.2.2.2.2.2.2.2.2.2.2.2.2.2.2.2.2.2.2.2.2.2.2.2.2.1 Sh m pc t ls st M Q df lo hi offs len x hd hx ht (k P h)
theorem ev_tabIn {Sh : Shp} {m : MI} {pc : Nat} {ls st : List Value} {M : Mm} {Q : Pst} {df lo hi : Int} {offs : Array Int} {len : Nat} {x : Int32} {off : Int} (t : Nat) (hd : decode m.2.1 pc = .ok (.tableswitch df lo hi offs, len)) (h1 : ¬ x.toInt < lo) (h2 : ¬ hi < x.toInt) (ho : offs[(x.toInt - lo).toNat]? = some off) (ht : (pc : Int) + off = (t : Int)) (k : Ev Sh m (t) ls st M Q) : Ev Sh m pc ls (.int x :: st) M Q := fun P h => h.2.2.2.2.2.2.2.2.2.2.2.2.2.2.2.2.2.2.2.2.2.2.2.2.2.2.2.2.2.2.2.2.2.2.2.2.2.2.2.2.2.2.2.2.2.2.2.2.2.2.2.1 Sh m pc t ls st M Q df lo hi offs len x off hd h1 h2 ho ht (k P h)
theorem ev_getI {Sh : Shp} {m : MI} {pc : Nat} {ls st : List Value} {M : Mm} {Q : Pst} {i k j : Nat} {q : Nat × List (Option Nat)} (n : Nat) (hd : decode m.2.1 pc = .ok (.getfield i, 3)) (hk : Sh[k]? = some (.inr q)) (hf : ab_FL m.1.cls i q.1 j) (hj2 : q.2[j]? = some none) (hn : pc + 3 = n) (kk : Ev Sh m (n) ls (.int (M k j) :: st) M Q) : Ev Sh m pc ls (.ref k :: st) M Q := fun P h => h.2.2.2.2.2.2.2.2.2.2.2.2.2.2.2.2.2.2.2.2.2.2.2.2.2.2.2.2.2.2.2.2.2.2.2.2.2.2.2.2.2.2.2.2.2.2.2.2.2.2.2.2.1 Sh m pc n ls st M Q i k j q hd hk hf hj2 hn (kk P h)
theorem ev_getR {Sh : Shp} {m : MI} {pc : Nat} {ls st : List Value} {M : Mm} {Q : Pst} {i k j r : Nat} {q : Nat × List (Option Nat)} (n : Nat) (hd : decode m.2.1 pc = .ok (.getfield i, 3)) (hk : Sh[k]? = some (.inr q)) (hf : ab_FL m.1.cls i q.1 j) (hj2 : q.2[j]? = some (some r)) (hn : pc + 3 = n) (kk : Ev Sh m (n) ls (.ref r :: st) M Q) : Ev Sh m pc ls (.ref k :: st) M Q := fun P h => h.2.2.2.2.2.2.2.2.2.2.2.2.2.2.2.2.2.2.2.2.2.2.2.2.2.2.2.2.2.2.2.2.2.2.2.2.2.2.2.2.2.2.2.2.2.2.2.2.2.2.2.2.2.1 Sh m pc n ls st M Q i k j r q hd hk hf hj2 hn (kk P h)
theorem ev_putI {Sh : Shp} {m : MI} {pc : Nat} {ls st : List Value} {M : Mm} {Q : Pst} {i k j : Nat} {q : Nat × List (Option Nat)} {x : Int32} (n : Nat) (hd : decode m.2.1 pc = .ok (.putfield i, 3)) (hk : Sh[k]? = some (.inr q)) (hf : ab_FL m.1.cls i q.1 j) (hg : ab_FI q.1 j) (hj2 : q.2[j]? = some none) (hn : pc + 3 = n) (kk : Ev Sh m (n) ls st (mst M k j x) Q) : Ev Sh m pc ls (.int x :: .ref k :: st) M Q := fun P h => h.2.2.2.2.2.2.2.2.2.2.2.2.2.2.2.2.2.2.2.2.2.2.2.2.2.2.2.2.2.2.2.2.2.2.2.2.2.2.2.2.2.2.2.2.2.2.2.2.2.2.2.2.2.2.1 Sh m pc n ls st M Q i k j q x hd hk hf hg hj2 hn (kk P h)
theorem ev_iald {Sh : Shp} {m : MI} {pc : Nat} {ls st : List Value} {M : Mm} {Q : Pst} {k N : Nat} {i : Int32} (n : Nat) (hd : decode m.2.1 pc = .ok (.iaload, 1)) (hk : Sh[k]? = some (.inl N)) (hi : vp_in i N) (hn : pc + 1 = n) (kk : Ev Sh m (n) ls (.int (M k i.toNatClampNeg) :: st) M Q) : Ev Sh m pc ls (.int i :: .ref k :: st) M Q := fun P h => h.2.2.2.2.2.2.2.2.2.2.2.2.2.2.2.2.2.2.2.2.2.2.2.2.2.2.2.2.2.2.2.2.2.2.2.2.2.2.2.2.2.2.2.2.2.2.2.2.2.2.2.2.2.2.2.1 Sh m pc n ls st M Q k N i hd hk hi hn (kk P h)
theorem ev_alen {Sh : Shp} {m : MI} {pc : Nat} {ls st : List Value} {M : Mm} {Q : Pst} {k N : Nat} (n : Nat) (hd : decode m.2.1 pc = .ok (.arraylength, 1)) (hk : Sh[k]? = some (.inl N)) (hn : pc + 1 = n) (kk : Ev Sh m (n) ls (.int (nI N) :: st) M Q) : Ev Sh m pc ls (.ref k :: st) M Q := fun P h => h.2.2.2.2.2.2.2.2.2.2.2.2.2.2.2.2.2.2.2.2.2.2.2.2.2.2.2.2.2.2.2.2.2.2.2.2.2.2.2.2.2.2.2.2.2.2.2.2.2.2.2.2.2.2.2.2.1 Sh m pc n ls st M Q k N hd hk hn (kk P h)
theorem ev_iast {Sh : Shp} {m : MI} {pc : Nat} {ls st : List Value} {M : Mm} {Q : Pst} {k N : Nat} {i x : Int32} (n : Nat) (hd : decode m.2.1 pc = .ok (.iastore, 1)) (hk : Sh[k]? = some (.inl N)) (hi : vp_in i N) (hn : pc + 1 = n) (kk : Ev Sh m (n) ls st (mst M k i.toNatClampNeg x) Q) : Ev Sh m pc ls (.int x :: .int i :: .ref k :: st) M Q := fun P h => h.2.2.2.2.2.2.2.2.2.2.2.2.2.2.2.2.2.2.2.2.2.2.2.2.2.2.2.2.2.2.2.2.2.2.2.2.2.2.2.2.2.2.2.2.2.2.2.2.2.2.2.2.2.2.2.2.2.1 Sh m pc n ls st M Q k N i x hd hk hi hn (kk P h)
theorem ev_iret {Sh : Shp} {m : MI} {pc : Nat} {ls : List Value} {M : Mm} {Q : Pst} {v : Int32}  (hd : decode m.2.1 pc = .ok (.ireturn, 1)) (hr : m.2.2.2.1 = some .int) (hQ : Q (some (.int v)) M) : Ev Sh m pc ls [.int v] M Q := fun P h => h.2.2.2.2.2.2.2.2.2.2.2.2.2.2.2.2.2.2.2.2.2.2.2.2.2.2.2.2.2.2.2.2.2.2.2.2.2.2.2.2.2.2.2.2.2.2.2.2.2.2.2.2.2.2.2.2.2.2.1 Sh m pc ls M Q v hd hr hQ 
theorem ev_zret {Sh : Shp} {m : MI} {pc : Nat} {ls : List Value} {M : Mm} {Q : Pst} {v : Int32}  (hd : decode m.2.1 pc = .ok (.ireturn, 1)) (hr : m.2.2.2.1 = some .boolean) (hz : v = 0 ∨ v = 1) (hQ : Q (some (.int v)) M) : Ev Sh m pc ls [.int v] M Q := fun P h => h.2.2.2.2.2.2.2.2.2.2.2.2.2.2.2.2.2.2.2.2.2.2.2.2.2.2.2.2.2.2.2.2.2.2.2.2.2.2.2.2.2.2.2.2.2.2.2.2.2.2.2.2.2.2.2.2.2.2.2.1 Sh m pc ls M Q v hd hr hz hQ 
theorem ev_lret {Sh : Shp} {m : MI} {pc : Nat} {ls : List Value} {M : Mm} {Q : Pst} {v : Int64}  (hd : decode m.2.1 pc = .ok (.lreturn, 1)) (hr : m.2.2.2.1 = some .long) (hQ : Q (some (.long v)) M) : Ev Sh m pc ls [.long v] M Q := fun P h => h.2.2.2.2.2.2.2.2.2.2.2.2.2.2.2.2.2.2.2.2.2.2.2.2.2.2.2.2.2.2.2.2.2.2.2.2.2.2.2.2.2.2.2.2.2.2.2.2.2.2.2.2.2.2.2.2.2.2.2.2.1 Sh m pc ls M Q v hd hr hQ 
theorem ev_vret {Sh : Shp} {m : MI} {pc : Nat} {ls : List Value} {M : Mm} {Q : Pst}  (hd : decode m.2.1 pc = .ok (.return_, 1)) (hr : m.2.2.2.1 = none) (hQ : Q none M) : Ev Sh m pc ls [] M Q := fun P h => h.2.2.2.2.2.2.2.2.2.2.2.2.2.2.2.2.2.2.2.2.2.2.2.2.2.2.2.2.2.2.2.2.2.2.2.2.2.2.2.2.2.2.2.2.2.2.2.2.2.2.2.2.2.2.2.2.2.2.2.2.2.1 Sh m pc ls M Q hd hr hQ 
theorem ev_callV {Sh : Shp} {m m2 : MI} {pc : Nat} {ls st as rest : List Value} {M : Mm} {Q Q2 : Pst} {i np : Nat} {k : Nat} (n : Nat) (hd : decode m.2.1 pc = .ok (.invokevirtual i, 3)) (hml : ab_ML m.1.cls i m2) (hmo : ab_MO m2 np) (hrm : ab_RM m m2 = true) (him : ab_IM m2) (hob : ab_obj Sh k m2.1.cls) (hst : st = as.reverse ++ .ref k :: rest) (hnp : as.length = np) (hle : (ab_ent0 (.ref k :: as)).length ≤ m2.2.2.1) (hw : (rest.map fun v => v.category).sum ≤ 8) (hn : pc + 3 = n) (k1 : Ev Sh m2 0 (ab_ent m2.2.2.1 (.ref k :: as)) [] M Q2) (k2 : ∀ (r : Option Value) (M2 : Mm), Q2 r M2 → Ev Sh m n ls (r.toList ++ rest) M2 Q) : Ev Sh m pc ls st M Q := fun P h => h.2.2.2.2.2.2.2.2.2.2.2.2.2.2.2.2.2.2.2.2.2.2.2.2.2.2.2.2.2.2.2.2.2.2.2.2.2.2.2.2.2.2.2.2.2.2.2.2.2.2.2.2.2.2.2.2.2.2.2.2.2.2.1 Sh m m2 pc n ls st as rest M Q Q2 i np k hd hml hmo hrm him hob hst hnp hle hw hn (k1 P h) (fun r M2 q => k2 r M2 q P h)
theorem ev_callS {Sh : Shp} {m m2 : MI} {pc : Nat} {ls st as rest : List Value} {M : Mm} {Q Q2 : Pst} {i np : Nat} (n : Nat) (hd : decode m.2.1 pc = .ok (.invokestatic i, 3)) (hml : ab_ML m.1.cls i m2) (hmo : ab_MO m2 np) (hrm : ab_RM m m2 = true) (hsm : ab_SM m2) (hst : st = as.reverse ++ rest) (hnp : as.length = np) (hle : (ab_ent0 as).length ≤ m2.2.2.1) (hw : (rest.map fun v => v.category).sum ≤ 8) (hn : pc + 3 = n) (k1 : Ev Sh m2 0 (ab_ent m2.2.2.1 as) [] M Q2) (k2 : ∀ (r : Option Value) (M2 : Mm), Q2 r M2 → Ev Sh m n ls (r.toList ++ rest) M2 Q) : Ev Sh m pc ls st M Q := fun P h => h.2.2.2.2.2.2.2.2.2.2.2.2.2.2.2.2.2.2.2.2.2.2.2.2.2.2.2.2.2.2.2.2.2.2.2.2.2.2.2.2.2.2.2.2.2.2.2.2.2.2.2.2.2.2.2.2.2.2.2.2.2.2.2.1 Sh m m2 pc n ls st as rest M Q Q2 i np hd hml hmo hrm hsm hst hnp hle hw hn (k1 P h) (fun r M2 q => k2 r M2 q P h)
theorem ev_imax {Sh : Shp} {m : MI} {pc : Nat} {ls st : List Value} {M : Mm} {Q : Pst} {i : Nat} {x y : Int32} (n : Nat) (hd : decode m.2.1 pc = .ok (.invokestatic i, 3)) (h1 : Cond.methodLink m.1.cls i Lib.Math.max.name ∈ wAll) (h2 : Cond.static Lib.Math.max.name ∈ wAll) (h3 : Cond.initialized "java/lang/Math" ∈ wAll) (h4 : Cond.code Lib.Math.max.name Lib.Math.max.code 2 (some .int) ∈ wAll) (hfr : 1 ≤ m.2.2.2.2.1) (hlo : (st.map fun v => v.category).sum + 13 ≤ m.2.2.2.2.2) (hn : pc + 3 = n) (k : Ev Sh m (n) ls (.int (if x < y then y else x) :: st) M Q) : Ev Sh m pc ls (.int y :: .int x :: st) M Q := fun P h => h.2.2.2.2.2.2.2.2.2.2.2.2.2.2.2.2.2.2.2.2.2.2.2.2.2.2.2.2.2.2.2.2.2.2.2.2.2.2.2.2.2.2.2.2.2.2.2.2.2.2.2.2.2.2.2.2.2.2.2.2.2.2.2.2.1 Sh m pc n ls st M Q i x y hd h1 h2 h3 h4 hfr hlo hn (k P h)
theorem ev_imin {Sh : Shp} {m : MI} {pc : Nat} {ls st : List Value} {M : Mm} {Q : Pst} {i : Nat} {x y : Int32} (n : Nat) (hd : decode m.2.1 pc = .ok (.invokestatic i, 3)) (h1 : Cond.methodLink m.1.cls i Lib.Math.min.name ∈ wAll) (h2 : Cond.static Lib.Math.min.name ∈ wAll) (h3 : Cond.initialized "java/lang/Math" ∈ wAll) (h4 : Cond.code Lib.Math.min.name Lib.Math.min.code 2 (some .int) ∈ wAll) (hfr : 1 ≤ m.2.2.2.2.1) (hlo : (st.map fun v => v.category).sum + 13 ≤ m.2.2.2.2.2) (hn : pc + 3 = n) (k : Ev Sh m (n) ls (.int (if y < x then y else x) :: st) M Q) : Ev Sh m pc ls (.int y :: .int x :: st) M Q := fun P h => h.2.2.2.2.2.2.2.2.2.2.2.2.2.2.2.2.2.2.2.2.2.2.2.2.2.2.2.2.2.2.2.2.2.2.2.2.2.2.2.2.2.2.2.2.2.2.2.2.2.2.2.2.2.2.2.2.2.2.2.2.2.2.2.2.2 Sh m pc n ls st M Q i x y hd h1 h2 h3 h4 hfr hlo hn (k P h)
set_option maxHeartbeats 1000000 in
theorem sn_iadd : Rl_iadd ab_W := by
  intro Sh m pc n ls st M Q x y hd hn k
  subst hn
  intro l p e s mid args below meth c D cy ad cx H locs lsM hP hD hS hL
  exact lv_iadd cx.1 cx.2.1 hd (k l p e s mid args below meth c D cy ad cx H locs lsM hP hD hS hL)
set_option maxHeartbeats 1000000 in
theorem sn_isub : Rl_isub ab_W := by
  intro Sh m pc n ls st M Q x y hd hn k
  subst hn
  intro l p e s mid args below meth c D cy ad cx H locs lsM hP hD hS hL
  exact lv_isub cx.1 cx.2.1 hd (k l p e s mid args below meth c D cy ad cx H locs lsM hP hD hS hL)
set_option maxHeartbeats 1000000 in
theorem sn_imul : Rl_imul ab_W := by
  intro Sh m pc n ls st M Q x y hd hn k
  subst hn
  intro l p e s mid args below meth c D cy ad cx H locs lsM hP hD hS hL
  exact lv_imul cx.1 cx.2.1 hd (k l p e s mid args below meth c D cy ad cx H locs lsM hP hD hS hL)
set_option maxHeartbeats 1000000 in
theorem sn_iand : Rl_iand ab_W := by
  intro Sh m pc n ls st M Q x y hd hn k
  subst hn
  intro l p e s mid args below meth c D cy ad cx H locs lsM hP hD hS hL
  exact lv_iand cx.1 cx.2.1 hd (k l p e s mid args below meth c D cy ad cx H locs lsM hP hD hS hL)
set_option maxHeartbeats 1000000 in
theorem sn_ior : Rl_ior ab_W := by
  intro Sh m pc n ls st M Q x y hd hn k
  subst hn
  intro l p e s mid args below meth c D cy ad cx H locs lsM hP hD hS hL
  exact lv_ior cx.1 cx.2.1 hd (k l p e s mid args below meth c D cy ad cx H locs lsM hP hD hS hL)
set_option maxHeartbeats 1000000 in
theorem sn_ixor : Rl_ixor ab_W := by
  intro Sh m pc n ls st M Q x y hd hn k
  subst hn
  intro l p e s mid args below meth c D cy ad cx H locs lsM hP hD hS hL
  exact lv_ixor cx.1 cx.2.1 hd (k l p e s mid args below meth c D cy ad cx H locs lsM hP hD hS hL)
set_option maxHeartbeats 1000000 in
theorem sn_ishl : Rl_ishl ab_W := by
  intro Sh m pc n ls st M Q x y hd hn k
  subst hn
  intro l p e s mid args below meth c D cy ad cx H locs lsM hP hD hS hL
  exact lv_ishl cx.1 cx.2.1 hd (k l p e s mid args below meth c D cy ad cx H locs lsM hP hD hS hL)
set_option maxHeartbeats 1000000 in
theorem sn_ishr : Rl_ishr ab_W := by
  intro Sh m pc n ls st M Q x y hd hn k
  subst hn
  intro l p e s mid args below meth c D cy ad cx H locs lsM hP hD hS hL
  exact lv_ishr cx.1 cx.2.1 hd (k l p e s mid args below meth c D cy ad cx H locs lsM hP hD hS hL)
set_option maxHeartbeats 1000000 in
theorem sn_iushr : Rl_iushr ab_W := by
  intro Sh m pc n ls st M Q x y hd hn k
  subst hn
  intro l p e s mid args below meth c D cy ad cx H locs lsM hP hD hS hL
  exact lv_iushr cx.1 cx.2.1 hd rfl (k l p e s mid args below meth c D cy ad cx H locs lsM hP hD hS hL)
set_option maxHeartbeats 1000000 in
theorem sn_idiv : Rl_idiv ab_W := by
  intro Sh m pc n ls st M Q x y hd hz hn k
  subst hn
  intro l p e s mid args below meth c D cy ad cx H locs lsM hP hD hS hL
  exact lv_idiv cx.1 cx.2.1 hd hz (k l p e s mid args below meth c D cy ad cx H locs lsM hP hD hS hL)
set_option maxHeartbeats 1000000 in
theorem sn_irem : Rl_irem ab_W := by
  intro Sh m pc n ls st M Q x y hd hz hn k
  subst hn
  intro l p e s mid args below meth c D cy ad cx H locs lsM hP hD hS hL
  exact lv_irem cx.1 cx.2.1 hd hz (k l p e s mid args below meth c D cy ad cx H locs lsM hP hD hS hL)
set_option maxHeartbeats 1000000 in
theorem sn_ladd : Rl_ladd ab_W := by
  intro Sh m pc n ls st M Q x y hd hn k
  subst hn
  intro l p e s mid args below meth c D cy ad cx H locs lsM hP hD hS hL
  exact lv_ladd cx.1 cx.2.1 hd (k l p e s mid args below meth c D cy ad cx H locs lsM hP hD hS hL)
set_option maxHeartbeats 1000000 in
theorem sn_lmul : Rl_lmul ab_W := by
  intro Sh m pc n ls st M Q x y hd hn k
  subst hn
  intro l p e s mid args below meth c D cy ad cx H locs lsM hP hD hS hL
  exact lv_lmul cx.1 cx.2.1 hd (k l p e s mid args below meth c D cy ad cx H locs lsM hP hD hS hL)
set_option maxHeartbeats 1000000 in
theorem sn_ldiv : Rl_ldiv ab_W := by
  intro Sh m pc n ls st M Q x y hd hz hn k
  subst hn
  intro l p e s mid args below meth c D cy ad cx H locs lsM hP hD hS hL
  exact lv_ldiv cx.1 cx.2.1 hd hz (k l p e s mid args below meth c D cy ad cx H locs lsM hP hD hS hL)
set_option maxHeartbeats 1000000 in
theorem sn_lcmp : Rl_lcmp ab_W := by
  intro Sh m pc n ls st M Q x y hd hn k
  subst hn
  intro l p e s mid args below meth c D cy ad cx H locs lsM hP hD hS hL
  exact W.lcmp cx.1 cx.2.1 hd (k l p e s mid args below meth c D cy ad cx H locs lsM hP hD hS hL)
set_option maxHeartbeats 1000000 in
theorem sn_i2l : Rl_i2l ab_W := by
  intro Sh m pc n ls st M Q x hd hn k
  subst hn
  intro l p e s mid args below meth c D cy ad cx H locs lsM hP hD hS hL
  exact lv_i2l cx.1 cx.2.1 hd rfl (k l p e s mid args below meth c D cy ad cx H locs lsM hP hD hS hL)
set_option maxHeartbeats 1000000 in
theorem sn_l2i : Rl_l2i ab_W := by
  intro Sh m pc n ls st M Q x hd hn k
  subst hn
  intro l p e s mid args below meth c D cy ad cx H locs lsM hP hD hS hL
  exact lv_l2i cx.1 cx.2.1 hd rfl (k l p e s mid args below meth c D cy ad cx H locs lsM hP hD hS hL)
set_option maxHeartbeats 1000000 in
theorem sn_dup : Rl_dup ab_W := by
  intro Sh m pc n ls st M Q v hd hc hn k
  subst hn
  intro l p e s mid args below meth c D cy ad cx H locs lsM hP hD hS hL
  exact lv_dup cx.1 cx.2.1 hd (by rw [ab_cat]; exact hc) (k l p e s mid args below meth c D cy ad cx H locs lsM hP hD hS hL)
set_option maxHeartbeats 1000000 in
theorem sn_pop : Rl_pop ab_W := by
  intro Sh m pc n ls st M Q v hd hc hn k
  subst hn
  intro l p e s mid args below meth c D cy ad cx H locs lsM hP hD hS hL
  exact lv_pop cx.1 cx.2.1 hd (by rw [ab_cat]; exact hc) (k l p e s mid args below meth c D cy ad cx H locs lsM hP hD hS hL)
set_option maxHeartbeats 1000000 in
theorem sn_dup2 : Rl_dup2 ab_W := by
  intro Sh m pc n ls st M Q v u hd hc hc2 hn k
  subst hn
  intro l p e s mid args below meth c D cy ad cx H locs lsM hP hD hS hL
  exact lv_dup2_11 cx.1 cx.2.1 hd (by rw [ab_cat]; exact hc) (by rw [ab_cat]; exact hc2) (k l p e s mid args below meth c D cy ad cx H locs lsM hP hD hS hL)
set_option maxHeartbeats 1000000 in
theorem sn_iconst : Rl_iconst ab_W := by
  intro Sh m pc n ls st M Q z v hd hv hn k
  subst hn
  intro l p e s mid args below meth c D cy ad cx H locs lsM hP hD hS hL
  exact lv_iconst cx.1 cx.2.1 hd hv (k l p e s mid args below meth c D cy ad cx H locs lsM hP hD hS hL)
set_option maxHeartbeats 1000000 in
theorem sn_bipush : Rl_bipush ab_W := by
  intro Sh m pc n ls st M Q z v hd hv hn k
  subst hn
  intro l p e s mid args below meth c D cy ad cx H locs lsM hP hD hS hL
  exact lv_bipush cx.1 cx.2.1 hd hv (k l p e s mid args below meth c D cy ad cx H locs lsM hP hD hS hL)
set_option maxHeartbeats 1000000 in
theorem sn_sipush : Rl_sipush ab_W := by
  intro Sh m pc n ls st M Q z v hd hv hn k
  subst hn
  intro l p e s mid args below meth c D cy ad cx H locs lsM hP hD hS hL
  exact lv_sipush cx.1 cx.2.1 hd hv (k l p e s mid args below meth c D cy ad cx H locs lsM hP hD hS hL)
set_option maxHeartbeats 1000000 in
theorem sn_lconst : Rl_lconst ab_W := by
  intro Sh m pc n ls st M Q z v hd hv hn k
  subst hn
  intro l p e s mid args below meth c D cy ad cx H locs lsM hP hD hS hL
  exact lv_lconst cx.1 cx.2.1 hd hv (k l p e s mid args below meth c D cy ad cx H locs lsM hP hD hS hL)
set_option maxHeartbeats 1000000 in
theorem sn_ldc : Rl_ldc ab_W := by
  intro Sh m pc n ls st M Q i v hd hv hn k
  subst hn
  intro l p e s mid args below meth c D cy ad cx H locs lsM hP hD hS hL
  exact lv_ldc cx.1 cx.2.1 cx.2.2.2.2.1 (cx.2.2.2.2.2.2.1 _ hv) hd (k l p e s mid args below meth c D cy ad cx H locs lsM hP hD hS hL)
set_option maxHeartbeats 1000000 in
theorem sn_ldcw : Rl_ldcw ab_W := by
  intro Sh m pc n ls st M Q i v hd hv hn k
  subst hn
  intro l p e s mid args below meth c D cy ad cx H locs lsM hP hD hS hL
  exact lv_ldcw cx.1 cx.2.1 cx.2.2.2.2.1 (cx.2.2.2.2.2.2.1 _ hv) hd (k l p e s mid args below meth c D cy ad cx H locs lsM hP hD hS hL)
set_option maxHeartbeats 1000000 in
theorem sn_ldc2 : Rl_ldc2 ab_W := by
  intro Sh m pc n ls st M Q i v hd hv hn k
  subst hn
  intro l p e s mid args below meth c D cy ad cx H locs lsM hP hD hS hL
  exact lv_ldc2 cx.1 cx.2.1 cx.2.2.2.2.1 (cx.2.2.2.2.2.2.1 _ hv) hd (k l p e s mid args below meth c D cy ad cx H locs lsM hP hD hS hL)
set_option maxHeartbeats 1000000 in
theorem sn_iload_n : Rl_iload_n ab_W := by
  intro Sh m pc n ls st M Q z x hd hv hn k
  subst hn
  intro l p e s mid args below meth c D cy ad cx H locs lsM hP hD hS hL
  exact lv_iload_n cx.1 cx.2.1 hd rfl (hL.2.2 _ _ hv (fun q => by cases q)) (k l p e s mid args below meth c D cy ad cx H locs lsM hP hD hS hL)
set_option maxHeartbeats 1000000 in
theorem sn_iload : Rl_iload ab_W := by
  intro Sh m pc n ls st M Q z x hd hv hn k
  subst hn
  intro l p e s mid args below meth c D cy ad cx H locs lsM hP hD hS hL
  exact lv_iload cx.1 cx.2.1 hd (hL.2.2 _ _ hv (fun q => by cases q)) (k l p e s mid args below meth c D cy ad cx H locs lsM hP hD hS hL)
set_option maxHeartbeats 1000000 in
theorem sn_lload_n : Rl_lload_n ab_W := by
  intro Sh m pc n ls st M Q z x hd hv hn k
  subst hn
  intro l p e s mid args below meth c D cy ad cx H locs lsM hP hD hS hL
  exact lv_lload_n cx.1 cx.2.1 hd rfl (hL.2.2 _ _ hv (fun q => by cases q)) (k l p e s mid args below meth c D cy ad cx H locs lsM hP hD hS hL)
set_option maxHeartbeats 1000000 in
theorem sn_lload : Rl_lload ab_W := by
  intro Sh m pc n ls st M Q z x hd hv hn k
  subst hn
  intro l p e s mid args below meth c D cy ad cx H locs lsM hP hD hS hL
  exact lv_lload cx.1 cx.2.1 hd (hL.2.2 _ _ hv (fun q => by cases q)) (k l p e s mid args below meth c D cy ad cx H locs lsM hP hD hS hL)
set_option maxHeartbeats 1000000 in
theorem sn_aload_n : Rl_aload_n ab_W := by
  intro Sh m pc n ls st M Q z x hd hv hn k
  subst hn
  intro l p e s mid args below meth c D cy ad cx H locs lsM hP hD hS hL
  exact lv_aload_n cx.1 cx.2.1 hd rfl (hL.2.2 _ _ hv (fun q => by cases q)) (k l p e s mid args below meth c D cy ad cx H locs lsM hP hD hS hL)
set_option maxHeartbeats 1000000 in
theorem sn_istore_n : Rl_istore_n ab_W := by
  intro Sh m pc n ls st M Q ls2 z x hd hi ho hl hn k
  subst hn
  subst hl
  intro l p e s mid args below meth c D cy ad cx H locs lsM hP hD hS hL
  exact lv_istore_n cx.1 cx.2.1 hd rfl hL.has hi rfl (fun ls' h' => k l p e s mid args below meth c D cy ad cx H locs ls' hP hD hS (ab_st1 ho h'))
set_option maxHeartbeats 1000000 in
theorem sn_istore : Rl_istore ab_W := by
  intro Sh m pc n ls st M Q ls2 z x hd hi ho hl hn k
  subst hn
  subst hl
  intro l p e s mid args below meth c D cy ad cx H locs lsM hP hD hS hL
  exact lv_istore cx.1 cx.2.1 hd  hL.has hi rfl (fun ls' h' => k l p e s mid args below meth c D cy ad cx H locs ls' hP hD hS (ab_st1 ho h'))
set_option maxHeartbeats 1000000 in
theorem sn_lstore_n : Rl_lstore_n ab_W := by
  intro Sh m pc n ls st M Q ls2 z x hd hi ho hl hn k
  subst hn
  subst hl
  intro l p e s mid args below meth c D cy ad cx H locs lsM hP hD hS hL
  exact lv_lstore_n cx.1 cx.2.1 hd rfl hL.has hi rfl (fun ls' h' => k l p e s mid args below meth c D cy ad cx H locs ls' hP hD hS (ab_st2 ho h'))
set_option maxHeartbeats 1000000 in
theorem sn_lstore : Rl_lstore ab_W := by
  intro Sh m pc n ls st M Q ls2 z x hd hi ho hl hn k
  subst hn
  subst hl
  intro l p e s mid args below meth c D cy ad cx H locs lsM hP hD hS hL
  exact lv_lstore cx.1 cx.2.1 hd  hL.has hi rfl (fun ls' h' => k l p e s mid args below meth c D cy ad cx H locs ls' hP hD hS (ab_st2 ho h'))
set_option maxHeartbeats 1000000 in
theorem sn_iinc : Rl_iinc ab_W := by
  intro Sh m pc n ls st M Q ls2 z d x v hd hx hv hi ho hl hn k
  subst hn
  subst hl
  intro l p e s mid args below meth c D cy ad cx H locs lsM hP hD hS hL
  obtain ⟨kq, hkq⟩ := List.getElem?_of_mem (ab_asc_mem (ad := ad) (ls := ls) (q := (z, .int x)).mpr ⟨.int x, hx, (fun q => by cases q), rfl⟩)
  exact lv_iinc cx.1 cx.2.1 hd hL.has hkq hv hi rfl (fun ls' h' => k l p e s mid args below meth c D cy ad cx H locs ls' hP hD hS (ab_st1 ho h'))
set_option maxHeartbeats 1000000 in
theorem sn_if_eq : Rl_if_eq ab_W := by
  intro Sh m pc n ls st M Q t x off hd ht hn k1 k2
  subst hn
  intro l p e s mid args below meth c D cy ad cx H locs lsM hP hD hS hL
  exact lv_if_eq cx.1 cx.2.1 hd ht (fun q => k1 q l p e s mid args below meth c D cy ad cx H locs lsM hP hD hS hL) (fun q => k2 q l p e s mid args below meth c D cy ad cx H locs lsM hP hD hS hL)
set_option maxHeartbeats 1000000 in
theorem sn_if_ne : Rl_if_ne ab_W := by
  intro Sh m pc n ls st M Q t x off hd ht hn k1 k2
  subst hn
  intro l p e s mid args below meth c D cy ad cx H locs lsM hP hD hS hL
  exact lv_if_ne cx.1 cx.2.1 hd ht (fun q => k1 q l p e s mid args below meth c D cy ad cx H locs lsM hP hD hS hL) (fun q => k2 q l p e s mid args below meth c D cy ad cx H locs lsM hP hD hS hL)
set_option maxHeartbeats 1000000 in
theorem sn_if_lt : Rl_if_lt ab_W := by
  intro Sh m pc n ls st M Q t x off hd ht hn k1 k2
  subst hn
  intro l p e s mid args below meth c D cy ad cx H locs lsM hP hD hS hL
  exact lv_if_lt cx.1 cx.2.1 hd ht (fun q => k1 q l p e s mid args below meth c D cy ad cx H locs lsM hP hD hS hL) (fun q => k2 q l p e s mid args below meth c D cy ad cx H locs lsM hP hD hS hL)
set_option maxHeartbeats 1000000 in
theorem sn_if_ge : Rl_if_ge ab_W := by
  intro Sh m pc n ls st M Q t x off hd ht hn k1 k2
  subst hn
  intro l p e s mid args below meth c D cy ad cx H locs lsM hP hD hS hL
  exact lv_if_ge cx.1 cx.2.1 hd ht (fun q => k1 q l p e s mid args below meth c D cy ad cx H locs lsM hP hD hS hL) (fun q => k2 q l p e s mid args below meth c D cy ad cx H locs lsM hP hD hS hL)
set_option maxHeartbeats 1000000 in
theorem sn_if_gt : Rl_if_gt ab_W := by
  intro Sh m pc n ls st M Q t x off hd ht hn k1 k2
  subst hn
  intro l p e s mid args below meth c D cy ad cx H locs lsM hP hD hS hL
  exact lv_if_gt cx.1 cx.2.1 hd ht (fun q => k1 q l p e s mid args below meth c D cy ad cx H locs lsM hP hD hS hL) (fun q => k2 q l p e s mid args below meth c D cy ad cx H locs lsM hP hD hS hL)
set_option maxHeartbeats 1000000 in
theorem sn_if_le : Rl_if_le ab_W := by
  intro Sh m pc n ls st M Q t x off hd ht hn k1 k2
  subst hn
  intro l p e s mid args below meth c D cy ad cx H locs lsM hP hD hS hL
  exact lv_if_le cx.1 cx.2.1 hd ht (fun q => k1 q l p e s mid args below meth c D cy ad cx H locs lsM hP hD hS hL) (fun q => k2 q l p e s mid args below meth c D cy ad cx H locs lsM hP hD hS hL)
set_option maxHeartbeats 1000000 in
theorem sn_icmp_eq : Rl_icmp_eq ab_W := by
  intro Sh m pc n ls st M Q t x y off hd ht hn k1 k2
  subst hn
  intro l p e s mid args below meth c D cy ad cx H locs lsM hP hD hS hL
  exact lv_icmp_eq cx.1 cx.2.1 hd ht (fun q => k1 q l p e s mid args below meth c D cy ad cx H locs lsM hP hD hS hL) (fun q => k2 q l p e s mid args below meth c D cy ad cx H locs lsM hP hD hS hL)
set_option maxHeartbeats 1000000 in
theorem sn_icmp_ne : Rl_icmp_ne ab_W := by
  intro Sh m pc n ls st M Q t x y off hd ht hn k1 k2
  subst hn
  intro l p e s mid args below meth c D cy ad cx H locs lsM hP hD hS hL
  exact lv_icmp_ne cx.1 cx.2.1 hd ht (fun q => k1 q l p e s mid args below meth c D cy ad cx H locs lsM hP hD hS hL) (fun q => k2 q l p e s mid args below meth c D cy ad cx H locs lsM hP hD hS hL)
set_option maxHeartbeats 1000000 in
theorem sn_icmp_lt : Rl_icmp_lt ab_W := by
  intro Sh m pc n ls st M Q t x y off hd ht hn k1 k2
  subst hn
  intro l p e s mid args below meth c D cy ad cx H locs lsM hP hD hS hL
  exact lv_icmp_lt cx.1 cx.2.1 hd ht (fun q => k1 q l p e s mid args below meth c D cy ad cx H locs lsM hP hD hS hL) (fun q => k2 q l p e s mid args below meth c D cy ad cx H locs lsM hP hD hS hL)
set_option maxHeartbeats 1000000 in
theorem sn_icmp_ge : Rl_icmp_ge ab_W := by
  intro Sh m pc n ls st M Q t x y off hd ht hn k1 k2
  subst hn
  intro l p e s mid args below meth c D cy ad cx H locs lsM hP hD hS hL
  exact lv_icmp_ge cx.1 cx.2.1 hd ht (fun q => k1 q l p e s mid args below meth c D cy ad cx H locs lsM hP hD hS hL) (fun q => k2 q l p e s mid args below meth c D cy ad cx H locs lsM hP hD hS hL)
set_option maxHeartbeats 1000000 in
theorem sn_icmp_gt : Rl_icmp_gt ab_W := by
  intro Sh m pc n ls st M Q t x y off hd ht hn k1 k2
  subst hn
  intro l p e s mid args below meth c D cy ad cx H locs lsM hP hD hS hL
  exact lv_icmp_gt cx.1 cx.2.1 hd ht (fun q => k1 q l p e s mid args below meth c D cy ad cx H locs lsM hP hD hS hL) (fun q => k2 q l p e s mid args below meth c D cy ad cx H locs lsM hP hD hS hL)
set_option maxHeartbeats 1000000 in
theorem sn_icmp_le : Rl_icmp_le ab_W := by
  intro Sh m pc n ls st M Q t x y off hd ht hn k1 k2
  subst hn
  intro l p e s mid args below meth c D cy ad cx H locs lsM hP hD hS hL
  exact lv_icmp_le cx.1 cx.2.1 hd ht (fun q => k1 q l p e s mid args below meth c D cy ad cx H locs lsM hP hD hS hL) (fun q => k2 q l p e s mid args below meth c D cy ad cx H locs lsM hP hD hS hL)
set_option maxHeartbeats 1000000 in
theorem sn_goto : Rl_goto ab_W := by
  intro Sh m pc t ls st M Q off hd ht k
  intro l p e s mid args below meth c D cy ad cx H locs lsM hP hD hS hL
  exact lv_goto cx.1 cx.2.1 hd ht (k l p e s mid args below meth c D cy ad cx H locs lsM hP hD hS hL)
set_option maxHeartbeats 1000000 in
theorem sn_tabOut : Rl_tabOut ab_W := by
  intro Sh m pc t ls st M Q df lo hi offs len x hd hx ht k
  intro l p e s mid args below meth c D cy ad cx H locs lsM hP hD hS hL
  exact lv_tableOut cx.1 cx.2.1 hd hx ht (k l p e s mid args below meth c D cy ad cx H locs lsM hP hD hS hL)
set_option maxHeartbeats 1000000 in
theorem sn_tabIn : Rl_tabIn ab_W := by
  intro Sh m pc t ls st M Q df lo hi offs len x off hd h1 h2 ho ht k
  intro l p e s mid args below meth c D cy ad cx H locs lsM hP hD hS hL
  exact lv_tableIn cx.1 cx.2.1 hd h1 h2 ho ht (k l p e s mid args below meth c D cy ad cx H locs lsM hP hD hS hL)
set_option maxHeartbeats 1000000 in
theorem sn_getI : Rl_getI ab_W := by
  intro Sh m pc n ls st M Q i k j q hd hk hf hj2 hn kk
  subst hn
  intro l p e s mid args below meth c D cy ad cx H locs lsM hP hD hS hL
  obtain ⟨C, T, N, ty0, hc, hj, hin, hty, hnm, hlk⟩ := hf
  have he : (ab_ws cy Sh ad M)[k]? = some (ad k, .inr (q.1, ab_flds ad (M k) q.2)) := by rw [ab_get, hk]; rfl
  have hv : (ab_flds ad (M k) q.2)[j]? = some (.int (M k j)) := by simp [ab_flds, List.getElem?_mapIdx, hj2]
  rcases hlk with hlk | ⟨host, hlk⟩
  · exact va_get cx.1 cx.2.1 cx.2.2.2.2.2.2.1 hin cx.2.2.2.2.1 cx.2.2.2.2.2.2.2.2 hP k he hc j hj (cx.2.2.2.2.2.2.1 _ hlk) (fun _ h9 => h9) hv hd (kk l p e s mid args below meth c D cy ad cx H locs lsM hP hD hS hL)
  · exact va_getN cx.1 cx.2.1 cx.2.2.2.2.2.2.1 hin cx.2.2.2.2.1 cx.2.2.2.2.2.2.2.2 hP k he hc j hj (va_Nw.use rfl (cx.2.2.2.2.2.2.2.1 _ hlk)) (fun _ h9 => h9) hv hd (kk l p e s mid args below meth c D cy ad cx H locs lsM hP hD hS hL)
set_option maxHeartbeats 1000000 in
theorem sn_getR : Rl_getR ab_W := by
  intro Sh m pc n ls st M Q i k j r q hd hk hf hj2 hn kk
  subst hn
  intro l p e s mid args below meth c D cy ad cx H locs lsM hP hD hS hL
  obtain ⟨C, T, N, ty0, hc, hj, hin, hty, hnm, hlk⟩ := hf
  have he : (ab_ws cy Sh ad M)[k]? = some (ad k, .inr (q.1, ab_flds ad (M k) q.2)) := by rw [ab_get, hk]; rfl
  have hv : (ab_flds ad (M k) q.2)[j]? = some (.ref (ad r)) := by simp [ab_flds, List.getElem?_mapIdx, hj2]
  rcases hlk with hlk | ⟨host, hlk⟩
  · exact va_get cx.1 cx.2.1 cx.2.2.2.2.2.2.1 hin cx.2.2.2.2.1 cx.2.2.2.2.2.2.2.2 hP k he hc j hj (cx.2.2.2.2.2.2.1 _ hlk) (fun _ h9 => h9) hv hd (kk l p e s mid args below meth c D cy ad cx H locs lsM hP hD hS hL)
  · exact va_getN cx.1 cx.2.1 cx.2.2.2.2.2.2.1 hin cx.2.2.2.2.1 cx.2.2.2.2.2.2.2.2 hP k he hc j hj (va_Nw.use rfl (cx.2.2.2.2.2.2.2.1 _ hlk)) (fun _ h9 => h9) hv hd (kk l p e s mid args below meth c D cy ad cx H locs lsM hP hD hS hL)
set_option maxHeartbeats 1000000 in
theorem sn_putI : Rl_putI ab_W := by
  intro Sh m pc n ls st M Q i k j q x hd hk hf hg hj2 hn kk
  subst hn
  intro l p e s mid args below meth c D cy ad cx H locs lsM hP hD hS hL
  obtain ⟨C, T, N, ty0, hc, hj, hin, hty, hnm, hlk⟩ := hf
  obtain ⟨C', T', N', hc', hfin, hpi⟩ := hg
  cases hc.symm.trans hc'
  have he : (ab_ws cy Sh ad M)[k]? = some (ad k, .inr (q.1, ab_flds ad (M k) q.2)) := by rw [ab_get, hk]; rfl
  have hl : j < (ab_flds ad (M k) q.2).length := by
    have := (List.getElem?_eq_some_iff.mp hj2).1
    simpa [ab_flds] using this
  rcases hlk with hlk | ⟨host, hlk⟩
  · refine va_put (v := .int x) cx.1 cx.2.1 cx.2.2.2.2.2.2.1 hin ty0 hty hnm cx.2.2.2.2.1 cx.2.2.2.2.2.2.2.2 hP hD hS k he hc j hj (cx.2.2.2.2.2.2.1 _ hlk) (fun _ h9 => h9) hfin hpi rfl rfl hl hd (fun H1 locs1 hP1 hD1 hS1 => ?_)
    rw [ab_setF hk hj2] at hP1 hD1
    exact kk l p e s mid args below meth c D cy ad cx H1 locs1 lsM hP1 hD1 hS1 hL
  · refine va_putN (v := .int x) cx.1 cx.2.1 cx.2.2.2.2.2.2.1 hin ty0 hty hnm cx.2.2.2.2.1 cx.2.2.2.2.2.2.2.2 hP hD hS k he hc j hj (va_Nw.use rfl (cx.2.2.2.2.2.2.2.1 _ hlk)) (fun _ h9 => h9) hfin hpi rfl rfl hl hd (fun H1 locs1 hP1 hD1 hS1 => ?_)
    rw [ab_setF hk hj2] at hP1 hD1
    exact kk l p e s mid args below meth c D cy ad cx H1 locs1 lsM hP1 hD1 hS1 hL
set_option maxHeartbeats 1000000 in
theorem sn_iald : Rl_iald ab_W := by
  intro Sh m pc n ls st M Q k N i hd hk hi hn kk
  subst hn
  intro l p e s mid args below meth c D cy ad cx H locs lsM hP hD hS hL
  have he : (ab_ws cy Sh ad M)[k]? = some (ad k, .inl (cy, N, .inl (M k))) := by rw [ab_get, hk]; rfl
  exact va_iald cx.1 cx.2.1 cx.2.2.2.2.2.2.2.2 hP k 0 he rfl hi hd (kk l p e s mid args below meth c D cy ad cx H locs lsM hP hD hS hL)
set_option maxHeartbeats 1000000 in
theorem sn_alen : Rl_alen ab_W := by
  intro Sh m pc n ls st M Q k N hd hk hn kk
  subst hn
  intro l p e s mid args below meth c D cy ad cx H locs lsM hP hD hS hL
  have he : (ab_ws cy Sh ad M)[k]? = some (ad k, .inl (cy, N, .inl (M k))) := by rw [ab_get, hk]; rfl
  exact va_alen cx.1 cx.2.1 cx.2.2.2.2.2.2.2.2 hP k 0 he rfl rfl hd (kk l p e s mid args below meth c D cy ad cx H locs lsM hP hD hS hL)
set_option maxHeartbeats 1000000 in
theorem sn_iast : Rl_iast ab_W := by
  intro Sh m pc n ls st M Q k N i x hd hk hi hn kk
  subst hn
  intro l p e s mid args below meth c D cy ad cx H locs lsM hP hD hS hL
  have he : (ab_ws cy Sh ad M)[k]? = some (ad k, .inl (cy, N, .inl (M k))) := by rw [ab_get, hk]; rfl
  refine va_iast cx.1 cx.2.1 cx.2.2.2.2.2.2.2.2 hP hD hS k 0 he rfl hi hd (fun H1 locs1 hP1 hD1 hS1 => ?_)
  rw [ab_setA hk] at hP1 hD1
  exact kk l p e s mid args below meth c D cy ad cx H1 locs1 lsM hP1 hD1 hS1 hL
set_option maxHeartbeats 1000000 in
theorem sn_iret : Rl_iret ab_W := by
  intro Sh m pc ls M Q v hd hr hQ 
  intro l p e s mid args below meth c D cy ad cx H locs lsM hP hD hS hL
  exact W.iret cx.1 cx.2.1 (cx.2.2.1.trans hr) (fun t ht _ => ⟨⟨some (.int v), M, rfl, hQ, by rw [ht]; exact hP, hD⟩, hS.F ht⟩) hS.2.2 hd (hlocks := cx.2.2.2.2.2.1)
set_option maxHeartbeats 1000000 in
theorem sn_zret : Rl_zret ab_W := by
  intro Sh m pc ls M Q v hd hr hz hQ 
  intro l p e s mid args below meth c D cy ad cx H locs lsM hP hD hS hL
  exact W.zret cx.1 cx.2.1 (cx.2.2.1.trans hr) (by rcases hz with rfl | rfl <;> decide) (fun t ht _ => ⟨⟨some (.int v), M, rfl, hQ, by rw [ht]; exact hP, hD⟩, hS.F ht⟩) hS.2.2 hd (hlocks := cx.2.2.2.2.2.1)
set_option maxHeartbeats 1000000 in
theorem sn_lret : Rl_lret ab_W := by
  intro Sh m pc ls M Q v hd hr hQ 
  intro l p e s mid args below meth c D cy ad cx H locs lsM hP hD hS hL
  exact W.lret cx.1 cx.2.1 (cx.2.2.1.trans hr) (fun t ht _ => ⟨⟨some (.long v), M, rfl, hQ, by rw [ht]; exact hP, hD⟩, hS.F ht⟩) hS.2.2 hd (hlocks := cx.2.2.2.2.2.1)
set_option maxHeartbeats 1000000 in
theorem sn_vret : Rl_vret ab_W := by
  intro Sh m pc ls M Q hd hr hQ 
  intro l p e s mid args below meth c D cy ad cx H locs lsM hP hD hS hL
  exact W.vret cx.1 cx.2.1 (cx.2.2.1.trans hr) (fun t ht _ => ⟨⟨none, M, rfl, hQ, by rw [ht]; exact hP, hD⟩, hS.F ht⟩) hS.2.2 hd (hlocks := cx.2.2.2.2.2.1)
set_option maxHeartbeats 1000000 in
theorem sn_callV : Rl_callV ab_W := by
  intro Sh m m2 pc n ls st as rest M Q Q2 i np k hd hml hmo hrm him hob hst hnp hle hw hn k1 k2
  subst hn
  subst hst
  intro l p e s mid args below meth c D cy ad cx H locs lsM hP hD hS hL
  obtain ⟨q, r0, hk, hc, hcl⟩ := hob
  have he : (ab_ws cy Sh ad M)[k]? = some (ad k, .inr (q.1, ab_flds ad (M k) q.2)) := by rw [ab_get, hk]; rfl
  have hM := ab_met l D cy ad k1 hmo hle
  have hwd := ab_words (m2 := m2) cx hmo
  have hp := ab_prev (As := as.map (ab_cv ad)) cx hP hD he hc (M := M) (k := k)
  rw [hcl] at hp
  simp only [ab_RM, Bool.and_eq_true, Nat.ble_eq] at hrm
  have hstk : (List.map (ab_cv ad) (as.reverse ++ Value.ref k :: rest)) = (as.map (ab_cv ad)).reverse ++ Value.ref (ad k) :: rest.map (ab_cv ad) := by simp [ab_cv]
  have hrun : va_Run p l e (ab_rm m) s mid args below meth c H locs 0 0 0 0 (F0 mid pc lsM (List.map (ab_cv ad) (as.reverse ++ Value.ref k :: rest))) (rest.map (ab_cv ad)) (ab_Q Sh D cy ad Q2 (Value.ref (ad k) :: as.map (ab_cv ad)).toArray) (ab_AD Sh ad) := by
    rcases hml with hlk | ⟨host, hlk⟩
    · exact va_runV (cc := m.2.1) (nL := m.2.2.1) (Ts := wAll) (own := m.1.cls) (C := m2.1.cls) ⟨cx.1, cx.2.1, cx.2.2.2.1, cx.2.2.2.2.1, cx.2.2.2.2.2.2.1⟩ hM ⟨⟨rfl, rfl, hrm.1, hrm.2, hwd.1, List.mem_cons_self, cx.2.2.2.2.2.2.1 _ hmo.1, cx.2.2.2.2.2.2.1 _ hmo.2.1, ⟨hmo.2.2.1, hmo.2.2.2.1⟩, hwd.2, cx.2.2.2.2.2.2.1 _ hlk⟩, cx.2.2.2.2.2.2.1 _ him.1, cx.2.2.2.2.2.2.1 _ him.2⟩ hp rfl (by rw [List.length_map]; exact hnp) hL.1 hstk (lv_room (by rw [ab_catS]; exact hw)) hd ⟨Nat.zero_le _, Nat.zero_le _⟩
    · exact va_runVN (cc := m.2.1) (nL := m.2.2.1) (Ts := wAll) (own := m.1.cls) (C := m2.1.cls) ⟨cx.1, cx.2.1, cx.2.2.2.1, cx.2.2.2.2.1, cx.2.2.2.2.2.2.1⟩ hM ⟨⟨⟨rfl, rfl, hrm.1, hrm.2, hwd.1, List.mem_cons_self⟩, cx.2.2.2.2.2.2.1 _ hmo.1, cx.2.2.2.2.2.2.1 _ hmo.2.1, ⟨hmo.2.2.1, hmo.2.2.2.1⟩, hwd.2, va_Nw.use rfl (cx.2.2.2.2.2.2.2.1 _ hlk)⟩, cx.2.2.2.2.2.2.1 _ him.1, cx.2.2.2.2.2.2.1 _ him.2⟩ hp rfl (by rw [List.length_map]; exact hnp) hL.1 hstk (lv_room (by rw [ab_catS]; exact hw)) hd ⟨Nat.zero_le _, Nat.zero_le _⟩
  exact ab_callX hrun hS (fun r M2 H1 locs1 hq hP1 hD1 hS1 => k2 r M2 hq l p e s mid args below meth c D cy ad cx H1 locs1 lsM hP1 hD1 hS1 hL)
set_option maxHeartbeats 1000000 in
theorem sn_callS : Rl_callS ab_W := by
  intro Sh m m2 pc n ls st as rest M Q Q2 i np hd hml hmo hrm hsm hst hnp hle hw hn k1 k2
  subst hn
  subst hst
  intro l p e s mid args below meth c D cy ad cx H locs lsM hP hD hS hL
  have hM := ab_met l D cy ad k1 hmo hle
  have hwd := ab_words (m2 := m2) cx hmo
  have hp := ab_pres (As := as.map (ab_cv ad)) cx hP hD (M := M)
  simp only [ab_RM, Bool.and_eq_true, Nat.ble_eq] at hrm
  have hstk : (List.map (ab_cv ad) (as.reverse ++ rest)) = (as.map (ab_cv ad)).reverse ++ rest.map (ab_cv ad) := by simp
  have hrun : va_Run p l e (ab_rm m) s mid args below meth c H locs 0 0 0 0 (F0 mid pc lsM (List.map (ab_cv ad) (as.reverse ++ rest))) (rest.map (ab_cv ad)) (ab_Q Sh D cy ad Q2 (as.map (ab_cv ad)).toArray) (ab_AD Sh ad) := by
    rcases hml with hlk | ⟨host, hlk⟩
    · exact va_runS (cc := m.2.1) (nL := m.2.2.1) (Ts := wAll) (own := m.1.cls) ⟨cx.1, cx.2.1, cx.2.2.2.1, cx.2.2.2.2.1, cx.2.2.2.2.2.2.1⟩ hM ⟨⟨rfl, rfl, hrm.1, hrm.2, hwd.1, List.mem_cons_self, cx.2.2.2.2.2.2.1 _ hmo.1, cx.2.2.2.2.2.2.1 _ hmo.2.1, ⟨hmo.2.2.1, hmo.2.2.2.1⟩, hwd.2, cx.2.2.2.2.2.2.1 _ hlk⟩, cx.2.2.2.2.2.2.1 _ hsm⟩ hp rfl (by rw [List.length_map]; exact hnp) hL.1 hstk (lv_room (by rw [ab_catS]; exact hw)) hd ⟨Nat.zero_le _, Nat.zero_le _⟩
    · exact va_runSN (cc := m.2.1) (nL := m.2.2.1) (Ts := wAll) (own := m.1.cls) ⟨cx.1, cx.2.1, cx.2.2.2.1, cx.2.2.2.2.1, cx.2.2.2.2.2.2.1⟩ hM ⟨⟨⟨rfl, rfl, hrm.1, hrm.2, hwd.1, List.mem_cons_self⟩, cx.2.2.2.2.2.2.1 _ hmo.1, cx.2.2.2.2.2.2.1 _ hmo.2.1, ⟨hmo.2.2.1, hmo.2.2.2.1⟩, hwd.2, va_Nw.use rfl (cx.2.2.2.2.2.2.2.1 _ hlk)⟩, cx.2.2.2.2.2.2.1 _ hsm, trivial⟩ hp rfl (by rw [List.length_map]; exact hnp) hL.1 hstk (lv_room (by rw [ab_catS]; exact hw)) hd ⟨Nat.zero_le _, Nat.zero_le _⟩
  exact ab_callX hrun hS (fun r M2 H1 locs1 hq hP1 hD1 hS1 => k2 r M2 hq l p e s mid args below meth c D cy ad cx H1 locs1 lsM hP1 hD1 hS1 hL)
set_option maxHeartbeats 1000000 in
theorem sn_imax : Rl_imax ab_W := by
  intro Sh m pc n ls st M Q i x y hd h1 h2 h3 h4 hfr hlo hn k
  subst hn
  intro l p e s mid args below meth c D cy ad cx H locs lsM hP hD hS hL
  have hw := cx.2.2.2.2.2.2.1
  exact va_mmax cx.1 cx.2.1 (cx.2.2.2.1.trans hL.1.symm) cx.2.2.2.2.1 (hw _ h1) (hw _ h2) (hw _ h3) (hw _ h4) hfr (by rw [ab_catS]; exact hlo) (Nat.zero_le _) (Nat.zero_le _) hd (k l p e s mid args below meth c D cy ad cx H locs lsM hP hD hS hL)
set_option maxHeartbeats 1000000 in
theorem sn_imin : Rl_imin ab_W := by
  intro Sh m pc n ls st M Q i x y hd h1 h2 h3 h4 hfr hlo hn k
  subst hn
  intro l p e s mid args below meth c D cy ad cx H locs lsM hP hD hS hL
  have hw := cx.2.2.2.2.2.2.1
  exact va_mmin cx.1 cx.2.1 (cx.2.2.2.1.trans hL.1.symm) cx.2.2.2.2.1 (hw _ h1) (hw _ h2) (hw _ h3) (hw _ h4) hfr (by rw [ab_catS]; exact hlo) (Nat.zero_le _) (Nat.zero_le _) hd (k l p e s mid args below meth c D cy ad cx H locs lsM hP hD hS hL)
theorem ab_snd : Rls ab_W := ⟨sn_iadd, sn_isub, sn_imul, sn_iand, sn_ior, sn_ixor, sn_ishl, sn_ishr, sn_iushr, sn_idiv, sn_irem, sn_ladd, sn_lmul, sn_ldiv, sn_lcmp, sn_i2l, sn_l2i, sn_dup, sn_pop, sn_dup2, sn_iconst, sn_bipush, sn_sipush, sn_lconst, sn_ldc, sn_ldcw, sn_ldc2, sn_iload_n, sn_iload, sn_lload_n, sn_lload, sn_aload_n, sn_istore_n, sn_istore, sn_lstore_n, sn_lstore, sn_iinc, sn_if_eq, sn_if_ne, sn_if_lt, sn_if_ge, sn_if_gt, sn_if_le, sn_icmp_eq, sn_icmp_ne, sn_icmp_lt, sn_icmp_ge, sn_icmp_gt, sn_icmp_le, sn_goto, sn_tabOut, sn_tabIn, sn_getI, sn_getR, sn_putI, sn_iald, sn_alen, sn_iast, sn_iret, sn_zret, sn_lret, sn_vret, sn_callV, sn_callS, sn_imax, sn_imin⟩
theorem Ev.sound {Sh : Shp} {m : MI} {pc : Nat} {ls st : List Value} {M : Mm} {Q : Pst} (h : Ev Sh m pc ls st M Q) : ab_W Sh m pc ls st M Q := h ab_W ab_snd

