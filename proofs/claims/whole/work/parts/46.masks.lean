section
/-! the masks of the class, and the tree -/
def MK (M : Mm) (h : Nat → Int32) (n : Nat) : Prop :=
  (∀ p, p < n → ∀ i, i < 32 → bt (M 2 p) i = decide (i ∈ chain h p)) ∧
  (∀ q, q < 24 → ∀ i, i < 32 → bt (M 3 q) i = decide (i < n ∧ q ∈ chain h i)) ∧
  (∀ k, k < 7 → ∀ i, i < 32 → bt (M 4 k) i = decide (i < n ∧ h (i * 18 + 10) = nI k))
def TE (h h1 : Nat → Int32) : Prop := ∀ p w, w < 18 → w ≠ 5 → h1 (p * 18 + w) = h (p * 18 + w)
theorem TE.rf (h : Nat → Int32) : TE h h := fun _ _ _ _ => rfl
theorem te_par {h h1 : Nat → Int32} (e : TE h h1) (p : Nat) : par h1 p = par h p := by
  unfold par
  rw [e p 11 (by omega) (by omega)]
theorem chain_def (h : Nat → Int32) (p : Nat) : chain h p = if 0 < p ∧ par h p < p then par h p :: chain h (par h p) else [] := by
  by_cases q : 0 < p ∧ par h p < p
  · rw [chain, dif_pos q, if_pos q]
  · rw [chain, dif_neg q, if_neg q]
theorem te_chain {h h1 : Nat → Int32} (e : TE h h1) (p : Nat) : chain h1 p = chain h p := by
  induction p using Nat.strongRecOn with
  | _ p ih =>
    rw [chain_def h1 p, chain_def h p]
    by_cases q : 0 < p ∧ par h p < p
    · rw [if_pos q, if_pos (by rw [te_par e]; exact q), te_par e, ih _ q.2]
    · rw [if_neg q, if_neg (by rw [te_par e]; exact q)]
theorem te_inm {h h1 : Nat → Int32} (e : TE h h1) (p k : Nat) : inm h1 p k = inm h p k := by
  unfold inm
  rw [te_chain e]
  congr 1
  funext q
  rw [e q 10 (by omega) (by omega)]
theorem te_rk {h h1 : Nat → Int32} (e : TE h h1) (a : Nat) : rkN h1 a = rkN h a := by
  unfold rkN
  rw [e a 6 (by omega) (by omega)]
theorem te_stK {h h1 : Nat → Int32} (e : TE h h1) (a : Nat) : stK h1 a = stK h a := by
  unfold stK
  rw [e a 10 (by omega) (by omega)]
theorem te_pd {h h1 : Nat → Int32} (e : TE h h1) (p : Nat) : ∀ d, pd h1 p d = pd h p d
  | 0 => rfl
  | d + 1 => by rw [pd, pd, te_pd e p d, e (p + d + 1) 11 (by omega) (by omega)]
theorem te_pre {h h1 : Nat → Int32} (e : TE h h1) (n : Nat) : ∀ f p, preF h1 n f p = preF h n f p
  | 0, _ => rfl
  | f + 1, p => by
    have z : preF h1 n f = preF h n f := funext (te_pre e n f)
    rw [preF, preF, kids, kids, te_pd e, z]
theorem te_ord {h h1 : Nat → Int32} (e : TE h h1) (n : Nat) : ordF h1 n = ordF h n := te_pre e n n 0
theorem te_opB {h h1 : Nat → Int32} (e : TE h h1) (x : Int32) (a : Nat) : ∀ k, opB h1 x a k = opB h x a k
  | 0 => rfl
  | k + 1 => by rw [opB, opB, te_opB e x a k, e k 7 (by omega) (by omega)]
theorem te_ds {h h1 : Nat → Int32} (e : TE h h1) (n : Nat) : ∀ k, dsF h1 n k = dsF h n k
  | 0 => rfl
  | k + 1 => by rw [dsF, dsF, te_ds e n k, opC, opC, te_opB e]
theorem te_tr {h h1 : Nat → Int32} (e : TE h h1) {n : Nat} (ht : TR h n) : TR h1 n :=
  ⟨by rw [e 0 11 (by omega) (by omega)]; exact ht.1, fun p a b => by rw [te_par e, e p 11 (by omega) (by omega)]; exact ht.2 p a b⟩
theorem te_trS {h h1 : Nat → Int32} (e : TE h h1) : ∀ t, trS h1 t = trS h t
  | 0 => rfl
  | a + 1 => te_inm e a 5
theorem te_wiP {h h1 : Nat → Int32} (e : TE h h1) (w : Option Nat) (p : Nat) : wiP h1 w p = wiP h w p := by
  cases w with
  | none => rfl
  | some t => unfold wiP; rw [te_chain e]
theorem eqD.te {h h1 : Nat → Int32} {dl : List Nat} (e : eqD h h1 dl) : TE h h1 := fun p _ hw h5 => e.at p hw h5
theorem bt_z {x : Int32} : x = 0 ↔ ∀ i, i < 32 → bt x i = false := by
  constructor
  · intro e i _
    rw [e]; exact b_0 i
  · intro z
    exact b_ext (fun i hi => by rw [z i hi, b_0])
theorem shwP_eq {M : Mm} {h h1 : Nat → Int32} {n : Nat} (mk : MK M h n) (hn : n ≤ 24) {hid : Int32} (hh : ∀ j, j < n → bt hid j = (h1 (j * 18 + 5) != 0)) {i : Nat} (hi : i < n) (hc : chain h1 i = chain h i) : shwP M hid i = shwn h1 i := by
  have hq : ∀ q, q ∈ i :: chain h i → q < n := fun q hq => by
    rcases List.mem_cons.mp hq with e | e
    · omega
    · have := chain_lt h i q e; omega
  rw [shwP, shwn, hc, Bool.eq_iff_iff, beq_iff_eq, bt_z, List.all_eq_true]
  constructor
  · intro z q hm
    have hqn := hq q hm
    have z1 := z q (by omega)
    rw [b_and, b_or, bt_1shl (by omega) (by omega), mk.1 i hi q (by omega), hh q hqn] at z1
    have z2 : (decide (q ∈ chain h i) || decide (q = i)) = true := by
      rcases List.mem_cons.mp hm with e | e
      · rw [decide_eq_true e, Bool.or_true]
      · rw [decide_eq_true e]; rfl
    rw [z2, Bool.true_and] at z1
    exact beq_iff_eq.mpr (by simpa using z1)
  · intro z q h32
    rw [b_and, b_or, bt_1shl (by omega) h32, mk.1 i hi q h32]
    by_cases hm : q ∈ i :: chain h i
    · have z1 := z q hm
      rw [hh q (hq q hm), bne, z1]
      simp
    · rw [List.mem_cons, not_or] at hm
      rw [decide_eq_false hm.2, decide_eq_false hm.1]
      rfl
def shB (sh : Int32) (h1 : Nat → Int32) (n : Nat) : Prop := ∀ i, i < 32 → bt sh i = (decide (i < n) && shwn h1 i)
theorem shB_of {M : Mm} {h h1 : Nat → Int32} {n : Nat} (mk : MK M h n) (hn : n ≤ 24) {hid : Int32} (hh : ∀ j, j < n → bt hid j = (h1 (j * 18 + 5) != 0)) (te : TE h h1) : shB (mkM (shwP M hid) n) h1 n := by
  intro i hi
  rw [bt_mkM _ hi (by omega)]
  by_cases c : i < n
  · rw [shwP_eq mk hn hh c (te_chain te i)]
  · rw [decide_eq_false c]; rfl
theorem shB_now {M : Mm} {n : Nat} (mk : MK M (M 1) n) (hn : n ≤ 24) : shB (shN M n) (M 1) n := by
  refine shB_of mk hn (fun j hj => ?_) (TE.rf _)
  rw [bt_mkM _ (by omega) (by omega), decide_eq_true hj]
  rfl
theorem shB.at {sh : Int32} {h1 : Nat → Int32} {n : Nat} (s : shB sh h1 n) (hn : n ≤ 24) {i : Nat} (hi : i < n) : bt sh i = shwn h1 i := by
  rw [s i (by omega), decide_eq_true hi]; rfl
theorem shB.hB {sh : Int32} {h1 : Nat → Int32} {n : Nat} (s : shB sh h1 n) (hn : n ≤ 24) {i : Nat} (hi : i < n) : hB sh (nI i) = shwn h1 i := by
  rw [hB_nI (by omega), s.at hn hi]
theorem lastF_is {x : Int32} {j : Nat} (hj : bt x j = true) : ∀ k, j < k → (∀ i, j < i → i < k → bt x i = false) → lastF x k = nI j
  | 0, h, _ => absurd h (Nat.not_lt_zero _)
  | k + 1, h, z => by
    rw [lastF]
    by_cases e : j = k
    · rw [← e, if_pos hj]
    · rw [z k (by omega) (by omega), if_neg (by decide)]
      exact lastF_is hj k (by omega) (fun i a b => z i a (by omega))
theorem lastF_no {x : Int32} : ∀ k, (∀ i, i < k → bt x i = false) → lastF x k = -1
  | 0, _ => rfl
  | k + 1, z => by
    rw [lastF, z k (by omega), if_neg (by decide)]
    exact lastF_no k (fun i a => z i (by omega))
theorem chain_desc (h : Nat → Int32) (p : Nat) : (chain h p).Pairwise (fun a b => b < a) := by
  induction p using Nat.strongRecOn with
  | _ p ih =>
    rw [chain]
    split
    · rename_i z
      exact List.pairwise_cons.mpr ⟨fun q hq => chain_lt h _ q hq, ih _ z.2⟩
    · exact List.Pairwise.nil
theorem lastF_find {x : Int32} {l : List Nat} {P : Nat → Bool} {k : Nat} (hl : l.Pairwise (fun a b => b < a)) (hk : ∀ y ∈ l, y < k) (hx : ∀ i, i < k → bt x i = (decide (i ∈ l) && P i)) : lastF x k = optI (l.find? P) := by
  cases e : l.find? P with
  | none =>
    rw [List.find?_eq_none] at e
    refine lastF_no k (fun i hi => ?_)
    rw [hx i hi]
    by_cases c : i ∈ l
    · rw [Bool.eq_false_iff.mpr (e i c), Bool.and_false]
    · rw [decide_eq_false c]; rfl
  | some j =>
    obtain ⟨hp, A, B, rfl, hA⟩ := List.find?_eq_some_iff_append.mp e
    have hj : j ∈ A ++ j :: B := List.mem_append_right _ List.mem_cons_self
    refine lastF_is ?_ k (hk j hj) (fun i h1 h2 => ?_)
    · rw [hx j (hk j hj), decide_eq_true hj, hp]; rfl
    · rw [hx i h2]
      by_cases c : i ∈ A ++ j :: B
      · rcases List.mem_append.mp c with c | c
        · have := hA i c
          rw [Bool.not_eq_true'] at this
          rw [this, Bool.and_false]
        · rcases List.mem_cons.mp c with c | c
          · omega
          · have := (List.pairwise_cons.mp (List.pairwise_append.mp hl).2.1).1 i c
            omega
      · rw [decide_eq_false c]; rfl
theorem inm_last {M : Mm} {h : Nat → Int32} {n a k : Nat} (mk : MK M h n) (hn : n ≤ 24) (ha : a < n) (hk : k < 7) : lastF (M 2 a &&& M 4 k) 24 = optI (inm h a k) := by
  refine lastF_find (chain_desc h a) (fun y hy => by have := chain_lt h a y hy; omega) (fun i hi => ?_)
  rw [b_and, mk.1 a ha i (by omega), mk.2.2 k hk i (by omega)]
  by_cases c : i ∈ chain h a
  · have := chain_lt h a i c
    rw [decide_eq_true c, Bool.true_and, Bool.true_and, Bool.eq_iff_iff, decide_eq_true_eq, beq_iff_eq]
    exact ⟨fun z => z.2, fun z => ⟨by omega, z⟩⟩
  · rw [decide_eq_false c]; rfl
theorem inm_none {M : Mm} {h : Nat → Int32} {n a k : Nat} (mk : MK M h n) (ha : a < n) (hn : n ≤ 24) (hk : k < 7) : ((M 2 a &&& M 4 k) == 0) = (inm h a k).isNone := by
  rw [Bool.eq_iff_iff, beq_iff_eq, bt_z, Option.isNone_iff_eq_none, inm, List.find?_eq_none]
  constructor
  · intro z q hq e
    have := chain_lt h a q hq
    have z1 := z q (by omega)
    rw [b_and, mk.1 a ha q (by omega), mk.2.2 k hk q (by omega), decide_eq_true hq, decide_eq_true ⟨by omega, beq_iff_eq.mp e⟩] at z1
    exact absurd z1 (by decide)
  · intro z i hi
    rw [b_and, mk.1 a ha i hi, mk.2.2 k hk i hi]
    by_cases c : i ∈ chain h a
    · have z1 := z i c
      rw [beq_iff_eq] at z1
      rw [decide_eq_false (show ¬ (i < n ∧ h (i * 18 + 10) = nI k) from fun q => z1 q.2), Bool.and_false]
    · rw [decide_eq_false c]; rfl
theorem inm_lt {h : Nat → Int32} {a k x : Nat} (e : inm h a k = some x) : x < a := chain_lt h a x (inm_mem e)
theorem trp_eq {M : Mm} {h h1 : Nat → Int32} {n : Nat} {sh : Int32} (mk : MK M h n) (te : TE h h1) (ht : TR h n) (hn : n ≤ 24) (sb : shB sh h1 n) : ∀ t, t ≤ n → (∀ a, t = a + 1 → shwn h1 a = true) → trpF M n sh (pm t) = optI (trS h1 t)
  | 0, _, _ => by rw [trpF, pm_0, inB_m1, if_neg (by decide)]; rfl
  | a + 1, ha, hs => by
    rw [trpF, pm_s, inB_nI (by omega), decide_eq_true (show a < n by omega), if_pos rfl, nI_clamp (by omega), te_trS te]
    show _ = optI (inm h a 5)
    refine lastF_find (chain_desc h a) (fun y hy => by have := chain_lt h a y hy; omega) (fun i hi => ?_)
    rw [b_and, b_and, mk.1 a (by omega) i (by omega), mk.2.2 5 (by omega) i (by omega)]
    by_cases c : i ∈ chain h a
    · have := chain_lt h a i c
      have hs1 : shwn h1 i = true := shwn_chain (te_tr te ht) (show a < n by omega) (hs a rfl) (by rw [te_chain te]; exact c)
      rw [sb.at hn (by omega), hs1, Bool.and_true, decide_eq_true c, Bool.true_and, Bool.true_and, Bool.eq_iff_iff, decide_eq_true_eq, beq_iff_eq]
      exact ⟨fun z => z.2, fun z => ⟨by omega, z⟩⟩
    · rw [decide_eq_false c]; rfl
theorem trS_lt {h : Nat → Int32} {t x : Nat} (e : trS h t = some x) : x + 1 < t := by
  cases t with
  | zero => cases e
  | succ a => have := inm_lt (show inm h a 5 = some x from e); omega
theorem am_eq {M : Mm} {h h1 : Nat → Int32} {n : Nat} {sh : Int32} (mk : MK M h n) (te : TE h h1) (hn : n ≤ 24) (sb : shB sh h1 n) {w : Option Nat} (hw : ∀ x, w = some x → x < n) {y : Nat} (hy : y < n) : bt (amF M n sh (optI w)) y = (shwn h1 y && wiP h1 w y) := by
  cases w with
  | none =>
    rw [amF, if_pos (show optI none = -1 from rfl), sb.at hn hy]
    show _ = (_ && true)
    rw [Bool.and_true]
  | some x =>
    have hx := hw x rfl
    show bt (amF M n sh (nI x)) y = (_ && decide (x ∈ chain h1 y))
    rw [amF, if_neg (nI_m1 (by omega)), inB_nI (by omega), if_pos (decide_eq_true hx), b_and, sb.at hn hy, nI_clamp (by omega), mk.2.1 x (by omega) y (by omega), te_chain te]
    congr 1
    exact decide_eq_decide.mpr ⟨fun z => z.2, fun z => ⟨hy, z⟩⟩
/-- where NEXT or BACK leads: the class's way and the reference's -/
theorem turn_eq {M : Mm} {h h1 : Nat → Int32} {n t key : Nat} {sh : Int32} (mk : MK M h n) (te : TE h h1) (ht : TR h n) (hn0 : 0 < n) (hn : n ≤ 24) (sb : shB sh h1 n) (ht2 : t ≤ n) (hs : ∀ a, t = a + 1 → shwn h1 a = true) (hk : key < 2) :
    turnN M n (arrF h (ordF h n)) sh (nI key) t = nxtT (stpF h1 n t) key t := by
  obtain ⟨-, o2, o3⟩ := ord_facts n hn0 (by omega) ht
  have hb : ∀ x ∈ arrF h (ordF h n), x < n := fun x hx => o3 x (arrF_mem.mp hx).1
  have hw : ∀ x, trS h1 t = some x → x < n := fun x e => by have := trS_lt e; omega
  rw [turnN, trp_eq mk te ht hn sb t ht2 hs, ring_eq (fun x hx => by have := hb x hx; omega) (arr_nd o2) (by omega) hk]
  have e : (arrF h (ordF h n)).filter (bt (amF M n sh (optI (trS h1 t)))) = (arrF h (ordF h n)).filter (fun p => shwn h1 p && wiP h1 (trS h1 t) p) :=
    List.filter_congr (fun y hy => am_eq mk te hn sb hw (hb y hy))
  rw [e, arr_stp (te_rk te) (te_stK te), stpF, te_ord te]
-- names
theorem own_eq {M : Mm} {n : Nat} (hn : n ≤ 24) (l : List Int32) {s : Int32} (hs : s = -1 ∨ ∃ q, q < n ∧ s = nI q) : ownW M n l s = ownS (M 1) l s := by
  rcases hs with rfl | ⟨q, hq, rfl⟩
  · rw [ownW, inB_m1, if_neg (by decide), ownS, if_pos rfl]
  · rw [ownW, inB_nI (by omega), decide_eq_true hq, if_pos rfl, ownS, if_neg (nI_m1 (by omega))]
theorem txt_eq {M : Mm} {n a : Nat} {sh : Int32} {ol : List Nat} (mk : MK M (M 1) n) (hn : n ≤ 24) (sb : shB sh (M 1) n) (ho : rowAt M 5 0 5 ol) (hol : ∀ x ∈ ol, x < n) (ha : a < n) (l : List Int32) : ∀ k, k ≤ ol.length → txtF M n ((M 3 a &&& M 4 1) &&& sh) l k = txtS (M 1) a ol l k
  | 0, _ => rfl
  | k + 1, hk => by
    have hy := hol _ (getD_mem (show k < ol.length by omega))
    rw [txtF, txtS, ho.2.2 k (by omega), hB_nI (by omega), txt_eq mk hn sb ho hol ha l k (by omega), own_eq hn _ (Or.inr ⟨_, hy, rfl⟩), b_and, b_and, sb.at hn hy, mk.2.1 a (by omega) _ (by omega), mk.2.2 1 (by omega) _ (by omega)]
    have e1 : decide (nth ol k < n ∧ a ∈ chain (M 1) (nth ol k)) = decide (a ∈ chain (M 1) (nth ol k)) := decide_eq_decide.mpr ⟨fun z => z.2, fun z => ⟨hy, z⟩⟩
    have e2 : decide (nth ol k < n ∧ M 1 (nth ol k * 18 + 10) = nI 1) = (M 1 (nth ol k * 18 + 10) == nI 1) := by
      rw [Bool.eq_iff_iff, decide_eq_true_eq, beq_iff_eq]
      exact ⟨fun z => z.2, fun z => ⟨hy, z⟩⟩
    have e3 : ownS (M 1) (txtS (M 1) a ol l k) (nI (nth ol k)) = addW (txtS (M 1) a ol l k) (M 1 (nth ol k * 18 + 0)) := by rw [ownS, if_neg (nI_m1 (by omega)), nI_clamp (by omega)]
    rw [e1, e2, e3]
    congr 1
    rw [Bool.and_comm (decide _), Bool.and_assoc]
theorem nm_eq {M : Mm} {n a : Nat} {sh : Int32} (mk : MK M (M 1) n) (ht : TR (M 1) n) (hn0 : 0 < n) (hn : n ≤ 24) (sb : shB sh (M 1) n) (ho : rowAt M 5 0 5 (ordF (M 1) n)) (ha : a < n) (hl : labOK (M 1) n a) : nmF M n a sh = nmS (M 1) n a := by
  obtain ⟨o1, -, o3⟩ := ord_facts n hn0 (by omega) ht
  have e1 : nm1 M n a = labS (M 1) a 2 := by
    rw [nm1, own_eq hn _ (hl 3 (Or.inl rfl)), own_eq hn _ (hl 4 (Or.inr rfl))]
    rfl
  have e3 : nm3 M n a = nsA (M 1) a := by rw [nm3, nsA, e1]
  have e4 : nm4 M n a sh = nsB (M 1) n a := by
    rw [nm4, nsB, e3]
    have z := txt_eq mk hn sb ho o3 ha (nsA (M 1) a) (ordF (M 1) n).length (Nat.le_refl _)
    rw [o1] at z
    rw [z, o1]
  rw [nmF, nmS, e4]
-- what is said
theorem tbs_eq {M : Mm} {n a : Nat} (mk : MK M (M 1) n) (hn : n ≤ 24) (ha : a < n) : tbs M a = tbsS (M 1) a := by
  rw [tbs, tbsS, inm_none mk ha hn (by omega)]
theorem said_eq {M : Mm} {n : Nat} {sh : Int32} (mk : MK M (M 1) n) (ht : TR (M 1) n) (hn0 : 0 < n) (hn : n ≤ 24) (sb : shB sh (M 1) n) : gthF M sh (ordF (M 1) n) = saidF (M 1) n := by
  obtain ⟨-, -, o3⟩ := ord_facts n hn0 (by omega) ht
  refine List.filter_congr (fun y hy => ?_)
  rw [sb.at hn (o3 y hy), tbs_eq mk hn (o3 y hy), sdP, Bool.and_comm]
end
