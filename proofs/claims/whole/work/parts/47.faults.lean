section
/-! pairs, wrongs, what is opened, counts: the class's and the reference's -/
def pcL (h : Nat → Int32) : List Nat → Nat
  | [] => 0
  | x :: t => t.countP (astr h x) + pcL h t
theorem cmpI_2 (h : Nat → Int32) (x : Nat) : ∀ (t : List Nat) (s : Int32 × Nat), (cmpI h x t s).2 = s.2 + t.countP (astr h x)
  | [], s => rfl
  | y :: t, s => by
    rw [cmpI, cmpI_2 h x t, List.countP_cons]
    cases astr h x y with
    | true => simp; omega
    | false => simp
theorem cmpO_2 (h : Nat → Int32) : ∀ (l : List Nat) (s : Int32 × Nat), (cmpO h l s).2 = s.2 + pcL h l
  | [], s => rfl
  | x :: t, s => by
    rw [cmpO, cmpO_2 h t, cmpI_2, pcL]
    omega
theorem pcL_snoc (h : Nat → Int32) (y : Nat) : ∀ l : List Nat, pcL h (l ++ [y]) = pcL h l + l.countP (fun x => astr h x y)
  | [] => rfl
  | x :: t => by
    rw [List.cons_append, pcL, pcL, pcL_snoc h y t, List.countP_append, List.countP_cons, List.countP_cons, List.countP_nil]
    omega
theorem take_snc {l : List Nat} {k : Nat} (h : k < l.length) : l.take (k + 1) = l.take k ++ [nth l k] := by
  rw [List.take_succ, List.getElem?_eq_getElem h, nth_get h]; rfl
theorem prI_c (h : Nat → Int32) (l : List Nat) (k : Nat) : ∀ i, i ≤ l.length → prI h l k i = (l.take i).countP (fun x => astr h x (nth l k))
  | 0, _ => rfl
  | i + 1, hi => by
    rw [prI, prI_c h l k i (by omega), take_snc (by omega), List.countP_append, List.countP_cons, List.countP_nil, Nat.zero_add]
theorem prO_c (h : Nat → Int32) (l : List Nat) : ∀ k, k ≤ l.length → prO h l k = pcL h (l.take k)
  | 0, _ => rfl
  | k + 1, hk => by
    rw [prO, prO_c h l k (by omega), take_snc (by omega), pcL_snoc, prI_c h l k k (by omega)]
theorem pairs_eq (h : Nat → Int32) (l : List Nat) : (cmpO h l (0, 0)).2 = prO h l l.length := by
  rw [cmpO_2, prO_c h l _ (Nat.le_refl _), List.take_of_length_le (Nat.le_refl _)]
  exact Nat.zero_add _
-- ahead
def avL (h : Nat → Int32) (a : Nat) : List Nat → Bool
  | [] => false
  | x :: t => (decide (a = x) && t.any (astr h x)) || avL h a t
theorem cmpI_1 (h : Nat → Int32) {x a : Nat} (hx : x < 32) (ha : a < 32) : ∀ (t : List Nat) (s : Int32 × Nat), bt (cmpI h x t s).1 a = (bt s.1 a || (decide (a = x) && t.any (astr h x)))
  | [], s => by simp [cmpI]
  | y :: t, s => by
    rw [cmpI, cmpI_1 h hx ha t, List.any_cons]
    cases astr h x y with
    | true =>
      rw [if_pos rfl]
      show (bt (s.1 ||| _) a || _) = _
      rw [b_or, bt_1shl hx ha]
      cases bt s.1 a <;> cases decide (a = x) <;> simp
    | false => rw [if_neg (by decide)]; rfl
theorem cmpO_1 (h : Nat → Int32) {a : Nat} (ha : a < 32) : ∀ (l : List Nat) (s : Int32 × Nat), (∀ x ∈ l, x < 32) → bt (cmpO h l s).1 a = (bt s.1 a || avL h a l)
  | [], s, _ => by simp [cmpO, avL]
  | x :: t, s, hb => by
    rw [cmpO, cmpO_1 h ha t _ (fun y hy => hb y (List.mem_cons_of_mem _ hy)), cmpI_1 h (hb x List.mem_cons_self) ha, avL, Bool.or_assoc]
theorem avL_no {h : Nat → Int32} {a : Nat} : ∀ {l : List Nat}, a ∉ l → avL h a l = false
  | [], _ => rfl
  | x :: t, hm => by
    rw [List.mem_cons, not_or] at hm
    rw [avL, decide_eq_false hm.1, avL_no hm.2]; rfl
theorem avL_app {h : Nat → Int32} {a : Nat} {B : List Nat} (hB : a ∉ B) : ∀ {A : List Nat}, a ∉ A → avL h a (A ++ a :: B) = B.any (astr h a)
  | [], _ => by rw [List.nil_append, avL, decide_eq_true rfl, avL_no hB, Bool.or_false]; rfl
  | x :: t, hm => by
    rw [List.mem_cons, not_or] at hm
    rw [List.cons_append, avL, decide_eq_false hm.1, avL_app hB hm.2]; rfl
theorem ahR_any {h : Nat → Int32} {A B : List Nat} {p k : Nat} (hA : A.length = k + 1) : ∀ d, d ≤ B.length → ahR h (A ++ B) p k d = (B.take d).any (astr h p)
  | 0, _ => rfl
  | d + 1, hd => by
    rw [ahR, ahR_any hA d (by omega), take_snc (by omega), List.any_append, List.any_cons, List.any_nil, Bool.or_false, ← hA, nth_r (by omega)]
theorem ahead_eq {h : Nat → Int32} {l : List Nat} {a : Nat} (hnd : l.Nodup) (hb : ∀ x ∈ l, x < 24) (ha : a < 24) : bt (cmpO h l (0, 0)).1 a = ahS h l a := by
  rw [cmpO_1 h (by omega) l _ (fun x hx => by have := hb x hx; omega)]
  have z : bt (0 : Int32) a = false := b_0 a
  show (bt (0 : Int32) a || _) = _
  rw [z, Bool.false_or]
  by_cases c : a ∈ l
  · obtain ⟨A, B, rfl⟩ := List.append_of_mem c
    rw [List.nodup_append, List.nodup_cons] at hnd
    have hA : a ∉ A := fun z => hnd.2.2 a z a List.mem_cons_self rfl
    rw [avL_app hnd.2.1.1 hA, ahS, ix_app ha hA (fun y hy => hb y (List.mem_append_left _ hy))]
    have e : (A ++ a :: B).length - 1 - A.length = B.length := by rw [List.length_append, List.length_cons]; omega
    rw [e, show A ++ a :: B = (A ++ [a]) ++ B by simp, ahR_any (k := A.length) (by simp) _ (Nat.le_refl _), List.take_of_length_le (Nat.le_refl _)]
  · rw [avL_no c, ahS, ix_none (fun y hy e => c (by have := (nI_eq (by have := hb y hy; omega) (by omega)).mp e; rwa [← this])), show l.length - 1 - l.length = 0 by omega]
    rfl
-- twins
theorem alk_comm (l1 l2 : List Int32) : ∀ k, alk l1 l2 k = alk l2 l1 k
  | 0 => rfl
  | k + 1 => by
    rw [alk, alk, alk_comm l1 l2 k]
    congr 1
    exact Bool.eq_iff_iff.mpr ⟨fun e => beq_iff_eq.mpr (beq_iff_eq.mp e).symm, fun e => beq_iff_eq.mpr (beq_iff_eq.mp e).symm⟩
theorem alike_eq (l1 l2 : List Int32) : alike l1 l2 = (decide (l2.length = l1.length) && alk l2 l1 l1.length) := by
  rw [alike, alk_comm]
  congr 1
  exact decide_eq_decide.mpr ⟨fun e => e.symm, fun e => e.symm⟩
theorem sst_bit {M : Mm} {n : Nat} {sh : Int32} (mk : MK M (M 1) n) (hn : n ≤ 24) (sb : shB sh (M 1) n) {k : Nat} (hk : k < 32) : bt (sh &&& (M 4 2 ||| M 4 3)) k = (decide (k < n) && (stK (M 1) k && shwn (M 1) k)) := by
  rw [b_and, b_or, mk.2.2 2 (by omega) k hk, mk.2.2 3 (by omega) k hk, sb k hk, stK]
  by_cases c : k < n
  · have e : ∀ v, decide (k < n ∧ M 1 (k * 18 + 10) = nI v) = (M 1 (k * 18 + 10) == nI v) := fun v => by
      rw [Bool.eq_iff_iff, decide_eq_true_eq, beq_iff_eq]
      exact ⟨fun z => z.2, fun z => ⟨c, z⟩⟩
    rw [e, e, decide_eq_true c, Bool.true_and, Bool.true_and, Bool.and_comm]
  · rw [decide_eq_false c]; rfl
theorem twA_eq {M : Mm} {n : Nat} {sh : Int32} {ns ns2 : Nat → List Int32} (mk : MK M (M 1) n) (hn : n ≤ 24) (sb : shB sh (M 1) n) {a : Nat} (ha : a < n) (e : ∀ q, q ≤ a → ns q = ns2 q) : ∀ k, k ≤ a → twA (sh &&& (M 4 2 ||| M 4 3)) ns a k = twR (M 1) ns2 a k
  | 0, _ => rfl
  | k + 1, hk => by
    rw [twA, twR, twA_eq mk hn sb ha e k (by omega), sst_bit mk hn sb (by omega), decide_eq_true (show k < n by omega), Bool.true_and, alike_eq, e k (by omega), e a (Nat.le_refl _)]
-- closed
theorem any_in {M : Mm} {n a : Nat} {sh : Int32} (mk : MK M (M 1) n) (hn : n ≤ 24) (sb : shB sh (M 1) n) (ha : a < n) {k : Nat} (hk : k < 32) : bt ((sh &&& (M 4 2 ||| M 4 3)) &&& M 3 a) k = (decide (k < n) && inS (M 1) a k) := by
  rw [b_and, sst_bit mk hn sb hk, mk.2.1 a (by omega) k hk, inS]
  by_cases c : k < n
  · rw [decide_eq_true c, Bool.true_and, Bool.true_and]
    congr 1
    exact decide_eq_decide.mpr ⟨fun z => z.2, fun z => ⟨c, z⟩⟩
  · rw [decide_eq_false c]; rfl
theorem wo_bit {M : Mm} {n a : Nat} (mk : MK M (M 1) n) (hn : n ≤ 24) (ha : a < n) {c : Nat} (hc : c < n) : hB (M 2 a ||| (nI 1 <<< (nI a &&& 31))) (nI c) = (decide (c = a) || decide (c ∈ chain (M 1) a)) := by
  rw [hB_nI (by omega), b_or, mk.1 a ha c (by omega), bt_1shl (by omega) (by omega), Bool.or_comm]
theorem out_eq {M : Mm} {n a k : Nat} (mk : MK M (M 1) n) (hn : n ≤ 24) (ho : opsOK (M 1) n) (ha : a < n) (hk : k < n) : hB (M 2 a ||| (nI 1 <<< (nI a &&& 31))) (obb M k) = outS (M 1) a k := by
  rw [obb, mk.2.2 2 (by omega) k (by omega), outS, entP]
  by_cases c : M 1 (k * 18 + 10) = nI 2
  · rw [if_pos c, decide_eq_true ⟨hk, c⟩, if_pos rfl]
    rcases ho k hk with e | ⟨d, h0, hd, e⟩
    · rw [e, if_pos rfl, hB_m1]
    · rw [e, if_neg (nI_m1 (by omega)), nI_clamp (by omega), wo_bit mk hn ha hd]
  · rw [if_neg c, decide_eq_false (fun z => c z.2), if_neg (by decide), hB_m1]
theorem clA_eq {M : Mm} {n a : Nat} {sh : Int32} (mk : MK M (M 1) n) (hn : n ≤ 24) (sb : shB sh (M 1) n) (ho : opsOK (M 1) n) (ha : a < n) : ∀ k, k ≤ n → clA M ((sh &&& (M 4 2 ||| M 4 3)) &&& M 3 a) (M 2 a ||| (nI 1 <<< (nI a &&& 31))) k = badS (M 1) a k
  | 0, _ => rfl
  | k + 1, hk => by
    rw [clA, badS, clA_eq mk hn sb ho ha k (by omega), any_in mk hn sb ha (by omega), decide_eq_true (show k < n by omega), Bool.true_and, out_eq mk hn ho ha (by omega)]
theorem anyS_iff {h : Nat → Int32} {a : Nat} : ∀ {n : Nat}, anyS h a n = true ↔ ∃ k, k < n ∧ inS h a k = true
  | 0 => ⟨fun e => absurd e Bool.false_ne_true, fun ⟨k, hk, _⟩ => absurd hk (Nat.not_lt_zero _)⟩
  | n + 1 => by
    rw [anyS, Bool.or_eq_true, anyS_iff]
    constructor
    · rintro (⟨k, h1, h2⟩ | e)
      · exact ⟨k, by omega, h2⟩
      · exact ⟨n, by omega, e⟩
    · rintro ⟨k, h1, h2⟩
      by_cases c : k = n
      · right; rw [← c]; exact h2
      · left; exact ⟨k, by omega, h2⟩
theorem cls_eq {M : Mm} {n a : Nat} {sh : Int32} (mk : MK M (M 1) n) (hn : n ≤ 24) (sb : shB sh (M 1) n) (ho : opsOK (M 1) n) (ha : a < n) : clsF M n sh a = clsS (M 1) n a := by
  rw [clsF, clsS, clA_eq mk hn sb ho ha n (Nat.le_refl _)]
  congr 1
  rw [Bool.eq_iff_iff, bne_iff_ne, anyS_iff]
  constructor
  · intro z
    apply Classical.byContradiction
    intro w
    refine z (bt_z.mpr (fun k hk => ?_))
    rw [any_in mk hn sb ha hk]
    by_cases c : k < n
    · rw [decide_eq_true c, Bool.true_and]
      exact Bool.eq_false_iff.mpr (fun y => w ⟨k, c, y⟩)
    · rw [decide_eq_false c]; rfl
  · rintro ⟨k, h1, h2⟩ z
    have := bt_z.mp z k (by omega)
    rw [any_in mk hn sb ha (by omega), decide_eq_true h1, h2] at this
    exact absurd this (by decide)
-- all wrongs
theorem flt_eq {M : Mm} {n a s : Nat} {sh as : Int32} {ns ns2 : Nat → List Int32} {sl : List Nat} (mk : MK M (M 1) n) (hn : n ≤ 24) (sb : shB sh (M 1) n) (ho : opsOK (M 1) n) (ha : a < n) (e : ∀ q, q ≤ a → ns q = ns2 q) (has : bt as a = ahS (M 1) sl a) (hs : shwn (M 1) a = true) (h6 : s < 6) : fltF M n ns as sh a s = wrgS (M 1) n ns2 sl a s := by
  rcases (show s = 0 ∨ s = 1 ∨ s = 2 ∨ s = 3 ∨ s = 4 ∨ s = 5 by omega) with rfl | rfl | rfl | rfl | rfl | rfl
  · show nmlF M (ns a) a = _
    rw [nmlF, wrgS, e a (Nat.le_refl _), kd3, stK, Bool.and_comm]
  · show twnF M ns sh a = twN (M 1) ns2 a
    rw [twnF, twN, sst_bit mk hn sb (by omega), decide_eq_true ha, hs, Bool.true_and, Bool.and_true, twA_eq mk hn sb ha e a (Nat.le_refl _), e a (Nat.le_refl _)]
  · show palH (M 1) a = _
    rw [palH, wrgS, stK]
    by_cases c : M 1 (a * 18 + 10) = nI 1
    · rw [if_pos c, c]
      have e1 : (nI 1 == nI 1) = true := by decide
      have e2 : (nI 1 == nI 2) = false := by decide
      have e3 : (nI 1 == nI 3) = false := by decide
      rw [e1, e2, e3]
      simp
    · rw [if_neg c, beq_eq_false_iff_ne.mpr c]; rfl
  · show ((M 1 (a * 18 + 10) == nI 5) && clsF M n sh a) = _
    rw [wrgS, cls_eq mk hn sb ho ha]
  · exact has
  · rfl
theorem wrP_eq {M : Mm} {n a : Nat} {sh as : Int32} {ns ns2 : Nat → List Int32} {sl : List Nat} (mk : MK M (M 1) n) (hn : n ≤ 24) (sb : shB sh (M 1) n) (ho : opsOK (M 1) n) (ha : a < n) (e : ∀ q, q ≤ a → ns q = ns2 q) (has : bt as a = ahS (M 1) sl a) : ∀ s, s ≤ 6 → wrP M n ns as sh a s = wrPS (M 1) n ns2 sl a s
  | 0, _ => rfl
  | s + 1, hs => by
    rw [wrP, wrPS, wrP_eq mk hn sb ho ha e has s (by omega), sb.at hn ha]
    cases c : shwn (M 1) a with
    | true => rw [flt_eq mk hn sb ho ha e has c (by omega)]
    | false => rfl
theorem wrO_eq {M : Mm} {n : Nat} {sh as : Int32} {ns ns2 : Nat → List Int32} {sl : List Nat} (mk : MK M (M 1) n) (hn : n ≤ 24) (sb : shB sh (M 1) n) (ho : opsOK (M 1) n) (e : ∀ q, q < n → ns q = ns2 q) (has : ∀ a, a < n → bt as a = ahS (M 1) sl a) : ∀ k, k ≤ n → wrO M n ns as sh k = wrOS (M 1) n ns2 sl k
  | 0, _ => rfl
  | k + 1, hk => by
    rw [wrO, wrOS, wrO_eq mk hn sb ho e has k (by omega), wrP_eq mk hn sb ho (show k < n by omega) (fun q hq => e q (by omega)) (has k (by omega)) 6 (Nat.le_refl _)]
theorem wr_eq {M : Mm} {n : Nat} (mk : MK M (M 1) n) (ht : TR (M 1) n) (hn0 : 0 < n) (hn : n ≤ 24) (ho : rowAt M 5 0 5 (ordF (M 1) n)) (hops : opsOK (M 1) n) (hl : ∀ a, a < n → labOK (M 1) n a) : wrF M (ordF (M 1) n) = wrS (M 1) n := by
  obtain ⟨o1, o2, o3⟩ := ord_facts n hn0 (by omega) ht
  have sb := shB_now mk hn
  rw [wrF, wrS, o1, said_eq mk ht hn0 hn sb]
  exact wrO_eq mk hn sb hops (fun q hq => nm_eq mk ht hn0 hn sb ho hq (hl q hq)) (fun a ha => ahead_eq (o2.filter _) (fun x hx => by have := o3 x (List.mem_filter.mp hx).1; omega) (by omega)) n (Nat.le_refl _)
-- what is opened
theorem opd_bit {M : Mm} {n : Nat} (hn : n ≤ 24) (ho : opsOK (M 1) n) (x : Int32) {i : Nat} (hi : i < 32) : ∀ k, k ≤ n → bt (opdF M x k) i = opB (M 1) x i k
  | 0, _ => b_0 i
  | k + 1, hk => by
    rw [opdF, opB]
    rcases ho k (by omega) with e | ⟨c, h0, hc, e⟩
    · rw [if_neg (fun z => z.2 e), opd_bit hn ho x hi k (by omega), e, beq_eq_false_iff_ne.mpr (fun z => nI_m1 (show i < 2 ^ 31 by omega) z.symm), Bool.and_false, Bool.or_false]
    · have e2 : (nI c == nI i) = decide (i = c) := by
        rw [Bool.eq_iff_iff, beq_iff_eq, decide_eq_true_eq, nI_eq (by omega) (by omega)]
        exact ⟨fun z => z.symm, fun z => z.symm⟩
      by_cases z : nI k = x
      · rw [if_neg (fun q => q.1 z), opd_bit hn ho x hi k (by omega), decide_eq_false (fun q => q z), Bool.false_and, Bool.or_false]
      · rw [e, if_pos ⟨z, nI_m1 (by omega)⟩, b_or, opd_bit hn ho x hi k (by omega), bt_1shl (by omega) hi, decide_eq_true z, Bool.true_and, e2]
theorem opB_in {h : Nat → Int32} {n : Nat} (hn : n ≤ 24) (ho : opsOK h n) {x : Int32} {i : Nat} (hi : i < 32) : ∀ k, k ≤ n → opB h x i k = true → 0 < i ∧ i < n
  | 0, _, e => absurd e Bool.false_ne_true
  | k + 1, hk, e => by
    rw [opB, Bool.or_eq_true] at e
    rcases e with e | e
    · exact opB_in hn ho hi k (by omega) e
    · rw [Bool.and_eq_true, beq_iff_eq] at e
      rcases ho k (by omega) with z | ⟨c, h0, hc, z⟩
      · rw [z] at e; exact absurd e.2.symm (nI_m1 (by omega))
      · rw [z, nI_eq (by omega) (by omega)] at e
        omega
theorem opC_bit {M : Mm} {n : Nat} (hn : n ≤ 24) (ho : opsOK (M 1) n) (x : Int32) {i : Nat} (hi : i < 32) : bt (opdF M x n) i = opC (M 1) x n i := by
  rw [opd_bit hn ho x hi n (Nat.le_refl _), opC]
  cases e : opB (M 1) x i n with
  | true => rw [decide_eq_true (show 1 ≤ i from (opB_in hn ho hi n (Nat.le_refl _) e).1)]; rfl
  | false => rw [Bool.and_false]
theorem opn_cnt {M : Mm} {n : Nat} (hn : n ≤ 24) (ho : opsOK (M 1) n) (x : Int32) : popN (opdF M x n) = fb_ct (opC (M 1) x n) n := by
  rw [popN, show (32 : Nat) = n + (32 - n) by omega, fb_ct_split]
  have e1 : fb_ct (bt (opdF M x n)) n = fb_ct (opC (M 1) x n) n := fb_ct_cong (fun k hk => opC_bit hn ho x (by omega))
  have e2 : fb_ct (fun k => bt (opdF M x n) (n + k)) (32 - n) = 0 := fb_ct_zero.mpr (fun k hk => by
    rw [opC_bit hn ho x (by omega), opC]
    exact Bool.eq_false_iff.mpr (fun e => by
      rw [Bool.and_eq_true] at e
      have := (opB_in hn ho (by omega) n (Nat.le_refl _) e.2).2
      omega))
  rw [e1, e2]
  rfl
theorem drs_eq {M : Mm} {n : Nat} (hn : n ≤ 24) (ho : opsOK (M 1) n) (h6 : (dsF (M 1) n n).length ≤ 6) : ∀ k, k ≤ n → drF (opN M n) k = dsF (M 1) n k
  | 0, _ => rfl
  | k + 1, hk => by
    rw [drF, dsF, drs_eq hn ho h6 k (by omega), opN, opC_bit hn ho (-1) (by omega)]
    cases c : opC (M 1) (-1) n k with
    | false => rw [Bool.false_and, if_neg (by decide), if_neg (by decide), List.append_nil]
    | true =>
      have z := dsF_mono (M 1) n (n - (k + 1)) (k + 1)
      rw [show k + 1 + (n - (k + 1)) = n by omega, dsF, c, if_pos rfl, List.length_append, List.length_singleton] at z
      rw [Bool.true_and, decide_eq_true (by omega), if_pos rfl, if_pos rfl]
theorem dl_eq {M : Mm} {n : Nat} (hn : n ≤ 24) (ho : opsOK (M 1) n) (h6 : (dsF (M 1) n n).length ≤ 6) : dlF M n = dsF (M 1) n n := drs_eq hn ho h6 n (Nat.le_refl _)
-- counts
theorem nd_cnt {P : Nat → Bool} : ∀ (n : Nat) (l : List Nat), l.Nodup → (∀ x ∈ l, x < n ∧ P x = true) → l.length ≤ fb_ct P n
  | 0, l, _, h => by
    cases l with
    | nil => exact Nat.le_refl _
    | cons a t => exact absurd (h a List.mem_cons_self).1 (Nat.not_lt_zero _)
  | n + 1, l, hl, h => by
    have h1 := nd_cnt n (l.filter (fun x => decide (x ≠ n))) (hl.filter _) (fun x hx => by
      obtain ⟨a, b⟩ := List.mem_filter.mp hx
      have := h x a
      have := of_decide_eq_true b
      exact ⟨by omega, (h x a).2⟩)
    have h2 := List.length_eq_countP_add_countP (l := l) (fun x => decide (x ≠ n))
    rw [List.countP_eq_length_filter] at h2
    have h3 : l.countP (fun x => !decide (x ≠ n)) ≤ if P n then 1 else 0 := by
      by_cases c : n ∈ l
      · rw [(h n c).2, if_pos rfl]
        have := List.nodup_iff_count.mp hl n
        rw [List.count_eq_countP] at this
        refine Nat.le_trans (Nat.le_of_eq (List.countP_congr (fun x hx => ?_))) this
        simp
      · rw [List.countP_eq_zero.mpr]
        · exact Nat.zero_le _
        · intro x hx e
          have : x = n := by simpa using e
          exact c (this ▸ hx)
    rw [fb_ct_succ]
    have h4 : l.countP (fun x => decide ¬ (decide (x ≠ n)) = true) = l.countP (fun x => !decide (x ≠ n)) := List.countP_congr (fun x hx => by simp)
    omega
theorem ord_cnt {h : Nat → Int32} {n : Nat} (ht : TR h n) (hn0 : 0 < n) (hn : n ≤ 24) (P : Nat → Bool) : ((ordF h n).filter P).length = fb_ct P n := by
  obtain ⟨o1, o2, o3⟩ := ord_facts n hn0 (by omega) ht
  have a1 := nd_cnt (P := P) n _ (o2.filter P) (fun x hx => ⟨o3 x (List.mem_filter.mp hx).1, (List.mem_filter.mp hx).2⟩)
  have a2 := nd_cnt (P := fun x => !P x) n _ (o2.filter (fun x => !P x)) (fun x hx => ⟨o3 x (List.mem_filter.mp hx).1, (List.mem_filter.mp hx).2⟩)
  have a3 := fb_ct_not P n
  have a4 : ((ordF h n).filter P).length + ((ordF h n).filter (fun x => !P x)).length = (ordF h n).length := by
    rw [← List.countP_eq_length_filter, ← List.countP_eq_length_filter]
    have := List.length_eq_countP_add_countP (l := ordF h n) P
    have e : (ordF h n).countP (fun x => decide ¬ P x = true) = (ordF h n).countP (fun x => !P x) := List.countP_congr (fun x hx => by simp)
    omega
  omega
theorem pop_cnt {x : Int32} {P : Nat → Bool} {n : Nat} (hn : n ≤ 24) (hx : ∀ i, i < 32 → bt x i = (decide (i < n) && P i)) : popN x = fb_ct P n := by
  rw [popN, show (32 : Nat) = n + (32 - n) by omega, fb_ct_split]
  have e1 : fb_ct (bt x) n = fb_ct P n := fb_ct_cong (fun k hk => by rw [hx k (by omega), decide_eq_true hk]; rfl)
  have e2 : fb_ct (fun k => bt x (n + k)) (32 - n) = 0 := fb_ct_zero.mpr (fun k hk => by rw [hx _ (by omega), decide_eq_false (by omega)]; rfl)
  rw [e1, e2]
  rfl
end
