/-! the reference: spread, whole -/
def rkF (h : Nat → Int32) (n : Nat) (dl : List Nat) (q : List (Nat × Nat)) (a : Nat) : Nat → List (Nat × Nat)
  | 0 => q
  | key + 1 => comeR (rkF h n dl q a key) (nxR h n dl key (pr1 q a), pr2 q a + 1)
def rbfs (h : Nat → Int32) (n : Nat) (dl : List Nat) : Nat → Nat → List (Nat × Nat) → List (Nat × Nat)
  | 0, _, q => q
  | d + 1, a, q => if a < q.length then rbfs h n dl d (a + 1) (rkF h n dl q a 3) else q
theorem comeR_at {q : List (Nat × Nat)} {a : Nat} (ha : a < q.length) (e : Nat × Nat) : a < (comeR q e).length ∧ pr1 (comeR q e) a = pr1 q a ∧ pr2 (comeR q e) a = pr2 q a := by
  unfold comeR
  split
  · exact ⟨ha, rfl, rfl⟩
  · exact ⟨by rw [List.length_append]; omega, pr_app1 ha⟩
theorem rkF_at {h : Nat → Int32} {n : Nat} {dl : List Nat} {q : List (Nat × Nat)} {a : Nat} (ha : a < q.length) : ∀ key, a < (rkF h n dl q a key).length ∧ pr1 (rkF h n dl q a key) a = pr1 q a ∧ pr2 (rkF h n dl q a key) a = pr2 q a
  | 0 => ⟨ha, rfl, rfl⟩
  | key + 1 => by
    obtain ⟨h1, h2, h3⟩ := rkF_at (h := h) (n := n) (dl := dl) ha key
    obtain ⟨g1, g2, g3⟩ := comeR_at h1 (nxR h n dl key (pr1 q a), pr2 q a + 1)
    exact ⟨g1, g2.trans h2, g3.trans h3⟩
theorem mkN_bit (P : Nat → Bool) {k i : Nat} (hk : k ≤ 31) (hi : i < k) : (mkN P k).testBit i = P i := by
  have h1 := bt_mkM P (i := i) (by omega) (k := k) (by omega)
  rw [mkM_N P k hk, bt_nI _ (by omega), decide_eq_true hi, Bool.true_and] at h1
  exact h1
theorem cmH_back {h : Nat → Int32} {dl : List Nat} (h6 : dl.length ≤ 6) (h0 : ∀ x ∈ dl, h01 h x) : ∀ k, k ≤ dl.length → cmH h dl (mkN (hdP h dl) dl.length) k = h
  | 0, _ => rfl
  | k + 1, hk => by
    rw [cmH, cmH_back h6 h0 k (by omega), mkN_bit _ (by omega) (by omega)]
    refine fa_upd_same ?_
    unfold hdP
    rcases h0 _ (getD_mem (show k < dl.length by omega)) with e | e
    · rw [e]; rfl
    · rw [e]; decide
def spQ (M M2 : Mm) (n : Nat) (dl sp : List Nat) (q : List (Nat × Nat)) : Prop := (∀ k, 5 ≤ k → k ≠ 8 → k ≠ 9 → k ≠ 10 → k ≠ 11 → M2 k = M k) ∧ (∀ j, j ≠ 3 → j ≠ 12 → j ≠ 14 → j ≠ 17 → M2 0 j = M 0 j) ∧ M2 1 = M 1 ∧ rowAt M2 9 0 14 dl ∧ rowAt M2 2 0 3 sp ∧ rI M2 q ∧ qW n q

theorem s_X8_spread_62 {M : Mm} {n : Nat} {dl sp : List Nat} (ht : TR (M 1) n) (hn0 : 0 < n) (hn : n ≤ 24) (hm : M 0 0 = nI n) (hpl : ∀ y, y < n → plOK (M 1) y) (ho : opsOK (M 1) n) (hdo : ∀ a c, a < n → 0 < c → c < n → M 1 (a * 18 + 7) = nI c → c ∈ dl) (h6 : dl.length ≤ 6) (hdb : ∀ x ∈ dl, x < 24) (hnd : sp.Nodup) (hsb : ∀ y ∈ sp, y < 24) {q : List (Nat × Nat)} {a : Nat} {bg : Int32} {Q : Pst} (ha : a < q.length) (k : ∀ M2 (v : Value), spI M M2 n dl sp (rkF (M 1) n dl q a 3) → Ev MSh mX8_spread 147 [.ref 0, .int bg, .int (nI a), .int (nI 3), v] [] M2 Q) : ∀ d key (M1 : Mm) (u : Value), key + d = 3 → spI M M1 n dl sp (rkF (M 1) n dl q a key) → Ev MSh mX8_spread 62 [.ref 0, .int bg, .int (nI a), .int (nI key), u] [] M1 Q
  | 0, key, M1, u, h, hI => by
    refine ev_iload_n 63 dX8_spread_62 rfl rfl ?_
    refine ev_iconst 64 (nI 3) dX8_spread_63 (by decide) rfl ?_
    refine ev_icmp_geN 67 147 dX8_spread_64 (by decide) rfl (by omega) (by omega) (fun c64 => ?_) (fun c64 => ?_)
    · rw [show key = 3 by omega] at hI ⊢
      exact k M1 u hI
    · omega
  | d + 1, key, M1, u, h, hI => by
    refine ev_iload_n 63 dX8_spread_62 rfl rfl ?_
    refine ev_iconst 64 (nI 3) dX8_spread_63 (by decide) rfl ?_
    refine ev_icmp_geN 67 147 dX8_spread_64 (by decide) rfl (by omega) (by omega) (fun c64 => ?_) (fun c64 => ?_)
    · omega
    · obtain ⟨g1, g2, g3⟩ := rkF_at (h := M 1) (n := n) (dl := dl) ha key
      refine s_X8_spread_67 ht hn0 hn hm hpl ho hdo h6 hdb hnd hsb hI g1 (by omega) (fun M2 v h2 => ?_)
      refine ev_iincN 144 _ dX8_spread_141 rfl (by decide) rfl rfl rfl ?_
      refine ev_goto 62 dX8_spread_144 (by decide) ?_
      rw [g2, g3] at h2
      exact s_X8_spread_62 ht hn0 hn hm hpl ho hdo h6 hdb hnd hsb ha k d (key + 1) M2 _ (by omega) h2
theorem s_X8_spread_153 {M M1 : Mm} {n b0 : Nat} {dl sp : List Nat} {q : List (Nat × Nat)} {x y z : Value} (h6 : dl.length ≤ 6) (hdb : ∀ x ∈ dl, x < 24) (hbg : b0 < 1600) (hback : cmH (M 1) dl (b0 / 25) dl.length = M 1) (hbt : M 0 2 = pm (b0 % 25)) (hI : spI M M1 n dl sp q) : Ev MSh mX8_spread 153 [.ref 0, .int (nI b0), x, y, z] [] M1 (fun r M2 => r = none ∧ spQ M M2 n dl sp q) := by
  refine ev_aload_n 154 dX8_spread_153 rfl rfl ?_
  refine ev_iload_n 155 dX8_spread_154 rfl rfl ?_
  refine ev_cV1 158 dX8_spread_155 mlX8_188 moX8_come rfl imX8_come ⟨_, _, rfl, rfl, rfl⟩ (Nat.le_of_ble_eq_true rfl) (Nat.le_of_ble_eq_true rfl) rfl (s_X8_come hI.2.2.2.2.1 h6 hdb hbg) ?_
  rintro r M2 ⟨rfl, c1, c2, c3, c4⟩
  refine ev_vret dX8_spread_158 rfl ⟨rfl, fun k a1 a2 a3 a4 a5 => by rw [c2 k (by omega) (by omega)]; exact hI.1 k a1 a2 a3 a4 a5, fun j a1 a2 a3 a4 => ?_, ?_, ?_, ?_, ?_, hI.2.2.2.2.2.2.2⟩
  · by_cases e : j = 2
    · rw [e, c4, hbt]
    · rw [c3 j e]; exact hI.2.1 j e a1 a2 a3 a4
  · rw [c1, cmH_eq hI.2.2.1]; exact hback
  · exact hI.2.2.2.2.1.of (c2 9 (by decide) (by decide)) (c3 14 (by decide))
  · exact hI.2.2.2.2.2.1.of (c2 2 (by decide) (by decide)) (c3 3 (by decide))
  · have hr := hI.2.2.2.2.2.2.1
    exact ⟨by rw [c3 17 (by decide)]; exact hr.1, hr.2.1, fun i hi => by rw [c2 10 (by decide) (by decide), c2 11 (by decide) (by decide)]; exact hr.2.2.1 i hi, fun s h1 h2 => by rw [c2 10 (by decide) (by decide)]; exact hr.2.2.2 s h1 h2⟩
theorem s_X8_spread_52 {M : Mm} {n : Nat} {dl sp : List Nat} (ht : TR (M 1) n) (hn0 : 0 < n) (hn : n ≤ 24) (hm : M 0 0 = nI n) (hpl : ∀ y, y < n → plOK (M 1) y) (ho : opsOK (M 1) n) (hdo : ∀ a c, a < n → 0 < c → c < n → M 1 (a * 18 + 7) = nI c → c ∈ dl) (h6 : dl.length ≤ 6) (hdb : ∀ x ∈ dl, x < 24) (hnd : sp.Nodup) (hsb : ∀ y ∈ sp, y < 24) {b0 : Nat} (hbg : b0 < 1600) (hback : cmH (M 1) dl (b0 / 25) dl.length = M 1) (hbt : M 0 2 = pm (b0 % 25)) : ∀ d a (q : List (Nat × Nat)) (M1 : Mm) (y z : Value), a + d = 1600 → spI M M1 n dl sp q → Ev MSh mX8_spread 52 [.ref 0, .int (nI b0), .int (nI a), y, z] [] M1 (fun r M2 => r = none ∧ spQ M M2 n dl sp (rbfs (M 1) n dl d a q))
  | 0, a, q, M1, y, z, h, hI => by
    have hq1 := hI.2.2.2.2.2.2.1.2.1
    refine ev_iload_n 53 dX8_spread_52 rfl rfl ?_
    refine ev_aload_n 54 dX8_spread_53 rfl rfl ?_
    refine ev_getIv 57 (nI q.length) dX8_spread_54 rfl flX8_185 rfl rfl hI.2.2.2.2.2.2.1.1 ?_
    refine ev_icmp_geN 60 153 dX8_spread_57 (by decide) rfl (by omega) (by omega) (fun c57 => ?_) (fun c57 => ?_)
    · exact s_X8_spread_153 h6 hdb hbg hback hbt hI
    · omega
  | d + 1, a, q, M1, y, z, h, hI => by
    have hq1 := hI.2.2.2.2.2.2.1.2.1
    refine ev_iload_n 53 dX8_spread_52 rfl rfl ?_
    refine ev_aload_n 54 dX8_spread_53 rfl rfl ?_
    refine ev_getIv 57 (nI q.length) dX8_spread_54 rfl flX8_185 rfl rfl hI.2.2.2.2.2.2.1.1 ?_
    refine ev_icmp_geN 60 153 dX8_spread_57 (by decide) rfl (by omega) (by omega) (fun c57 => ?_) (fun c57 => ?_)
    · rw [rbfs, if_neg (by omega)]
      exact s_X8_spread_153 h6 hdb hbg hback hbt hI
    · refine ev_iconst 61 (nI 0) dX8_spread_60 (by decide) rfl ?_
      refine ev_istore_n 62 _ dX8_spread_61 (by decide) rfl rfl rfl ?_
      refine s_X8_spread_62 ht hn0 hn hm hpl ho hdo h6 hdb hnd hsb (q := q) (a := a) (by omega) (fun M2 v h2 => ?_) 3 0 M1 _ (by omega) hI
      refine ev_iincN 150 _ dX8_spread_147 rfl (by decide) rfl rfl rfl ?_
      refine ev_goto 52 dX8_spread_150 (by decide) ?_
      rw [rbfs, if_pos (by omega)]
      exact s_X8_spread_52 ht hn0 hn hm hpl ho hdo h6 hdb hnd hsb hbg hback hbt d (a + 1) _ M2 _ _ (by omega) h2
def flI (M M1 : Mm) (i : Nat) : Prop := (∀ q, q ≠ 10 → M1 q = M q) ∧ ∀ j, j < i → M1 10 j = -1
theorem s_X8_spread_11 {M : Mm} {bg : Int32} {y z : Value} {Q : Pst} (k : ∀ M2, flI M M2 1600 → Ev MSh mX8_spread 31 [.ref 0, .int bg, .int (nI 1600), y, z] [] M2 Q) : ∀ d i (M1 : Mm), i + d = 1600 → flI M M1 i → Ev MSh mX8_spread 11 [.ref 0, .int bg, .int (nI i), y, z] [] M1 Q
  | 0, i, M1, h, hs => by
    refine ev_iload_n 12 dX8_spread_11 rfl rfl ?_
    refine ev_sipush 15 (nI 1600) dX8_spread_12 (by decide) rfl ?_
    refine ev_icmp_geN 18 31 dX8_spread_15 (by decide) rfl (by omega) (by omega) (fun c15 => ?_) (fun c15 => ?_)
    · rw [show i = 1600 by omega] at hs ⊢
      exact k M1 hs
    · omega
  | d + 1, i, M1, h, hs => by
    refine ev_iload_n 12 dX8_spread_11 rfl rfl ?_
    refine ev_sipush 15 (nI 1600) dX8_spread_12 (by decide) rfl ?_
    refine ev_icmp_geN 18 31 dX8_spread_15 (by decide) rfl (by omega) (by omega) (fun c15 => ?_) (fun c15 => ?_)
    · omega
    · refine ev_aload_n 19 dX8_spread_18 rfl rfl ?_
      refine ev_getR 22 dX8_spread_19 rfl flX8_37 rfl rfl ?_
      refine ev_iload_n 23 dX8_spread_22 rfl rfl ?_
      refine ev_iconst 24 (-1) dX8_spread_23 (by decide) rfl ?_
      refine ev_iaS 25 dX8_spread_24 rfl (by omega) (by decide) rfl ?_
      refine ev_iincN 28 _ dX8_spread_25 rfl (by decide) rfl rfl rfl ?_
      refine ev_goto 11 dX8_spread_28 (by decide) ?_
      refine s_X8_spread_11 k d (i + 1) _ (by omega) ⟨fun q hq => by rw [mst_other _ _ _ hq]; exact hs.1 q hq, fun j hj => ?_⟩
      rw [mst_same, upd]
      by_cases e : j = i
      · rw [if_pos e]
      · rw [if_neg e]; exact hs.2 j (by omega)
theorem s_X8_spread {M : Mm} {n : Nat} {t : Nat} {sp : List Nat} (ht : TR (M 1) n) (hn0 : 0 < n) (hn : n ≤ 24) (hm : M 0 0 = nI n) (hpl : ∀ y, y < n → plOK (M 1) y) (ho : opsOK (M 1) n) (h6 : (dsF (M 1) n n).length ≤ 6) (h0 : ∀ x, x < n → h01 (M 1) x) (ht2 : t ≤ n) (hf : M 0 2 = pm t) (hsp : rowAt M 2 0 3 sp) (hnd : sp.Nodup) (hsb : ∀ y ∈ sp, y < 24) : Ct MSh mX8_spread [.ref 0] M (fun r M2 => r = none ∧ spQ M M2 n (dsF (M 1) n n) sp (rbfs (M 1) n (dsF (M 1) n n) 1600 0 [(stS (M 1) (dsF (M 1) n n) t, 0)])) := by
  have hdb : ∀ x ∈ dsF (M 1) n n, x < 24 := fun x hx => Nat.lt_of_lt_of_le (dsF_mem.mp hx).1 hn
  have h0d : ∀ x ∈ dsF (M 1) n n, h01 (M 1) x := fun x hx => h0 x (dsF_mem.mp hx).1
  obtain ⟨b0, hb0⟩ : ∃ b, b = stS (M 1) (dsF (M 1) n n) t := ⟨_, rfl⟩
  have hmk := mkN_lt (hdP (M 1) (dsF (M 1) n n)) (dsF (M 1) n n).length
  have h64 : 2 ^ (dsF (M 1) n n).length ≤ 2 ^ 6 := Nat.pow_le_pow_right (by omega) h6
  have hbg : b0 < 1600 := by rw [hb0]; unfold stS; omega
  have hback : cmH (M 1) (dsF (M 1) n n) (b0 / 25) (dsF (M 1) n n).length = M 1 := by
    rw [show b0 / 25 = mkN (hdP (M 1) (dsF (M 1) n n)) (dsF (M 1) n n).length from by rw [hb0]; unfold stS; omega]
    exact cmH_back h6 h0d _ (Nat.le_refl _)
  rw [← hb0]
  show Ev _ _ 0 [.ref 0, .null, .null, .null, .null] [] M _
  refine ev_aload_n 1 dX8_spread_0 rfl rfl ?_
  refine ev_cV0 4 dX8_spread_1 mlX8_178 moX8_findDoors rfl imX8_findDoors ⟨_, _, rfl, rfl, rfl⟩ (Nat.le_of_ble_eq_true rfl) (Nat.le_of_ble_eq_true rfl) rfl (s_X8_findDoors hn0 hn hm h6) ?_
  rintro r M1 ⟨rfl, d1, d2⟩
  have e1 : M1 1 = M 1 := d1.1 1 (by decide) (by decide)
  refine ev_aload_n 5 dX8_spread_4 rfl rfl ?_
  refine ev_cV0I (nI b0) M1 8 dX8_spread_5 mlX8_181 moX8_state rfl imX8_state ⟨_, _, rfl, rfl, rfl⟩ (Nat.le_of_ble_eq_true rfl) (Nat.le_of_ble_eq_true rfl) rfl (by have z := s_X8_state (t := t) d2 h6 hdb (fun x hx => by rw [e1]; exact h0d x hx) (by rw [d1.2 2 (by decide)]; exact hf); rwa [e1, ← hb0] at z) ?_
  refine ev_istore_n 9 _ dX8_spread_8 (by decide) rfl rfl rfl ?_
  refine ev_iconst 10 (nI 0) dX8_spread_9 (by decide) rfl ?_
  refine ev_istore_n 11 _ dX8_spread_10 (by decide) rfl rfl rfl ?_
  refine s_X8_spread_11 (M := M1) (fun M2 h2 => ?_) 1600 0 M1 (by omega) ⟨fun _ _ => rfl, fun j hj => by omega⟩
  refine ev_aload_n 32 dX8_spread_31 rfl rfl ?_
  refine ev_getR 35 dX8_spread_32 rfl flX8_37 rfl rfl ?_
  refine ev_iload_n 36 dX8_spread_35 rfl rfl ?_
  refine ev_iconst 37 (nI 0) dX8_spread_36 (by decide) rfl ?_
  refine ev_iaS 38 dX8_spread_37 rfl hbg (by decide) rfl ?_
  refine ev_aload_n 39 dX8_spread_38 rfl rfl ?_
  refine ev_getR 42 dX8_spread_39 rfl flX8_40 rfl rfl ?_
  refine ev_iconst 43 (nI 0) dX8_spread_42 (by decide) rfl ?_
  refine ev_iload_n 44 dX8_spread_43 rfl rfl ?_
  refine ev_iaS 45 dX8_spread_44 rfl (by decide) (by decide) rfl ?_
  refine ev_aload_n 46 dX8_spread_45 rfl rfl ?_
  refine ev_iconst 47 (nI 1) dX8_spread_46 (by decide) rfl ?_
  refine ev_putI 50 dX8_spread_47 rfl flX8_185 fiX8_17 rfl rfl ?_
  refine ev_iconst 51 (nI 0) dX8_spread_50 (by decide) rfl ?_
  refine ev_istore_n 52 _ dX8_spread_51 (by decide) rfl rfl rfl ?_
  refine s_X8_spread_52 ht hn0 hn hm hpl ho (fun a c h1 h2 h3 h4 => door_mem hn h2 h3 h1 h4) h6 hdb hnd hsb hbg hback (by rw [hf, hb0]; congr 1; unfold stS; omega) 1600 0 [(b0, 0)] _ _ _ (by omega) ⟨fun k a1 a2 a3 a4 a5 => by rw [mst_other _ _ _ (by omega), mst_other _ _ _ a5, mst_other _ _ _ a4, h2.1 k a4]; exact d1.1 k (by omega) a3, fun j a1 a2 a3 a4 a5 => by rw [mst_same, upd, if_neg a5, mst_other _ _ _ (by decide), mst_other _ _ _ (by decide), h2.1 0 (by decide)]; exact d1.2 j a4, ?_, ?_, ?_, ?_, ?_, ?_⟩
  · rw [mst_other _ _ _ (by decide), mst_other _ _ _ (by decide), mst_other _ _ _ (by decide), h2.1 1 (by decide), e1]; exact fun j _ => rfl
  · intro x hx
    rw [mst_other _ _ _ (by decide), mst_other _ _ _ (by decide), mst_other _ _ _ (by decide), h2.1 1 (by decide), e1]; exact h0d x hx
  · exact d2.of (by rw [mst_other _ _ _ (by decide), mst_other _ _ _ (by decide), mst_other _ _ _ (by decide), h2.1 9 (by decide)]) (by rw [mst_same, upd, if_neg (by decide), mst_other _ _ _ (by decide), mst_other _ _ _ (by decide), h2.1 0 (by decide)])
  · exact hsp.of (by rw [mst_other _ _ _ (by decide), mst_other _ _ _ (by decide), mst_other _ _ _ (by decide), h2.1 2 (by decide), d1.1 2 (by decide) (by decide)]) (by rw [mst_same, upd, if_neg (by decide), mst_other _ _ _ (by decide), mst_other _ _ _ (by decide), h2.1 0 (by decide), d1.2 3 (by decide)])
  · refine ⟨by rw [mst_same, upd, if_pos rfl]; rfl, by simp, fun i hi => ?_, fun s hs hns => ?_⟩
    · have hi0 : i = 0 := by simp at hi; exact hi
      subst hi0
      refine ⟨?_, hbg, ?_, show (0 : Nat) < 2 ^ 30 by omega⟩
      · rw [mst_other _ _ _ (by decide), mst_same, upd, if_pos rfl]; rfl
      · show mst (mst (mst M2 10 b0 (nI 0)) 11 0 (nI b0)) 0 17 (nI 1) 10 b0 = nI 0
        rw [mst_other _ _ _ (by decide), mst_other _ _ _ (by decide), mst_same, upd, if_pos rfl]
    · have hne : s ≠ b0 := fun e => hns (by simp [e])
      rw [mst_other _ _ _ (by decide), mst_other _ _ _ (by decide), mst_same, upd, if_neg hne]
      exact h2.2 s hs
  · refine ⟨by simp, fun i hi => ?_⟩
    have hi0 : i = 0 := by simp at hi; exact hi
    subst hi0
    exact ⟨show b0 % 25 ≤ n by rw [hb0]; unfold stS; omega, Nat.le_refl _⟩
