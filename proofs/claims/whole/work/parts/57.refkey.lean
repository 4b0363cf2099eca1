section
/-! the reference's key -/
abbrev hh01 (h : Nat → Int32) (x : Nat) : Prop := h01 h x
theorem s_X8_key_51 {M : Mm} {n t : Nat} {sp : List Nat} (g : GS (M 1, n, t, sp)) (hR : RS M (M 1, n, t, sp)) {a i : Nat} {L : Int32} {Q : Pst} (hi : i < 3) (hdl : rowAt M 9 0 14 (dsF (M 1) n n)) (kk : ∀ M4, M4 1 = M 1 → RS M4 (M 1, n, t, sp) → rowAt M4 9 0 14 (dsF (M 1) n n) → Ev MSh mX8_key 39 [.ref 0, .int (nI a), .int L, .int (nI (s0F (M 1) n t)), .int (if lst (nxF (M 1) n) a (nxF (M 1) n i (s0F (M 1) n t)) = L - nI 1 then nI i else -1), .int (nI (i + 1))] [] M4 Q) : Ev MSh mX8_key 51 [.ref 0, .int (nI a), .int L, .int (nI (s0F (M 1) n t)), .int (-1), .int (nI i)] [] M Q := by
  have hn0 : 0 < n := g.1.1.1
  have hn : n ≤ 24 := g.1.1.2
  have ht : TR (M 1) n := g.1.2.1
  have hlab : ∀ a, a < n → labOK (M 1) n a := g.1.2.2.1
  have hpl : ∀ y, y < n → plOK (M 1) y := g.1.2.2.2.1
  have hco : ∀ a, a < n → colOK (M 1) a := g.1.2.2.2.2.1
  have h01 : ∀ x, x < n → h01 (M 1) x := g.1.2.2.2.2.2.1
  have ho : opsOK (M 1) n := g.1.2.2.2.2.2.2.1
  have hz : ∀ j, n * 18 ≤ j → M 1 j = 0 := g.1.2.2.2.2.2.2.2
  have h6 : (dsF (M 1) n n).length ≤ 6 := g.2.1
  have ht2 : t ≤ n := g.2.2.1
  have hfs : ∀ a, t = a + 1 → shwn (M 1) a = true := g.2.2.2.1
  have hnd : sp.Nodup := g.2.2.2.2.1
  have hsb : ∀ y ∈ sp, y < 24 := g.2.2.2.2.2
  have hm : M 0 0 = nI n := hR.2.1
  have hf : M 0 2 = pm t := hR.2.2.1
  have hsp : rowAt M 2 0 3 sp := hR.2.2.2
  obtain ⟨z1, z2, z3, zv, z16⟩ := s0_ok hn h6 h01 ht2 hfs
  have hdo : ∀ a c, a < n → 0 < c → c < n → M 1 (a * 18 + 7) = nI c → c ∈ dsF (M 1) n n := fun a c h1 h2 h3 h4 => door_mem hn h2 h3 h1 h4
  have hb24 : ∀ x ∈ dsF (M 1) n n, x < 24 := fun x hx => by have := (dsF_mem.mp hx).1; omega
  refine ev_aload_n 52 dX8_key_51 rfl rfl ?_
  refine ev_iload 54 dX8_key_52 rfl rfl ?_
  refine ev_iconst 55 (nI 0) dX8_key_54 (by decide) rfl ?_
  refine ev_cV2 58 dX8_key_55 mlX8_171 moX8_pressed rfl imX8_pressed ⟨_, _, rfl, rfl, rfl⟩ (Nat.le_of_ble_eq_true rfl) (Nat.le_of_ble_eq_true rfl) rfl (s_X8_pressed_any (M := M) (key := i) ht hn0 hn hm hpl ho ht2 hf hi hsp hnd hsb) ?_
  rintro r M2 ⟨rfl, p1, p2, p3, p4⟩
  obtain ⟨q1, q2, q3⟩ := pkS_ok (h := M 1) (h1 := M 1) (key := i) (dl := dsF (M 1) n n) ht hn0 hn ho hdo (fun _ _ => rfl) (h01_of h01) ht2
  rw [← p2] at q2 q3
  have eds : dsF (M2 1) n n = dsF (M 1) n n := te_ds q2.te n n
  have hm2 : M2 0 0 = nI n := by rw [p1.2 0 (by decide) (by decide) (by decide)]; exact hm
  have h012 : ∀ x, x < n → hh01 (M2 1) x := fun x hx => by
    by_cases c : x ∈ dsF (M 1) n n
    · exact q3 x c
    · have z : M 1 (x * 18 + 5) = nI 0 ∨ M 1 (x * 18 + 5) = nI 1 := h01 x hx
      show M2 1 (x * 18 + 5) = nI 0 ∨ M2 1 (x * 18 + 5) = nI 1
      rw [q2 _ (fun y hy e => c (by rw [show x = y by omega]; exact hy))]
      exact z
  refine ev_aload_n 59 dX8_key_58 rfl rfl ?_
  refine ev_cV0 62 dX8_key_59 mlX8_191 moX8_spread rfl imX8_spread ⟨_, _, rfl, rfl, rfl⟩ (Nat.le_of_ble_eq_true rfl) (Nat.le_of_ble_eq_true rfl) rfl (s_X8_spread (M := M2) (t := (pkS (M 1) n i t).2) (q2.tr ht) hn0 hn hm2 (fun y hy => q2.pl (hpl y hy)) (q2.ops ho) (by rw [eds]; exact h6) h012 q1 p3 p4 hnd hsb) ?_
  rintro r M3 ⟨rfl, h3⟩
  have est : stS (M2 1) (dsF (M 1) n n) (pkS (M 1) n i t).2 = nxF (M 1) n i (s0F (M 1) n t) := by
    rw [nxF, nxR, z3, z2, p2]
  have hvn : VS (M 1) n (dsF (M 1) n n) (nxF (M 1) n i (s0F (M 1) n t)) := (vs_clsd ht hn0 hn ho h6 (s0F (M 1) n t) i zv hi).1
  rw [eds, est, rbfs_cg q2, rb_eq ht hn0 hn ho h6 hvn] at h3
  refine ev_aload_n 63 dX8_key_62 rfl rfl ?_
  refine ev_iload_n 64 dX8_key_63 rfl rfl ?_
  refine ev_cV1I (lst (nxF (M 1) n) a (nxF (M 1) n i (s0F (M 1) n t))) M3 67 dX8_key_64 mlX8_194 moX8_leastTo rfl imX8_leastTo ⟨_, _, rfl, rfl, rfl⟩ (Nat.le_of_ble_eq_true rfl) (Nat.le_of_ble_eq_true rfl) rfl (by have z := s_X8_leastTo h3.2.2.2.2.2.1 (nI a); rw [List.length_map] at z; exact z) ?_
  refine ev_iload_n 68 dX8_key_67 rfl rfl ?_
  refine ev_iconst 69 (nI 1) dX8_key_68 (by decide) rfl ?_
  refine ev_isub 70 dX8_key_69 rfl ?_
  refine ev_icmp_ne 73 78 dX8_key_70 (by decide) rfl (fun c70 => ?_) (fun c70 => ?_)
  · refine ev_iconst 79 (-1) dX8_key_78 (by decide) rfl ?_
    refine ev_istore 81 _ dX8_key_79 (by decide) rfl rfl rfl ?_
    refine ev_aload_n 82 dX8_key_81 rfl rfl ?_
    refine ev_iload_n 83 dX8_key_82 rfl rfl ?_
    refine ev_cV1 86 dX8_key_83 mlX8_188 moX8_come rfl imX8_come ⟨_, _, rfl, rfl, rfl⟩ (Nat.le_of_ble_eq_true rfl) (Nat.le_of_ble_eq_true rfl) rfl (s_X8_come (M := M3) (dl := dsF (M 1) n n) h3.2.2.2.1 h6 hb24 z16) ?_
    rintro r M4 ⟨rfl, m1, m2, m3, m4⟩
    have e41 : M4 1 = M 1 := by rw [m1, h3.2.2.1, cmH_eq q2, z3]
    have k := kk M4 e41 ⟨e41, by show M4 0 0 = _; rw [m3 0 (by decide), h3.2.1 0 (by decide) (by decide) (by decide) (by decide)]; exact hm2, by show M4 0 2 = _; rw [m4, z2], h3.2.2.2.2.1.of (m2 2 (by decide) (by decide)) (m3 3 (by decide))⟩ (h3.2.2.2.1.of (m2 9 (by decide) (by decide)) (m3 14 (by decide)))
    refine ev_iincN 89 _ dX8_key_86 rfl (by decide) rfl rfl rfl ?_
    refine ev_goto 39 dX8_key_89 (by decide) ?_
    rw [if_neg c70] at k
    exact k
  · refine ev_iload 75 dX8_key_73 rfl rfl ?_
    refine ev_goto 79 dX8_key_75 (by decide) ?_
    refine ev_istore 81 _ dX8_key_79 (by decide) rfl rfl rfl ?_
    refine ev_aload_n 82 dX8_key_81 rfl rfl ?_
    refine ev_iload_n 83 dX8_key_82 rfl rfl ?_
    refine ev_cV1 86 dX8_key_83 mlX8_188 moX8_come rfl imX8_come ⟨_, _, rfl, rfl, rfl⟩ (Nat.le_of_ble_eq_true rfl) (Nat.le_of_ble_eq_true rfl) rfl (s_X8_come (M := M3) (dl := dsF (M 1) n n) h3.2.2.2.1 h6 hb24 z16) ?_
    rintro r M4 ⟨rfl, m1, m2, m3, m4⟩
    have e41 : M4 1 = M 1 := by rw [m1, h3.2.2.1, cmH_eq q2, z3]
    have k := kk M4 e41 ⟨e41, by show M4 0 0 = _; rw [m3 0 (by decide), h3.2.1 0 (by decide) (by decide) (by decide) (by decide)]; exact hm2, by show M4 0 2 = _; rw [m4, z2], h3.2.2.2.2.1.of (m2 2 (by decide) (by decide)) (m3 3 (by decide))⟩ (h3.2.2.2.1.of (m2 9 (by decide) (by decide)) (m3 14 (by decide)))
    refine ev_iincN 89 _ dX8_key_86 rfl (by decide) rfl rfl rfl ?_
    refine ev_goto 39 dX8_key_89 (by decide) ?_
    rw [if_pos c70] at k
    exact k
theorem s_X8_key_39y {M : Mm} {x L b : Int32} {f i : Nat} {Q : Pst} (hf : f < 3) (hi : i ≤ 3) (hQ : Q (some (.int (nI f))) M) : Ev MSh mX8_key 39 [.ref 0, .int x, .int L, .int b, .int (nI f), .int (nI i)] [] M Q := by
  refine ev_iload 41 dX8_key_39 rfl rfl ?_
  refine ev_iconst 42 (nI 3) dX8_key_41 (by decide) rfl ?_
  refine ev_icmp_geN 45 92 dX8_key_42 (by decide) rfl (by omega) (by omega) (fun c42 => ?_) (fun c42 => ?_)
  · refine ev_iload 94 dX8_key_92 rfl rfl ?_
    exact ev_iret dX8_key_94 rfl (hQ)
  · refine ev_iload 47 dX8_key_45 rfl rfl ?_
    refine ev_iconst 48 (-1) dX8_key_47 (by decide) rfl ?_
    refine ev_icmp_ne 51 92 dX8_key_48 (by decide) rfl (fun c48 => ?_) (fun c48 => ?_)
    · refine ev_iload 94 dX8_key_92 rfl rfl ?_
      exact ev_iret dX8_key_94 rfl (hQ)
    · exact absurd c48 (nI_m1 (by omega))
theorem s_X8_key_39 {M : Mm} {n t a : Nat} {sp : List Nat} {L : Int32} (g : GS (M 1, n, t, sp)) (hR : RS M (M 1, n, t, sp)) (h1 : ¬ L < nI 1) (hdl : rowAt M 9 0 14 (dsF (M 1) n n)) : ∀ d i, i + d = 3 → (∀ k, k < i → ¬ lst (nxF (M 1) n) a (nxF (M 1) n k (s0F (M 1) n t)) = L - nI 1) → Ev MSh mX8_key 39 [.ref 0, .int (nI a), .int L, .int (nI (s0F (M 1) n t)), .int (-1), .int (nI i)] [] M (PS (kyF L (fun k => lst (nxF (M 1) n) a (nxF (M 1) n k (s0F (M 1) n t))), (M 1, n, t, sp)))
  | 0, i, h, hk => by
    refine ev_iload 41 dX8_key_39 rfl rfl ?_
    refine ev_iconst 42 (nI 3) dX8_key_41 (by decide) rfl ?_
    refine ev_icmp_geN 45 92 dX8_key_42 (by decide) rfl (by omega) (by omega) (fun c42 => ?_) (fun c42 => ?_)
    · refine ev_iload 94 dX8_key_92 rfl rfl ?_
      exact ev_iret dX8_key_94 rfl (ps_of (by rw [kyF, if_neg h1, if_neg (hk 0 (by omega)), if_neg (hk 1 (by omega)), if_neg (hk 2 (by omega))]) hR)
    · omega
  | d + 1, i, h, hk => by
    refine ev_iload 41 dX8_key_39 rfl rfl ?_
    refine ev_iconst 42 (nI 3) dX8_key_41 (by decide) rfl ?_
    refine ev_icmp_geN 45 92 dX8_key_42 (by decide) rfl (by omega) (by omega) (fun c42 => ?_) (fun c42 => ?_)
    · omega
    · refine ev_iload 47 dX8_key_45 rfl rfl ?_
      refine ev_iconst 48 (-1) dX8_key_47 (by decide) rfl ?_
      refine ev_icmp_ne 51 92 dX8_key_48 (by decide) rfl (fun c48 => ?_) (fun c48 => ?_)
      · exact absurd rfl c48
      · refine s_X8_key_51 g hR (show i < 3 by omega) hdl (fun M4 e4 hR4 hdl4 => ?_)
        by_cases c : lst (nxF (M 1) n) a (nxF (M 1) n i (s0F (M 1) n t)) = L - nI 1
        · rw [if_pos c]
          refine s_X8_key_39y (by omega) (by omega) ?_
          exact ps_of (by rw [kyF_at (f := i) h1 (by omega) c hk]) hR4
        · rw [if_neg c]
          have g4 : GS (M4 1, n, t, sp) := by rw [e4]; exact g
          have r4 : RS M4 (M4 1, n, t, sp) := by rw [e4]; exact hR4
          have z := s_X8_key_39 (a := a) (L := L) g4 r4 h1 (by rw [e4]; exact hdl4) d (i + 1) (by omega) (fun k hk2 => by
            rw [e4]
            by_cases q : k = i
            · rw [q]; exact c
            · exact hk k (by omega))
          rw [e4] at z
          exact z
theorem i_ge {x y : Int32} (h : y ≤ x) : ¬ x < y := fun z => by
  rw [fa_le] at h
  rw [fa_lt] at z
  omega
theorem i_nge {x y : Int32} (h : ¬ y ≤ x) : x < y := by
  rw [fa_le] at h
  rw [fa_lt]
  omega
theorem r_key {M : Mm} {n t : Nat} {sp : List Nat} (g : GS (M 1, n, t, sp)) (hR : RS M (M 1, n, t, sp)) (x : Int32) : Ct MSh mX8_key [.ref 0, .int x] M (PS (spKey (M 1) n t x, (M 1, n, t, sp))) := by
  have hn0 : 0 < n := g.1.1.1
  have hn : n ≤ 24 := g.1.1.2
  have ht : TR (M 1) n := g.1.2.1
  have hlab : ∀ a, a < n → labOK (M 1) n a := g.1.2.2.1
  have hpl : ∀ y, y < n → plOK (M 1) y := g.1.2.2.2.1
  have hco : ∀ a, a < n → colOK (M 1) a := g.1.2.2.2.2.1
  have h01 : ∀ x, x < n → h01 (M 1) x := g.1.2.2.2.2.2.1
  have ho : opsOK (M 1) n := g.1.2.2.2.2.2.2.1
  have hz : ∀ j, n * 18 ≤ j → M 1 j = 0 := g.1.2.2.2.2.2.2.2
  have h6 : (dsF (M 1) n n).length ≤ 6 := g.2.1
  have ht2 : t ≤ n := g.2.2.1
  have hfs : ∀ a, t = a + 1 → shwn (M 1) a = true := g.2.2.2.1
  have hnd : sp.Nodup := g.2.2.2.2.1
  have hsb : ∀ y ∈ sp, y < 24 := g.2.2.2.2.2
  have hm : M 0 0 = nI n := hR.2.1
  have hf : M 0 2 = pm t := hR.2.2.1
  have hsp : rowAt M 2 0 3 sp := hR.2.2.2
  show Ev _ _ 0 [.ref 0, .int x, .null, .null, .null, .null] [] M _
  refine ev_aload_n 1 dX8_key_0 rfl rfl ?_
  refine ev_iload_n 2 dX8_key_1 rfl rfl ?_
  refine ev_cV1I _ M 5 dX8_key_2 mlX8_68 moX8_isPart rfl imX8_isPart ⟨_, _, rfl, rfl, rfl⟩ (Nat.le_of_ble_eq_true rfl) (Nat.le_of_ble_eq_true rfl) rfl (s_X8_isPart hn0 hn hm x) ?_
  refine ev_if_neB 8 11 dX8_key_5 (by decide) rfl (fun c5 => ?_) (fun c5 => ?_)
  · obtain ⟨a, ha, rfl⟩ := inB_of c5 (by omega)
    refine ev_aload_n 12 dX8_key_11 rfl rfl ?_
    refine ev_cV0 15 dX8_key_12 mlX8_191 moX8_spread rfl imX8_spread ⟨_, _, rfl, rfl, rfl⟩ (Nat.le_of_ble_eq_true rfl) (Nat.le_of_ble_eq_true rfl) rfl (s_X8_spread ht hn0 hn hm hpl ho h6 h01 ht2 hf hsp hnd hsb) ?_
    rintro r M2 ⟨rfl, h2⟩
    obtain ⟨z1, z2, z3, zv, z16⟩ := s0_ok hn h6 h01 ht2 hfs
    rw [show stS (M 1) (dsF (M 1) n n) t = s0F (M 1) n t from rfl, rb_eq ht hn0 hn ho h6 zv] at h2
    have hR2 := spQ_rs hm hf h2
    refine ev_aload_n 16 dX8_key_15 rfl rfl ?_
    refine ev_iload_n 17 dX8_key_16 rfl rfl ?_
    refine ev_cV1I (lst (nxF (M 1) n) a (s0F (M 1) n t)) M2 20 dX8_key_17 mlX8_194 moX8_leastTo rfl imX8_leastTo ⟨_, _, rfl, rfl, rfl⟩ (Nat.le_of_ble_eq_true rfl) (Nat.le_of_ble_eq_true rfl) rfl (by have z := s_X8_leastTo h2.2.2.2.2.2.1 (nI a); rw [List.length_map] at z; exact z) ?_
    refine ev_istore_n 21 _ dX8_key_20 (by decide) rfl rfl rfl ?_
    refine ev_iload_n 22 dX8_key_21 rfl rfl ?_
    refine ev_iconst 23 (nI 1) dX8_key_22 (by decide) rfl ?_
    refine ev_icmp_ge 26 28 dX8_key_23 (by decide) rfl (fun c23 => ?_) (fun c23 => ?_)
    · refine ev_aload_n 29 dX8_key_28 rfl rfl ?_
      refine ev_cV0I (nI (s0F (M 1) n t)) M2 32 dX8_key_29 mlX8_181 moX8_state rfl imX8_state ⟨_, _, rfl, rfl, rfl⟩ (Nat.le_of_ble_eq_true rfl) (Nat.le_of_ble_eq_true rfl) rfl (by have z := s_X8_state (M := M2) (t := t) h2.2.2.2.1 h6 (fun x hx => by have := (dsF_mem.mp hx).1; omega) (by rw [h2.2.2.1]; exact h01_of h01) hR2.2.2.1; rw [h2.2.2.1] at z; exact z) ?_
      refine ev_istore_n 33 _ dX8_key_32 (by decide) rfl rfl rfl ?_
      refine ev_iconst 34 (-1) dX8_key_33 (by decide) rfl ?_
      refine ev_istore 36 _ dX8_key_34 (by decide) rfl rfl rfl ?_
      refine ev_iconst 37 (nI 0) dX8_key_36 (by decide) rfl ?_
      refine ev_istore 39 _ dX8_key_37 (by decide) rfl rfl rfl ?_
      have g2 : GS (M2 1, n, t, sp) := by rw [h2.2.2.1]; exact g
      have r2 : RS M2 (M2 1, n, t, sp) := by rw [h2.2.2.1]; exact hR2
      have z := s_X8_key_39 (a := a) (L := lst (nxF (M 1) n) a (s0F (M 1) n t)) g2 r2 (fun z => absurd z (i_ge c23)) (by rw [h2.2.2.1]; exact h2.2.2.2.1) 3 0 (by omega) (fun k hk => absurd hk (Nat.not_lt_zero _))
      rw [h2.2.2.1] at z
      rw [spKey, if_neg (by rw [c5]; decide), nI_clamp (show a < 2 ^ 31 by omega)]
      exact z
    · refine ev_iconst 27 (-1) dX8_key_26 (by decide) rfl ?_
      exact ev_iret dX8_key_27 rfl (ps_of (by rw [spKey, if_neg (by rw [c5]; decide), nI_clamp (show a < 2 ^ 31 by omega), kyF, if_pos (i_nge c23)]) hR2)
  · refine ev_bipush 10 (-101) dX8_key_8 (by decide) rfl ?_
    exact ev_iret dX8_key_10 rfl (ps_of (by rw [spKey, if_pos c5]) hR)
end
