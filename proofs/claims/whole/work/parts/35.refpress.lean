/-! the reference: pressed, doors, state, come -/
def SmF (M M1 : Mm) : Prop := (∀ k, k ≠ 0 → k ≠ 3 → k ≠ 4 → k ≠ 8 → M1 k = M k) ∧ ∀ j, j ≠ 2 → j ≠ 12 → M1 0 j = M 0 j
def ixF (l : List Nat) (x : Int32) : Nat → Nat
  | 0 => l.length
  | d + 1 => if nI (nth l (l.length - (d + 1))) = x then l.length - (d + 1) else ixF l x d
theorem ixF_le (l : List Nat) (x : Int32) : ∀ d, ixF l x d ≤ l.length
  | 0 => Nat.le_refl _
  | d + 1 => by
    rw [ixF]
    split
    · omega
    · exact ixF_le l x d
def nxtI (l : List Nat) (key at0 : Nat) : Nat := if at0 = l.length then (if key = 0 then 0 else l.length - 1) else (if key = 0 then (at0 + 1) % l.length else (at0 + l.length - 1) % l.length)
def nxtT (l : List Nat) (key t : Nat) : Nat := if l.length = 0 then t else nth l (nxtI l key (ixF l (pm t) l.length)) + 1
def stpF (h : Nat → Int32) (n t : Nat) : List Nat := stpL h (trS h t) (ordF h n)

theorem s_X8_pressed_102 {M : Mm} {l : List Nat} {x : Int32} (hl : rowAt M 8 0 12 l) (hf : M 0 2 = x) (a b : Int32) {Q : Pst} : ∀ d i, i + d = l.length → Ev MSh mX8_pressed 129 [.ref 0, .int a, .int b, .int (nI (ixF l x d))] [] M Q → Ev MSh mX8_pressed 102 [.ref 0, .int a, .int b, .int (nI i)] [] M Q
  | 0, i, h, k => by
    have hle := hl.2.1
    rw [ixF] at k
    refine ev_iload_n 103 dX8_pressed_102 rfl rfl ?_
    refine ev_aload_n 104 dX8_pressed_103 rfl rfl ?_
    refine ev_getIv 107 (nI l.length) dX8_pressed_104 rfl flX8_156 rfl rfl hl.1 ?_
    refine ev_icmp_geN 110 129 dX8_pressed_107 (by decide) rfl (by omega) (by omega) (fun c107 => ?_) (fun c107 => ?_)
    · rw [show i = l.length by omega]
      exact k
    · omega
  | d + 1, i, h, k => by
    have hle := hl.2.1
    refine ev_iload_n 103 dX8_pressed_102 rfl rfl ?_
    refine ev_aload_n 104 dX8_pressed_103 rfl rfl ?_
    refine ev_getIv 107 (nI l.length) dX8_pressed_104 rfl flX8_156 rfl rfl hl.1 ?_
    refine ev_icmp_geN 110 129 dX8_pressed_107 (by decide) rfl (by omega) (by omega) (fun c107 => ?_) (fun c107 => ?_)
    · omega
    · refine ev_aload_n 111 dX8_pressed_110 rfl rfl ?_
      refine ev_getR 114 dX8_pressed_111 rfl flX8_31 rfl rfl ?_
      refine ev_iload_n 115 dX8_pressed_114 rfl rfl ?_
      refine ev_iaN 116 (nI (nth l i)) dX8_pressed_115 rfl (by omega) (by decide) rfl (hl.2.2 i (by omega)) ?_
      refine ev_aload_n 117 dX8_pressed_116 rfl rfl ?_
      refine ev_getIv 120 x dX8_pressed_117 rfl flX8_49 rfl rfl hf ?_
      refine ev_icmp_eq 123 129 dX8_pressed_120 (by decide) rfl (fun c120 => ?_) (fun c120 => ?_)
      · rw [ixF, show l.length - (d + 1) = i by omega, if_pos c120] at k
        exact k
      · refine ev_iincN 126 _ dX8_pressed_123 rfl (by decide) rfl rfl rfl ?_
        refine ev_goto 102 dX8_pressed_126 (by decide) ?_
        refine s_X8_pressed_102 hl hf a b d (i + 1) (by omega) ?_
        rw [ixF, show l.length - (d + 1) = i by omega, if_neg c120] at k
        exact k
theorem nxtI_lt {l : List Nat} {key at0 : Nat} (h0 : 0 < l.length) (ha : at0 ≤ l.length) : nxtI l key at0 < l.length := by
  unfold nxtI
  split
  · split <;> omega
  · split
    · exact Nat.mod_lt _ h0
    · exact Nat.mod_lt _ h0
theorem s_X8_pressed_129 {M : Mm} {l : List Nat} {key at0 : Nat} {b : Int32} {Q : Pst} (hl : rowAt M 8 0 12 l) (h0 : 0 < l.length) (ha : at0 ≤ l.length) (hk : key < 2) (hq : Q none (mst M 0 2 (nI (nth l (nxtI l key at0))))) : Ev MSh mX8_pressed 129 [.ref 0, .int (nI key), .int b, .int (nI at0)] [] M Q := by
  have hle := hl.2.1
  have hj := nxtI_lt (key := key) h0 ha
  refine ev_iload_n 130 dX8_pressed_129 rfl rfl ?_
  refine ev_aload_n 131 dX8_pressed_130 rfl rfl ?_
  refine ev_getIv 134 (nI l.length) dX8_pressed_131 rfl flX8_156 rfl rfl hl.1 ?_
  refine ev_icmp_neN 137 168 dX8_pressed_134 (by decide) rfl (by omega) (by omega) (fun c134 => ?_) (fun c134 => ?_)
  · refine ev_aload_n 169 dX8_pressed_168 rfl rfl ?_
    refine ev_iload_n 170 dX8_pressed_169 rfl rfl ?_
    refine ev_if_neN 173 189 dX8_pressed_170 (by decide) rfl (by omega) (fun c170 => ?_) (fun c170 => ?_)
    · refine ev_aload_n 190 dX8_pressed_189 rfl rfl ?_
      refine ev_getR 193 dX8_pressed_190 rfl flX8_31 rfl rfl ?_
      refine ev_iload_n 194 dX8_pressed_193 rfl rfl ?_
      refine ev_aload_n 195 dX8_pressed_194 rfl rfl ?_
      refine ev_getIv 198 (nI l.length) dX8_pressed_195 rfl flX8_156 rfl rfl hl.1 ?_
      refine ev_iaddN 199 dX8_pressed_198 rfl ?_
      refine ev_iconst 200 (nI 1) dX8_pressed_199 (by decide) rfl ?_
      refine ev_isubN 201 dX8_pressed_200 (by omega) rfl ?_
      refine ev_aload_n 202 dX8_pressed_201 rfl rfl ?_
      refine ev_getIv 205 (nI l.length) dX8_pressed_202 rfl flX8_156 rfl rfl hl.1 ?_
      refine ev_irem 206 dX8_pressed_205 (nI_ne0 (by omega) (by omega)) rfl ?_
      refine ev_eqI (show _ = nI (nxtI l key at0) from by rw [pk_rem (by omega) (by omega) (by omega), nxtI, if_neg c134, if_neg c170]) ?_
      refine ev_iaN 207 (nI (nth l (nxtI l key at0))) dX8_pressed_206 rfl (by omega) (by decide) rfl (hl.2.2 _ hj) ?_
      refine ev_putI 210 dX8_pressed_207 rfl flX8_49 fiX8_2 rfl rfl ?_
      exact ev_vret dX8_pressed_210 rfl (hq)
    · refine ev_aload_n 174 dX8_pressed_173 rfl rfl ?_
      refine ev_getR 177 dX8_pressed_174 rfl flX8_31 rfl rfl ?_
      refine ev_iload_n 178 dX8_pressed_177 rfl rfl ?_
      refine ev_iconst 179 (nI 1) dX8_pressed_178 (by decide) rfl ?_
      refine ev_iaddN 180 dX8_pressed_179 rfl ?_
      refine ev_aload_n 181 dX8_pressed_180 rfl rfl ?_
      refine ev_getIv 184 (nI l.length) dX8_pressed_181 rfl flX8_156 rfl rfl hl.1 ?_
      refine ev_irem 185 dX8_pressed_184 (nI_ne0 (by omega) (by omega)) rfl ?_
      refine ev_eqI (show _ = nI (nxtI l key at0) from by rw [pk_rem (by omega) (by omega) (by omega), nxtI, if_neg c134, if_pos c170]) ?_
      refine ev_iaN 186 (nI (nth l (nxtI l key at0))) dX8_pressed_185 rfl (by omega) (by decide) rfl (hl.2.2 _ hj) ?_
      refine ev_goto 207 dX8_pressed_186 (by decide) ?_
      refine ev_putI 210 dX8_pressed_207 rfl flX8_49 fiX8_2 rfl rfl ?_
      exact ev_vret dX8_pressed_210 rfl (hq)
  · refine ev_aload_n 138 dX8_pressed_137 rfl rfl ?_
    refine ev_iload_n 139 dX8_pressed_138 rfl rfl ?_
    refine ev_if_neN 142 151 dX8_pressed_139 (by decide) rfl (by omega) (fun c139 => ?_) (fun c139 => ?_)
    · refine ev_aload_n 152 dX8_pressed_151 rfl rfl ?_
      refine ev_getR 155 dX8_pressed_152 rfl flX8_31 rfl rfl ?_
      refine ev_aload_n 156 dX8_pressed_155 rfl rfl ?_
      refine ev_getIv 159 (nI l.length) dX8_pressed_156 rfl flX8_156 rfl rfl hl.1 ?_
      refine ev_iconst 160 (nI 1) dX8_pressed_159 (by decide) rfl ?_
      refine ev_isubN 161 dX8_pressed_160 (by omega) rfl ?_
      refine ev_eqI (show nI (l.length - 1) = nI (nxtI l key at0) from by rw [nxtI, if_pos c134, if_neg c139]) ?_
      refine ev_iaN 162 (nI (nth l (nxtI l key at0))) dX8_pressed_161 rfl (by omega) (by decide) rfl (hl.2.2 _ hj) ?_
      refine ev_putI 165 dX8_pressed_162 rfl flX8_49 fiX8_2 rfl rfl ?_
      refine ev_goto 210 dX8_pressed_165 (by decide) ?_
      exact ev_vret dX8_pressed_210 rfl (hq)
    · refine ev_aload_n 143 dX8_pressed_142 rfl rfl ?_
      refine ev_getR 146 dX8_pressed_143 rfl flX8_31 rfl rfl ?_
      refine ev_iconst 147 (nI 0) dX8_pressed_146 (by decide) rfl ?_
      refine ev_eqI (show nI 0 = nI (nxtI l key at0) from by rw [nxtI, if_pos c134, if_pos c139]) ?_
      refine ev_iaN 148 (nI (nth l (nxtI l key at0))) dX8_pressed_147 rfl (by omega) (by decide) rfl (hl.2.2 _ hj) ?_
      refine ev_goto 162 dX8_pressed_148 (by decide) ?_
      refine ev_putI 165 dX8_pressed_162 rfl flX8_49 fiX8_2 rfl rfl ?_
      refine ev_goto 210 dX8_pressed_165 (by decide) ?_
      exact ev_vret dX8_pressed_210 rfl (hq)
theorem s_X8_pressed_01 {M : Mm} {n t key : Nat} {b : Int32} (ht : TR (M 1) n) (hn0 : 0 < n) (hn : n ≤ 24) (hm : M 0 0 = nI n) (hpl : ∀ y, y < n → plOK (M 1) y) (ht2 : t ≤ n) (hf : M 0 2 = pm t) (hk : key < 2) : Ct MSh mX8_pressed [.ref 0, .int (nI key), .int b] M (fun r M2 => r = none ∧ SmF M M2 ∧ M2 0 2 = pm (nxtT (stpF (M 1) n t) key t)) := by
  have htr : ∀ x, trS (M 1) t = some x → x < 24 := fun x hx => by
    cases t with
    | zero => cases hx
    | succ a => have := chain_lt _ _ _ (inm_mem hx); omega
  show Ev _ _ 0 [.ref 0, .int (nI key), .int b, .null] [] M _
  refine ev_iload_n 1 dX8_pressed_0 rfl rfl ?_
  refine ev_iconst 2 (nI 2) dX8_pressed_1 (by decide) rfl ?_
  refine ev_icmp_neN 5 80 dX8_pressed_2 (by decide) rfl (by omega) (by omega) (fun c2 => ?_) (fun c2 => ?_)
  · refine ev_aload_n 81 dX8_pressed_80 rfl rfl ?_
    refine ev_aload_n 82 dX8_pressed_81 rfl rfl ?_
    refine ev_aload_n 83 dX8_pressed_82 rfl rfl ?_
    refine ev_getIv 86 (pm t) dX8_pressed_83 rfl flX8_49 rfl rfl hf ?_
    refine ev_cV1I _ M 89 dX8_pressed_86 mlX8_165 moX8_trapOf rfl imX8_trapOf ⟨_, _, rfl, rfl, rfl⟩ (Nat.le_of_ble_eq_true rfl) (Nat.le_of_ble_eq_true rfl) rfl (s_X8_trapOf ht hn t ht2) ?_
    refine ev_cV1 92 dX8_pressed_89 mlX8_162 moX8_findStops rfl imX8_findStops ⟨_, _, rfl, rfl, rfl⟩ (Nat.le_of_ble_eq_true rfl) (Nat.le_of_ble_eq_true rfl) rfl (s_X8_findStops ht hn0 hn hm hpl (trS (M 1) t) htr) ?_
    rintro r M1 ⟨rfl, hs, hr⟩
    have hr : rowAt M1 8 0 12 (stpF (M 1) n t) := hr
    have hf1 : M1 0 2 = pm t := by rw [hs.2 2 (by decide)]; exact hf
    have hle := hr.2.1
    refine ev_aload_n 93 dX8_pressed_92 rfl rfl ?_
    refine ev_getIv 96 (nI (stpF (M 1) n t).length) dX8_pressed_93 rfl flX8_156 rfl rfl hr.1 ?_
    refine ev_if_neN 99 100 dX8_pressed_96 (by decide) rfl (by omega) (fun c96 => ?_) (fun c96 => ?_)
    · refine ev_iconst 101 (nI 0) dX8_pressed_100 (by decide) rfl ?_
      refine ev_istore_n 102 _ dX8_pressed_101 (by decide) rfl rfl rfl ?_
      refine s_X8_pressed_102 hr hf1 _ _ (stpF (M 1) n t).length 0 (by omega) (s_X8_pressed_129 hr (by omega) (ixF_le _ _ _) hk ⟨rfl, ⟨fun k a b c d => by rw [mst_other _ _ _ a]; exact hs.1 k a b c d, fun j a b => by rw [mst_same, upd, if_neg a]; exact hs.2 j b⟩, ?_⟩)
      rw [mst_same, upd, if_pos rfl, nxtT, if_neg c96, pm_s]
    · exact ev_vret dX8_pressed_99 rfl (⟨rfl, ⟨hs.1, fun j a b => hs.2 j b⟩, by rw [nxtT, if_pos c96]; exact hf1⟩)
  · omega
