/-! the class: its rivers -/
def m_pc (w : Nat → Nat) (c : Nat) (wet : Prop) [Decidable wet] : Nat := if w (5 + c) = 0 then 0 else w (5 + c) + (if wet then 1 else 0)
def m_to (w : Nat → Nat) (kd c : Nat) (wet : Prop) [Decidable wet] : Nat := c + (if kd = 3 ∧ 1 < m_pc w c wet then m_pc w c wet - 1 else m_pc w c wet)
def m_b1 (w : Nat → Nat) (b c t : Nat) : Nat := if c ≤ w 1 ∧ w 1 < t then b / 2 else b
def m_b2 (kd b : Nat) : Nat := if kd = 2 ∧ 0 < b then b - 1 else b
def m_dr (w : Nat → Nat) (kd b c : Nat) (wet : Prop) [Decidable wet] : Nat × Nat := if w 2 ≤ m_to w kd c wet then (0, c) else (m_b2 kd (m_b1 w b c (m_to w kd c wet)), m_to w kd c wet)
def m_c1 (w : Nat → Nat) (b c : Nat) (wet : Prop) [Decidable wet] : Nat := if 0 < c ∧ ¬ (c = w 1 + 1 ∧ b < 20) ∧ m_pc w c wet ≤ 2 then c - 1 else c
def m_cl (w : Nat → Nat) (b : Nat) (wet : Prop) [Decidable wet] : Nat → Nat → Nat
  | 0, c => c
  | n + 1, c => m_cl w b wet n (m_c1 w b c wet)
def m_mv (w : Nat → Nat) (kd : Nat) (s : Nat × Nat) (t : Nat) (wet : Prop) [Decidable wet] : Nat × Nat := if s.1 = 0 then s else if 4 ≤ kd then (s.1, m_cl w s.1 wet (if kd = 5 ∧ t % 2 = 0 then 2 else 1) s.2) else m_dr w kd s.1 s.2 wet
def m_ab (kd : Nat) : Nat := if kd = 2 ∨ kd = 3 then 1 else if kd = 5 then 4 else 0
def RV (M : jm_M) (r : Nat) (w : Nat → Nat) : Prop := (M (32 + 4 * r) 0 = nI (w 2) ∧ M (32 + 4 * r) 1 = nI (w 3) ∧ M (32 + 4 * r) 2 = nI (w 1) ∧ M (32 + 4 * r) 3 = nI (w 0) ∧ M (32 + 4 * r) 4 = nI (w 4)) ∧ (∀ c, c < w 2 → M (33 + 4 * r) c = nI (w (5 + c))) ∧ (∀ a, a < w 3 → M (34 + 4 * r) a = nI (w (17 + 4 * a)) ∧ M (35 + 4 * r) a = nI (16 * w (17 + 4 * a + 1) + w (17 + 4 * a + 2)))
theorem m_or : ∀ b, b < 64 → ∀ c, c < 16 → (b * 2 ^ 4) ||| c = 16 * b + c := by decide +kernel
theorem m_c1_le (w : Nat → Nat) (b c : Nat) (wet : Prop) [Decidable wet] : m_c1 w b c wet ≤ c := by unfold m_c1; split <;> omega
theorem m_cl_le (w : Nat → Nat) (b : Nat) (wet : Prop) [Decidable wet] : ∀ n c, m_cl w b wet n c ≤ c
  | 0, c => Nat.le_refl _
  | n + 1, c => Nat.le_trans (m_cl_le w b wet n _) (m_c1_le w b c wet)
theorem m_pc_le (w : Nat → Nat) (c : Nat) (wet : Prop) [Decidable wet] : m_pc w c wet ≤ w (5 + c) + 1 := by
  unfold m_pc
  (repeat' split) <;> omega
theorem m_packed (M : jm_M) (b c : Nat) (hb : b < 64) (hc : c < 16) : jm_J none YX2_packed 0 [some (.int (nI b)), some (.int (nI c))] [] M (jm_is (some (.int (nI (16 * b + c)))) M) := by
  refine jm_ild_n (Y := YX2_packed) (pc := 0) (i := 0) dX2_packed_0 rfl rfl ?_
  refine jm_icN (Y := YX2_packed) (pc := 1) 4 dX2_packed_1 rfl ?_
  refine jm_shlN (Y := YX2_packed) (pc := 2) dX2_packed_2 (by decide) (by omega) ?_
  refine jm_ild_n (Y := YX2_packed) (pc := 3) (i := 1) dX2_packed_3 rfl rfl ?_
  refine jm_orN (Y := YX2_packed) (pc := 4) dX2_packed_4 ?_
  rw [m_or b hb c hc]
  refine jm_ret (Y := YX2_packed) (pc := 5) (st := []) dX2_packed_5 rfl rfl ?_
  exact ⟨rfl, rfl⟩
theorem m_sizeIn (M : jm_M) (b c : Nat) (hb : b < 64) (hc : c < 16) : jm_J none YX2_sizeIn 0 [some (.int (nI (16 * b + c)))] [] M (jm_is (some (.int (nI b))) M) := by
  refine jm_ild_n (Y := YX2_sizeIn) (pc := 0) (i := 0) dX2_sizeIn_0 rfl rfl ?_
  refine jm_icN (Y := YX2_sizeIn) (pc := 1) 4 dX2_sizeIn_1 rfl ?_
  refine jm_shrN (Y := YX2_sizeIn) (pc := 2) dX2_sizeIn_2 (by omega) (by decide) ?_
  refine jm_ret (Y := YX2_sizeIn) (pc := 3) (st := []) dX2_sizeIn_3 rfl rfl ?_
  exact jm_eqN (by omega)
theorem m_an : ∀ c, c < 1024 → nI c &&& nI 15 = nI (c % 16) := by decide +kernel
theorem m_cellIn (M : jm_M) (b c : Nat) (hb : b < 64) (hc : c < 16) : jm_J none YX2_cellIn 0 [some (.int (nI (16 * b + c)))] [] M (jm_is (some (.int (nI c))) M) := by
  refine jm_ild_n (Y := YX2_cellIn) (pc := 0) (i := 0) dX2_cellIn_0 rfl rfl ?_
  refine jm_bpN (Y := YX2_cellIn) (pc := 1) 15 dX2_cellIn_1 rfl ?_
  refine jm_iand (Y := YX2_cellIn) (pc := 3) dX2_cellIn_3 ?_
  rw [m_an _ (by omega)]
  refine jm_ret (Y := YX2_cellIn) (pc := 4) (st := []) dX2_cellIn_4 rfl rfl ?_
  exact jm_eqN (by omega)
theorem m_isGone (M : jm_M) (b c : Nat) (hb : b < 64) (hc : c < 16) : jm_J none YX2_isGone 0 [some (.int (nI (16 * b + c)))] [] M (jm_is (some (.int (jm_b (b = 0)))) M) := by
  refine jm_ild_n (Y := YX2_isGone) (pc := 0) (i := 0) dX2_isGone_0 rfl rfl ?_
  refine jm_S1ie (Y := YX2_isGone) (pc := 1) dX2_isGone_1 lk_RX2_37 ⟨_, rfl⟩ rfl (by decide) (Nat.le_of_ble_eq_true rfl) ⟨by decide, by decide⟩ (m_sizeIn _ _ _ (by omega) (by omega)) ?_
  refine jm_if_neN (Y := YX2_isGone) (pc := 4) dX2_isGone_4 rfl (by omega) (fun h_4 => ?_) (fun h_4 => ?_)
  · refine jm_icN (Y := YX2_isGone) (pc := 11) 0 dX2_isGone_11 rfl ?_
    refine jm_ret (Y := YX2_isGone) (pc := 12) (st := []) dX2_isGone_12 rfl rfl ?_
    first | exact jm_bf (by omega) | exact jm_bt (by omega) | fail
  · refine jm_icN (Y := YX2_isGone) (pc := 7) 1 dX2_isGone_7 rfl ?_
    refine jm_goto (Y := YX2_isGone) (pc := 8) dX2_isGone_8 rfl ?_
    refine jm_ret (Y := YX2_isGone) (pc := 12) (st := []) dX2_isGone_12 rfl rfl ?_
    first | exact jm_bf (by omega) | exact jm_bt (by omega) | fail
theorem m_hasCell (r : Nat) (ha : r < 28) (w : Nat → Nat) (M : jm_M) (hR : RV M r w) (hg : rG w) (v : Int32) : jm_J none YX2_hasCell 0 [some (.ref (32 + 4 * r)), some (.int v)] [] M (jm_is (some (.int (jm_b (0 ≤ v.toInt ∧ v.toInt < w 2)))) M) := by
  have hb := hg.hb
  have g0 := hg.1.1
  have g1 := hg.1.2.1
  have g2 := hg.1.2.2.1
  have g3 := hg.1.2.2.2.1
  have g4 := hg.1.2.2.2.2
  refine jm_ild_n (Y := YX2_hasCell) (pc := 0) (i := 1) dX2_hasCell_0 rfl rfl ?_
  refine jm_if_lt (Y := YX2_hasCell) (pc := 1) dX2_hasCell_1 rfl (fun h_1 => ?_) (fun h_1 => ?_)
  · refine jm_icN (Y := YX2_hasCell) (pc := 16) 0 dX2_hasCell_16 rfl ?_
    refine jm_ret (Y := YX2_hasCell) (pc := 17) (st := []) dX2_hasCell_17 rfl rfl ?_
    first | exact jm_bf (fun z => by have := jm_lt0.mp h_1; omega) | exact jm_bf (by omega) | exact jm_bt (by omega) | fail
  · have hv0 : 0 ≤ v.toInt := (Int.not_lt.mp (fun z => h_1 (jm_lt0.mpr z)))
    obtain ⟨x, hx, rfl⟩ := jm_nn h_1
    have hx2 := jm_tI hx
    refine jm_ild_n (Y := YX2_hasCell) (pc := 4) (i := 1) dX2_hasCell_4 rfl rfl ?_
    refine jm_ald_n (Y := YX2_hasCell) (pc := 5) (i := 0) dX2_hasCell_5 rfl rfl ?_
    first | refine jm_getE (Y := YX2_hasCell) (pc := 6) dX2_hasCell_6 fw_RX2_9 (by first | exact jm_obR ha | exact jm_obR hb | rfl) (by decide) (by first | exact jm_rf0 | rfl) (by assumption) ?_ | refine jm_getE (Y := YX2_hasCell) (pc := 6) dX2_hasCell_6 fw_RX2_9 (by first | exact jm_obR ha | exact jm_obR hb | rfl) (by decide) (by first | exact jm_rf0 | rfl) (by exact hR.1.1) ?_ | refine jm_getE (Y := YX2_hasCell) (pc := 6) dX2_hasCell_6 fw_RX2_9 (by first | exact jm_obR ha | exact jm_obR hb | rfl) (by decide) (by first | exact jm_rf0 | rfl) (by exact hR.1.2.1) ?_ | refine jm_getE (Y := YX2_hasCell) (pc := 6) dX2_hasCell_6 fw_RX2_9 (by first | exact jm_obR ha | exact jm_obR hb | rfl) (by decide) (by first | exact jm_rf0 | rfl) (by exact hR.1.2.2.1) ?_ | refine jm_getE (Y := YX2_hasCell) (pc := 6) dX2_hasCell_6 fw_RX2_9 (by first | exact jm_obR ha | exact jm_obR hb | rfl) (by decide) (by first | exact jm_rf0 | rfl) (by exact hR.1.2.2.2.1) ?_ | refine jm_getE (Y := YX2_hasCell) (pc := 6) dX2_hasCell_6 fw_RX2_9 (by first | exact jm_obR ha | exact jm_obR hb | rfl) (by decide) (by first | exact jm_rf0 | rfl) (by exact hR.1.2.2.2.2) ?_ | refine jm_getE (Y := YX2_hasCell) (pc := 6) dX2_hasCell_6 fw_RX2_9 (by first | exact jm_obR ha | exact jm_obR hb | rfl) (by decide) (by first | exact jm_rf0 | rfl) (by exact hR.2.1 _ (by omega)) ?_ | refine jm_getE (Y := YX2_hasCell) (pc := 6) dX2_hasCell_6 fw_RX2_9 (by first | exact jm_obR ha | exact jm_obR hb | rfl) (by decide) (by first | exact jm_rf0 | rfl) (by exact (hR.2.2 _ (by omega)).1) ?_ | refine jm_getE (Y := YX2_hasCell) (pc := 6) dX2_hasCell_6 fw_RX2_9 (by first | exact jm_obR ha | exact jm_obR hb | rfl) (by decide) (by first | exact jm_rf0 | rfl) (by exact (hR.2.2 _ (by omega)).2) ?_ | refine jm_getI (Y := YX2_hasCell) (pc := 6) dX2_hasCell_6 fw_RX2_9.F (by first | exact jm_obR ha | exact jm_obR hb | rfl) (by decide) (by first | exact jm_rf0 | rfl) ?_ | fail
    refine jm_icmp_geN (Y := YX2_hasCell) (pc := 9) dX2_hasCell_9 rfl (by first | omega | exact jm_lt hb _) (by first | omega | exact jm_lt hb _) (fun h_9 => ?_) (fun h_9 => ?_)
    · refine jm_icN (Y := YX2_hasCell) (pc := 16) 0 dX2_hasCell_16 rfl ?_
      refine jm_ret (Y := YX2_hasCell) (pc := 17) (st := []) dX2_hasCell_17 rfl rfl ?_
      first | exact jm_bf (fun z => by have := jm_lt0.mp h_1; omega) | exact jm_bf (by omega) | exact jm_bt (by omega) | fail
    · refine jm_icN (Y := YX2_hasCell) (pc := 12) 1 dX2_hasCell_12 rfl ?_
      refine jm_goto (Y := YX2_hasCell) (pc := 13) dX2_hasCell_13 rfl ?_
      refine jm_ret (Y := YX2_hasCell) (pc := 17) (st := []) dX2_hasCell_17 rfl rfl ?_
      first | exact jm_bf (fun z => by have := jm_lt0.mp h_1; omega) | exact jm_bf (by omega) | exact jm_bt (by omega) | fail
theorem m_hasWord (r : Nat) (ha : r < 28) (w : Nat → Nat) (M : jm_M) (hR : RV M r w) (hg : rG w) (v : Int32) : jm_J none YX2_hasWord 0 [some (.ref (32 + 4 * r)), some (.int v)] [] M (jm_is (some (.int (jm_b (0 ≤ v.toInt ∧ v.toInt < w 3)))) M) := by
  have hb := hg.hb
  have g0 := hg.1.1
  have g1 := hg.1.2.1
  have g2 := hg.1.2.2.1
  have g3 := hg.1.2.2.2.1
  have g4 := hg.1.2.2.2.2
  refine jm_ild_n (Y := YX2_hasWord) (pc := 0) (i := 1) dX2_hasWord_0 rfl rfl ?_
  refine jm_if_lt (Y := YX2_hasWord) (pc := 1) dX2_hasWord_1 rfl (fun h_1 => ?_) (fun h_1 => ?_)
  · refine jm_icN (Y := YX2_hasWord) (pc := 16) 0 dX2_hasWord_16 rfl ?_
    refine jm_ret (Y := YX2_hasWord) (pc := 17) (st := []) dX2_hasWord_17 rfl rfl ?_
    first | exact jm_bf (fun z => by have := jm_lt0.mp h_1; omega) | exact jm_bf (by omega) | exact jm_bt (by omega) | fail
  · have hv0 : 0 ≤ v.toInt := (Int.not_lt.mp (fun z => h_1 (jm_lt0.mpr z)))
    obtain ⟨x, hx, rfl⟩ := jm_nn h_1
    have hx2 := jm_tI hx
    refine jm_ild_n (Y := YX2_hasWord) (pc := 4) (i := 1) dX2_hasWord_4 rfl rfl ?_
    refine jm_ald_n (Y := YX2_hasWord) (pc := 5) (i := 0) dX2_hasWord_5 rfl rfl ?_
    first | refine jm_getE (Y := YX2_hasWord) (pc := 6) dX2_hasWord_6 fw_RX2_15 (by first | exact jm_obR ha | exact jm_obR hb | rfl) (by decide) (by first | exact jm_rf1 | rfl) (by assumption) ?_ | refine jm_getE (Y := YX2_hasWord) (pc := 6) dX2_hasWord_6 fw_RX2_15 (by first | exact jm_obR ha | exact jm_obR hb | rfl) (by decide) (by first | exact jm_rf1 | rfl) (by exact hR.1.1) ?_ | refine jm_getE (Y := YX2_hasWord) (pc := 6) dX2_hasWord_6 fw_RX2_15 (by first | exact jm_obR ha | exact jm_obR hb | rfl) (by decide) (by first | exact jm_rf1 | rfl) (by exact hR.1.2.1) ?_ | refine jm_getE (Y := YX2_hasWord) (pc := 6) dX2_hasWord_6 fw_RX2_15 (by first | exact jm_obR ha | exact jm_obR hb | rfl) (by decide) (by first | exact jm_rf1 | rfl) (by exact hR.1.2.2.1) ?_ | refine jm_getE (Y := YX2_hasWord) (pc := 6) dX2_hasWord_6 fw_RX2_15 (by first | exact jm_obR ha | exact jm_obR hb | rfl) (by decide) (by first | exact jm_rf1 | rfl) (by exact hR.1.2.2.2.1) ?_ | refine jm_getE (Y := YX2_hasWord) (pc := 6) dX2_hasWord_6 fw_RX2_15 (by first | exact jm_obR ha | exact jm_obR hb | rfl) (by decide) (by first | exact jm_rf1 | rfl) (by exact hR.1.2.2.2.2) ?_ | refine jm_getE (Y := YX2_hasWord) (pc := 6) dX2_hasWord_6 fw_RX2_15 (by first | exact jm_obR ha | exact jm_obR hb | rfl) (by decide) (by first | exact jm_rf1 | rfl) (by exact hR.2.1 _ (by omega)) ?_ | refine jm_getE (Y := YX2_hasWord) (pc := 6) dX2_hasWord_6 fw_RX2_15 (by first | exact jm_obR ha | exact jm_obR hb | rfl) (by decide) (by first | exact jm_rf1 | rfl) (by exact (hR.2.2 _ (by omega)).1) ?_ | refine jm_getE (Y := YX2_hasWord) (pc := 6) dX2_hasWord_6 fw_RX2_15 (by first | exact jm_obR ha | exact jm_obR hb | rfl) (by decide) (by first | exact jm_rf1 | rfl) (by exact (hR.2.2 _ (by omega)).2) ?_ | refine jm_getI (Y := YX2_hasWord) (pc := 6) dX2_hasWord_6 fw_RX2_15.F (by first | exact jm_obR ha | exact jm_obR hb | rfl) (by decide) (by first | exact jm_rf1 | rfl) ?_ | fail
    refine jm_icmp_geN (Y := YX2_hasWord) (pc := 9) dX2_hasWord_9 rfl (by first | omega | exact jm_lt hb _) (by first | omega | exact jm_lt hb _) (fun h_9 => ?_) (fun h_9 => ?_)
    · refine jm_icN (Y := YX2_hasWord) (pc := 16) 0 dX2_hasWord_16 rfl ?_
      refine jm_ret (Y := YX2_hasWord) (pc := 17) (st := []) dX2_hasWord_17 rfl rfl ?_
      first | exact jm_bf (fun z => by have := jm_lt0.mp h_1; omega) | exact jm_bf (by omega) | exact jm_bt (by omega) | fail
    · refine jm_icN (Y := YX2_hasWord) (pc := 12) 1 dX2_hasWord_12 rfl ?_
      refine jm_goto (Y := YX2_hasWord) (pc := 13) dX2_hasWord_13 rfl ?_
      refine jm_ret (Y := YX2_hasWord) (pc := 17) (st := []) dX2_hasWord_17 rfl rfl ?_
      first | exact jm_bf (fun z => by have := jm_lt0.mp h_1; omega) | exact jm_bf (by omega) | exact jm_bt (by omega) | fail
theorem m_sizeOf (r : Nat) (ha : r < 28) (w : Nat → Nat) (M : jm_M) (hR : RV M r w) (hg : rG w) (a : Nat) (hk : a < w 3) : jm_J none YX2_sizeOf 0 [some (.ref (32 + 4 * r)), some (.int (nI a))] [] M (jm_is (some (.int (nI (w (17 + 4 * a + 1))))) M) := by
  have hb := hg.hb
  have g0 := hg.1.1
  have g1 := hg.1.2.1
  have g2 := hg.1.2.2.1
  have g3 := hg.1.2.2.2.1
  have g4 := hg.1.2.2.2.2
  have kb := hg.2.2.1 a (by omega)
  refine jm_ald_n (Y := YX2_sizeOf) (pc := 0) (i := 0) dX2_sizeOf_0 rfl rfl ?_
  refine jm_getR (Y := YX2_sizeOf) (pc := 1) dX2_sizeOf_1 fr_RX2_34 (by first | exact jm_obR ha | exact jm_obR hb | rfl) (by decide) (by first | exact jm_rf7 | rfl) ?_
  refine jm_ild_n (Y := YX2_sizeOf) (pc := 4) (i := 1) dX2_sizeOf_4 rfl rfl ?_
  refine jm_ialN (Y := YX2_sizeOf) (pc := 5) dX2_sizeOf_5 (by first | assumption | exact jm_arR1 ha | exact jm_arR2 ha | exact jm_arR3 ha | exact jm_arR1 hb | exact jm_arR2 hb | exact jm_arR3 hb | rfl) (by first | omega | exact jm_lt hb _) (by first | assumption | exact hR.1.1 | exact hR.1.2.1 | exact hR.1.2.2.1 | exact hR.1.2.2.2.1 | exact hR.1.2.2.2.2 | exact hR.2.1 _ (by omega) | exact (hR.2.2 _ (by omega)).1 | exact (hR.2.2 _ (by omega)).2 | rfl) ?_
  refine jm_S1ie (Y := YX2_sizeOf) (pc := 6) dX2_sizeOf_6 lk_RX2_37 ⟨_, rfl⟩ rfl (by decide) (Nat.le_of_ble_eq_true rfl) ⟨by decide, by decide⟩ (m_sizeIn _ _ _ (by omega) (by omega)) ?_
  refine jm_ret (Y := YX2_sizeOf) (pc := 9) (st := []) dX2_sizeOf_9 rfl rfl ?_
  exact ⟨rfl, rfl⟩
theorem m_isWet (r : Nat) (ha : r < 28) (w : Nat → Nat) (M : jm_M) (hR : RV M r w) (hg : rG w) (t : Nat) (ht : t < 100000) : jm_J none YX2_isWet 0 [some (.ref (32 + 4 * r)), some (.int (nI t))] [] M (jm_is (some (.int (jm_b (w 0 / 2 ^ (t % 4) % 2 = 1)))) M) := by
  have hb := hg.hb
  have g0 := hg.1.1
  have g1 := hg.1.2.1
  have g2 := hg.1.2.2.1
  have g3 := hg.1.2.2.2.1
  have g4 := hg.1.2.2.2.2
  refine jm_ald_n (Y := YX2_isWet) (pc := 0) (i := 0) dX2_isWet_0 rfl rfl ?_
  first | refine jm_getE (Y := YX2_isWet) (pc := 1) dX2_isWet_1 fw_RX2_21 (by first | exact jm_obR ha | exact jm_obR hb | rfl) (by decide) (by first | exact jm_rf3 | rfl) (by assumption) ?_ | refine jm_getE (Y := YX2_isWet) (pc := 1) dX2_isWet_1 fw_RX2_21 (by first | exact jm_obR ha | exact jm_obR hb | rfl) (by decide) (by first | exact jm_rf3 | rfl) (by exact hR.1.1) ?_ | refine jm_getE (Y := YX2_isWet) (pc := 1) dX2_isWet_1 fw_RX2_21 (by first | exact jm_obR ha | exact jm_obR hb | rfl) (by decide) (by first | exact jm_rf3 | rfl) (by exact hR.1.2.1) ?_ | refine jm_getE (Y := YX2_isWet) (pc := 1) dX2_isWet_1 fw_RX2_21 (by first | exact jm_obR ha | exact jm_obR hb | rfl) (by decide) (by first | exact jm_rf3 | rfl) (by exact hR.1.2.2.1) ?_ | refine jm_getE (Y := YX2_isWet) (pc := 1) dX2_isWet_1 fw_RX2_21 (by first | exact jm_obR ha | exact jm_obR hb | rfl) (by decide) (by first | exact jm_rf3 | rfl) (by exact hR.1.2.2.2.1) ?_ | refine jm_getE (Y := YX2_isWet) (pc := 1) dX2_isWet_1 fw_RX2_21 (by first | exact jm_obR ha | exact jm_obR hb | rfl) (by decide) (by first | exact jm_rf3 | rfl) (by exact hR.1.2.2.2.2) ?_ | refine jm_getE (Y := YX2_isWet) (pc := 1) dX2_isWet_1 fw_RX2_21 (by first | exact jm_obR ha | exact jm_obR hb | rfl) (by decide) (by first | exact jm_rf3 | rfl) (by exact hR.2.1 _ (by omega)) ?_ | refine jm_getE (Y := YX2_isWet) (pc := 1) dX2_isWet_1 fw_RX2_21 (by first | exact jm_obR ha | exact jm_obR hb | rfl) (by decide) (by first | exact jm_rf3 | rfl) (by exact (hR.2.2 _ (by omega)).1) ?_ | refine jm_getE (Y := YX2_isWet) (pc := 1) dX2_isWet_1 fw_RX2_21 (by first | exact jm_obR ha | exact jm_obR hb | rfl) (by decide) (by first | exact jm_rf3 | rfl) (by exact (hR.2.2 _ (by omega)).2) ?_ | refine jm_getI (Y := YX2_isWet) (pc := 1) dX2_isWet_1 fw_RX2_21.F (by first | exact jm_obR ha | exact jm_obR hb | rfl) (by decide) (by first | exact jm_rf3 | rfl) ?_ | fail
  refine jm_ild_n (Y := YX2_isWet) (pc := 4) (i := 1) dX2_isWet_4 rfl rfl ?_
  refine jm_icN (Y := YX2_isWet) (pc := 5) 4 dX2_isWet_5 rfl ?_
  refine jm_remN (Y := YX2_isWet) (pc := 6) dX2_isWet_6 (by first | omega | exact jm_lt hb _) (by first | omega | exact jm_lt hb _) (by first | omega | exact jm_lt hb _) ?_
  refine jm_shrN (Y := YX2_isWet) (pc := 7) dX2_isWet_7 (by omega) (Nat.lt_of_lt_of_le (Nat.mod_lt _ (by decide)) (by decide)) ?_
  refine jm_icN (Y := YX2_isWet) (pc := 8) 1 dX2_isWet_8 rfl ?_
  refine jm_and1 (Y := YX2_isWet) (pc := 9) dX2_isWet_9 (Nat.lt_of_le_of_lt (Nat.div_le_self _ _) (by omega)) ?_
  refine jm_icN (Y := YX2_isWet) (pc := 10) 1 dX2_isWet_10 rfl ?_
  refine jm_icmp_neN (Y := YX2_isWet) (pc := 11) dX2_isWet_11 rfl (by first | omega | exact jm_lt hb _) (by first | omega | exact jm_lt hb _) (fun h_11 => ?_) (fun h_11 => ?_)
  · refine jm_icN (Y := YX2_isWet) (pc := 18) 0 dX2_isWet_18 rfl ?_
    refine jm_ret (Y := YX2_isWet) (pc := 19) (st := []) dX2_isWet_19 rfl rfl ?_
    first | exact jm_bf h_11 | exact jm_bt h_11 | fail
  · refine jm_icN (Y := YX2_isWet) (pc := 14) 1 dX2_isWet_14 rfl ?_
    refine jm_goto (Y := YX2_isWet) (pc := 15) dX2_isWet_15 rfl ?_
    refine jm_ret (Y := YX2_isWet) (pc := 19) (st := []) dX2_isWet_19 rfl rfl ?_
    first | exact jm_bf h_11 | exact jm_bt h_11 | fail
theorem m_paceOf (r : Nat) (ha : r < 28) (w : Nat → Nat) (M : jm_M) (hR : RV M r w) (hg : rG w) (c : Nat) (hc : c < w 2) (wet : Prop) [Decidable wet] : jm_J none YX2_paceOf 0 [some (.ref (32 + 4 * r)), some (.int (nI c)), some (.int (jm_b wet))] [] M (jm_is (some (.int (nI (m_pc w c wet)))) M) := by
  have hb := hg.hb
  have g0 := hg.1.1
  have g1 := hg.1.2.1
  have g2 := hg.1.2.2.1
  have g3 := hg.1.2.2.2.1
  have g4 := hg.1.2.2.2.2
  refine jm_ild_n (Y := YX2_paceOf) (pc := 0) (i := 1) dX2_paceOf_0 rfl rfl ?_
  refine jm_if_ltN (Y := YX2_paceOf) (pc := 1) dX2_paceOf_1 rfl (by omega) ?_
  refine jm_ild_n (Y := YX2_paceOf) (pc := 4) (i := 1) dX2_paceOf_4 rfl rfl ?_
  refine jm_ald_n (Y := YX2_paceOf) (pc := 5) (i := 0) dX2_paceOf_5 rfl rfl ?_
  first | refine jm_getE (Y := YX2_paceOf) (pc := 6) dX2_paceOf_6 fw_RX2_9 (by first | exact jm_obR ha | exact jm_obR hb | rfl) (by decide) (by first | exact jm_rf0 | rfl) (by assumption) ?_ | refine jm_getE (Y := YX2_paceOf) (pc := 6) dX2_paceOf_6 fw_RX2_9 (by first | exact jm_obR ha | exact jm_obR hb | rfl) (by decide) (by first | exact jm_rf0 | rfl) (by exact hR.1.1) ?_ | refine jm_getE (Y := YX2_paceOf) (pc := 6) dX2_paceOf_6 fw_RX2_9 (by first | exact jm_obR ha | exact jm_obR hb | rfl) (by decide) (by first | exact jm_rf0 | rfl) (by exact hR.1.2.1) ?_ | refine jm_getE (Y := YX2_paceOf) (pc := 6) dX2_paceOf_6 fw_RX2_9 (by first | exact jm_obR ha | exact jm_obR hb | rfl) (by decide) (by first | exact jm_rf0 | rfl) (by exact hR.1.2.2.1) ?_ | refine jm_getE (Y := YX2_paceOf) (pc := 6) dX2_paceOf_6 fw_RX2_9 (by first | exact jm_obR ha | exact jm_obR hb | rfl) (by decide) (by first | exact jm_rf0 | rfl) (by exact hR.1.2.2.2.1) ?_ | refine jm_getE (Y := YX2_paceOf) (pc := 6) dX2_paceOf_6 fw_RX2_9 (by first | exact jm_obR ha | exact jm_obR hb | rfl) (by decide) (by first | exact jm_rf0 | rfl) (by exact hR.1.2.2.2.2) ?_ | refine jm_getE (Y := YX2_paceOf) (pc := 6) dX2_paceOf_6 fw_RX2_9 (by first | exact jm_obR ha | exact jm_obR hb | rfl) (by decide) (by first | exact jm_rf0 | rfl) (by exact hR.2.1 _ (by omega)) ?_ | refine jm_getE (Y := YX2_paceOf) (pc := 6) dX2_paceOf_6 fw_RX2_9 (by first | exact jm_obR ha | exact jm_obR hb | rfl) (by decide) (by first | exact jm_rf0 | rfl) (by exact (hR.2.2 _ (by omega)).1) ?_ | refine jm_getE (Y := YX2_paceOf) (pc := 6) dX2_paceOf_6 fw_RX2_9 (by first | exact jm_obR ha | exact jm_obR hb | rfl) (by decide) (by first | exact jm_rf0 | rfl) (by exact (hR.2.2 _ (by omega)).2) ?_ | refine jm_getI (Y := YX2_paceOf) (pc := 6) dX2_paceOf_6 fw_RX2_9.F (by first | exact jm_obR ha | exact jm_obR hb | rfl) (by decide) (by first | exact jm_rf0 | rfl) ?_ | fail
  refine jm_icmp_geN (Y := YX2_paceOf) (pc := 9) dX2_paceOf_9 rfl (by first | omega | exact jm_lt hb _) (by first | omega | exact jm_lt hb _) (fun h_9 => by exfalso; first | omega | exact jm_lt hb _) (fun h_9 => ?_)
  refine jm_ald_n (Y := YX2_paceOf) (pc := 12) (i := 0) dX2_paceOf_12 rfl rfl ?_
  refine jm_getR (Y := YX2_paceOf) (pc := 13) dX2_paceOf_13 fr_RX2_27 (by first | exact jm_obR ha | exact jm_obR hb | rfl) (by decide) (by first | exact jm_rf5 | rfl) ?_
  refine jm_ild_n (Y := YX2_paceOf) (pc := 16) (i := 1) dX2_paceOf_16 rfl rfl ?_
  refine jm_ialN (Y := YX2_paceOf) (pc := 17) dX2_paceOf_17 (by first | assumption | exact jm_arR1 ha | exact jm_arR2 ha | exact jm_arR3 ha | exact jm_arR1 hb | exact jm_arR2 hb | exact jm_arR3 hb | rfl) (by first | omega | exact jm_lt hb _) (by first | assumption | exact hR.1.1 | exact hR.1.2.1 | exact hR.1.2.2.1 | exact hR.1.2.2.2.1 | exact hR.1.2.2.2.2 | exact hR.2.1 _ (by omega) | exact (hR.2.2 _ (by omega)).1 | exact (hR.2.2 _ (by omega)).2 | rfl) ?_
  refine jm_if_neN (Y := YX2_paceOf) (pc := 18) dX2_paceOf_18 rfl (by first | omega | exact jm_lt hb _) (fun h_18 => ?_) (fun h_18 => ?_)
  · refine jm_ild_n (Y := YX2_paceOf) (pc := 23) (i := 2) dX2_paceOf_23 rfl rfl ?_
    refine jm_if_eqB (Y := YX2_paceOf) (pc := 24) dX2_paceOf_24 rfl (fun h_24 => ?_) (fun h_24 => ?_)
    · refine jm_ald_n (Y := YX2_paceOf) (pc := 38) (i := 0) dX2_paceOf_38 rfl rfl ?_
      refine jm_getR (Y := YX2_paceOf) (pc := 39) dX2_paceOf_39 fr_RX2_27 (by first | exact jm_obR ha | exact jm_obR hb | rfl) (by decide) (by first | exact jm_rf5 | rfl) ?_
      refine jm_ild_n (Y := YX2_paceOf) (pc := 42) (i := 1) dX2_paceOf_42 rfl rfl ?_
      refine jm_ialN (Y := YX2_paceOf) (pc := 43) dX2_paceOf_43 (by first | assumption | exact jm_arR1 ha | exact jm_arR2 ha | exact jm_arR3 ha | exact jm_arR1 hb | exact jm_arR2 hb | exact jm_arR3 hb | rfl) (by first | omega | exact jm_lt hb _) (by first | assumption | exact hR.1.1 | exact hR.1.2.1 | exact hR.1.2.2.1 | exact hR.1.2.2.2.1 | exact hR.1.2.2.2.2 | exact hR.2.1 _ (by omega) | exact (hR.2.2 _ (by omega)).1 | exact (hR.2.2 _ (by omega)).2 | rfl) ?_
      refine jm_ret (Y := YX2_paceOf) (pc := 44) (st := []) dX2_paceOf_44 rfl rfl ?_
      first | exact jm_eqN (by unfold m_pc; rw [if_pos h_18]) | exact jm_eqN (by unfold m_pc; rw [if_neg (by omega), if_pos h_24]) | exact jm_eqN (by unfold m_pc; rw [if_neg (by omega), if_neg h_24]; rfl) | fail
    · refine jm_ald_n (Y := YX2_paceOf) (pc := 27) (i := 0) dX2_paceOf_27 rfl rfl ?_
      refine jm_getR (Y := YX2_paceOf) (pc := 28) dX2_paceOf_28 fr_RX2_27 (by first | exact jm_obR ha | exact jm_obR hb | rfl) (by decide) (by first | exact jm_rf5 | rfl) ?_
      refine jm_ild_n (Y := YX2_paceOf) (pc := 31) (i := 1) dX2_paceOf_31 rfl rfl ?_
      refine jm_ialN (Y := YX2_paceOf) (pc := 32) dX2_paceOf_32 (by first | assumption | exact jm_arR1 ha | exact jm_arR2 ha | exact jm_arR3 ha | exact jm_arR1 hb | exact jm_arR2 hb | exact jm_arR3 hb | rfl) (by first | omega | exact jm_lt hb _) (by first | assumption | exact hR.1.1 | exact hR.1.2.1 | exact hR.1.2.2.1 | exact hR.1.2.2.2.1 | exact hR.1.2.2.2.2 | exact hR.2.1 _ (by omega) | exact (hR.2.2 _ (by omega)).1 | exact (hR.2.2 _ (by omega)).2 | rfl) ?_
      refine jm_icN (Y := YX2_paceOf) (pc := 33) 1 dX2_paceOf_33 rfl ?_
      refine jm_addN (Y := YX2_paceOf) (pc := 34) dX2_paceOf_34 ?_
      refine jm_goto (Y := YX2_paceOf) (pc := 35) dX2_paceOf_35 rfl ?_
      refine jm_ret (Y := YX2_paceOf) (pc := 44) (st := []) dX2_paceOf_44 rfl rfl ?_
      first | exact jm_eqN (by unfold m_pc; rw [if_pos h_18]) | exact jm_eqN (by unfold m_pc; rw [if_neg (by omega), if_pos h_24]) | exact jm_eqN (by unfold m_pc; rw [if_neg (by omega), if_neg h_24]; rfl) | fail
  · refine jm_icN (Y := YX2_paceOf) (pc := 21) 0 dX2_paceOf_21 rfl ?_
    refine jm_ret (Y := YX2_paceOf) (pc := 22) (st := []) dX2_paceOf_22 rfl rfl ?_
    first | exact jm_eqN (by unfold m_pc; rw [if_pos h_18]) | exact jm_eqN (by unfold m_pc; rw [if_neg (by omega), if_pos h_24]) | exact jm_eqN (by unfold m_pc; rw [if_neg (by omega), if_neg h_24]; rfl) | fail
theorem m_isOne (M : jm_M) (kd o : Nat) (h1 : 1 ≤ kd) (h5 : kd ≤ 5) (ho : o ≤ 5) : jm_J none YX1_isOne 0 [some (.int (nI kd)), some (.int (nI o))] [] M (jm_is (some (.int (jm_b (o = 0 ∨ o = kd ∨ o = m_ab kd)))) M) := by
  have ab : (kd = 2 ∧ m_ab kd = 1) ∨ (kd = 3 ∧ m_ab kd = 1) ∨ (kd = 5 ∧ m_ab kd = 4) ∨ ((kd = 1 ∨ kd = 4) ∧ m_ab kd = 0) := by unfold m_ab; (repeat' split) <;> omega
  have ox := jm_tI (show o < 2147483648 by omega)
  refine jm_ild_n (Y := YX1_isOne) (pc := 0) (i := 1) dX1_isOne_0 rfl rfl ?_
  by_cases e_1_0 : Int32.toInt (nI o) = 0
  · refine jm_tin dX1_isOne_1 (by rw [e_1_0]; decide) (by rw [e_1_0]; decide) (by rw [e_1_0]; rfl) rfl ?_
    refine jm_icN (Y := YX1_isOne) (pc := 36) 1 dX1_isOne_36 rfl ?_
    refine jm_ret (Y := YX1_isOne) (pc := 37) (st := []) dX1_isOne_37 rfl rfl ?_
    first | exact jm_bt (by omega) | exact jm_bf (by omega) | fail
  by_cases e_1_1 : Int32.toInt (nI o) = 1
  · refine jm_tin dX1_isOne_1 (by rw [e_1_1]; decide) (by rw [e_1_1]; decide) (by rw [e_1_1]; rfl) rfl ?_
    refine jm_ild_n (Y := YX1_isOne) (pc := 38) (i := 0) dX1_isOne_38 rfl rfl ?_
    refine jm_icN (Y := YX1_isOne) (pc := 39) 1 dX1_isOne_39 rfl ?_
    refine jm_icmp_eqN (Y := YX1_isOne) (pc := 40) dX1_isOne_40 rfl (by omega) (by omega) (fun h_40 => ?_) (fun h_40 => ?_)
    · refine jm_icN (Y := YX1_isOne) (pc := 53) 1 dX1_isOne_53 rfl ?_
      refine jm_goto (Y := YX1_isOne) (pc := 54) dX1_isOne_54 rfl ?_
      refine jm_ret (Y := YX1_isOne) (pc := 58) (st := []) dX1_isOne_58 rfl rfl ?_
      first | exact jm_bt (by omega) | exact jm_bf (by omega) | fail
    · refine jm_ild_n (Y := YX1_isOne) (pc := 43) (i := 0) dX1_isOne_43 rfl rfl ?_
      refine jm_icN (Y := YX1_isOne) (pc := 44) 2 dX1_isOne_44 rfl ?_
      refine jm_icmp_eqN (Y := YX1_isOne) (pc := 45) dX1_isOne_45 rfl (by omega) (by omega) (fun h_45 => ?_) (fun h_45 => ?_)
      · refine jm_icN (Y := YX1_isOne) (pc := 53) 1 dX1_isOne_53 rfl ?_
        refine jm_goto (Y := YX1_isOne) (pc := 54) dX1_isOne_54 rfl ?_
        refine jm_ret (Y := YX1_isOne) (pc := 58) (st := []) dX1_isOne_58 rfl rfl ?_
        first | exact jm_bt (by omega) | exact jm_bf (by omega) | fail
      · refine jm_ild_n (Y := YX1_isOne) (pc := 48) (i := 0) dX1_isOne_48 rfl rfl ?_
        refine jm_icN (Y := YX1_isOne) (pc := 49) 3 dX1_isOne_49 rfl ?_
        refine jm_icmp_neN (Y := YX1_isOne) (pc := 50) dX1_isOne_50 rfl (by omega) (by omega) (fun h_50 => ?_) (fun h_50 => ?_)
        · refine jm_icN (Y := YX1_isOne) (pc := 57) 0 dX1_isOne_57 rfl ?_
          refine jm_ret (Y := YX1_isOne) (pc := 58) (st := []) dX1_isOne_58 rfl rfl ?_
          first | exact jm_bt (by omega) | exact jm_bf (by omega) | fail
        · refine jm_icN (Y := YX1_isOne) (pc := 53) 1 dX1_isOne_53 rfl ?_
          refine jm_goto (Y := YX1_isOne) (pc := 54) dX1_isOne_54 rfl ?_
          refine jm_ret (Y := YX1_isOne) (pc := 58) (st := []) dX1_isOne_58 rfl rfl ?_
          first | exact jm_bt (by omega) | exact jm_bf (by omega) | fail
  by_cases e_1_2 : Int32.toInt (nI o) = 2
  · refine jm_tin dX1_isOne_1 (by rw [e_1_2]; decide) (by rw [e_1_2]; decide) (by rw [e_1_2]; rfl) rfl ?_
    refine jm_ild_n (Y := YX1_isOne) (pc := 75) (i := 0) dX1_isOne_75 rfl rfl ?_
    refine jm_ild_n (Y := YX1_isOne) (pc := 76) (i := 1) dX1_isOne_76 rfl rfl ?_
    refine jm_icmp_neN (Y := YX1_isOne) (pc := 77) dX1_isOne_77 rfl (by omega) (by omega) (fun h_77 => ?_) (fun h_77 => ?_)
    · refine jm_icN (Y := YX1_isOne) (pc := 84) 0 dX1_isOne_84 rfl ?_
      refine jm_ret (Y := YX1_isOne) (pc := 85) (st := []) dX1_isOne_85 rfl rfl ?_
      first | exact jm_bt (by omega) | exact jm_bf (by omega) | fail
    · refine jm_icN (Y := YX1_isOne) (pc := 80) 1 dX1_isOne_80 rfl ?_
      refine jm_goto (Y := YX1_isOne) (pc := 81) dX1_isOne_81 rfl ?_
      refine jm_ret (Y := YX1_isOne) (pc := 85) (st := []) dX1_isOne_85 rfl rfl ?_
      first | exact jm_bt (by omega) | exact jm_bf (by omega) | fail
  by_cases e_1_3 : Int32.toInt (nI o) = 3
  · refine jm_tin dX1_isOne_1 (by rw [e_1_3]; decide) (by rw [e_1_3]; decide) (by rw [e_1_3]; rfl) rfl ?_
    refine jm_ild_n (Y := YX1_isOne) (pc := 75) (i := 0) dX1_isOne_75 rfl rfl ?_
    refine jm_ild_n (Y := YX1_isOne) (pc := 76) (i := 1) dX1_isOne_76 rfl rfl ?_
    refine jm_icmp_neN (Y := YX1_isOne) (pc := 77) dX1_isOne_77 rfl (by omega) (by omega) (fun h_77 => ?_) (fun h_77 => ?_)
    · refine jm_icN (Y := YX1_isOne) (pc := 84) 0 dX1_isOne_84 rfl ?_
      refine jm_ret (Y := YX1_isOne) (pc := 85) (st := []) dX1_isOne_85 rfl rfl ?_
      first | exact jm_bt (by omega) | exact jm_bf (by omega) | fail
    · refine jm_icN (Y := YX1_isOne) (pc := 80) 1 dX1_isOne_80 rfl ?_
      refine jm_goto (Y := YX1_isOne) (pc := 81) dX1_isOne_81 rfl ?_
      refine jm_ret (Y := YX1_isOne) (pc := 85) (st := []) dX1_isOne_85 rfl rfl ?_
      first | exact jm_bt (by omega) | exact jm_bf (by omega) | fail
  by_cases e_1_4 : Int32.toInt (nI o) = 4
  · refine jm_tin dX1_isOne_1 (by rw [e_1_4]; decide) (by rw [e_1_4]; decide) (by rw [e_1_4]; rfl) rfl ?_
    refine jm_ild_n (Y := YX1_isOne) (pc := 59) (i := 0) dX1_isOne_59 rfl rfl ?_
    refine jm_icN (Y := YX1_isOne) (pc := 60) 4 dX1_isOne_60 rfl ?_
    refine jm_icmp_eqN (Y := YX1_isOne) (pc := 61) dX1_isOne_61 rfl (by omega) (by omega) (fun h_61 => ?_) (fun h_61 => ?_)
    · refine jm_icN (Y := YX1_isOne) (pc := 69) 1 dX1_isOne_69 rfl ?_
      refine jm_goto (Y := YX1_isOne) (pc := 70) dX1_isOne_70 rfl ?_
      refine jm_ret (Y := YX1_isOne) (pc := 74) (st := []) dX1_isOne_74 rfl rfl ?_
      first | exact jm_bt (by omega) | exact jm_bf (by omega) | fail
    · refine jm_ild_n (Y := YX1_isOne) (pc := 64) (i := 0) dX1_isOne_64 rfl rfl ?_
      refine jm_icN (Y := YX1_isOne) (pc := 65) 5 dX1_isOne_65 rfl ?_
      refine jm_icmp_neN (Y := YX1_isOne) (pc := 66) dX1_isOne_66 rfl (by omega) (by omega) (fun h_66 => ?_) (fun h_66 => ?_)
      · refine jm_icN (Y := YX1_isOne) (pc := 73) 0 dX1_isOne_73 rfl ?_
        refine jm_ret (Y := YX1_isOne) (pc := 74) (st := []) dX1_isOne_74 rfl rfl ?_
        first | exact jm_bt (by omega) | exact jm_bf (by omega) | fail
      · refine jm_icN (Y := YX1_isOne) (pc := 69) 1 dX1_isOne_69 rfl ?_
        refine jm_goto (Y := YX1_isOne) (pc := 70) dX1_isOne_70 rfl ?_
        refine jm_ret (Y := YX1_isOne) (pc := 74) (st := []) dX1_isOne_74 rfl rfl ?_
        first | exact jm_bt (by omega) | exact jm_bf (by omega) | fail
  refine jm_tout (Y := YX1_isOne) (pc := 1) dX1_isOne_1 (by omega) rfl ?_
  refine jm_ild_n (Y := YX1_isOne) (pc := 75) (i := 0) dX1_isOne_75 rfl rfl ?_
  refine jm_ild_n (Y := YX1_isOne) (pc := 76) (i := 1) dX1_isOne_76 rfl rfl ?_
  refine jm_icmp_neN (Y := YX1_isOne) (pc := 77) dX1_isOne_77 rfl (by omega) (by omega) (fun h_77 => ?_) (fun h_77 => ?_)
  · refine jm_icN (Y := YX1_isOne) (pc := 84) 0 dX1_isOne_84 rfl ?_
    refine jm_ret (Y := YX1_isOne) (pc := 85) (st := []) dX1_isOne_85 rfl rfl ?_
    first | exact jm_bt (by omega) | exact jm_bf (by omega) | fail
  · refine jm_icN (Y := YX1_isOne) (pc := 80) 1 dX1_isOne_80 rfl ?_
    refine jm_goto (Y := YX1_isOne) (pc := 81) dX1_isOne_81 rfl ?_
    refine jm_ret (Y := YX1_isOne) (pc := 85) (st := []) dX1_isOne_85 rfl rfl ?_
    first | exact jm_bt (by omega) | exact jm_bf (by omega) | fail
theorem m_drifted (r : Nat) (ha : r < 28) (w : Nat → Nat) (M : jm_M) (hR : RV M r w) (hg : rG w) (kd b c : Nat) (h5 : kd ≤ 5) (h60 : b ≤ 60) (hc : c < w 2) (wet : Prop) [Decidable wet] : jm_J none YX2_drifted 0 [some (.ref (32 + 4 * r)), some (.int (nI kd)), some (.int (nI (16 * b + c))), some (.int (jm_b wet)), none, none, none, none] [] M (jm_is (some (.int (nI (16 * (m_dr w kd b c wet).1 + (m_dr w kd b c wet).2)))) M) := by
  have hb := hg.hb
  have g0 := hg.1.1
  have g1 := hg.1.2.1
  have g2 := hg.1.2.2.1
  have g3 := hg.1.2.2.2.1
  have g4 := hg.1.2.2.2.2
  have hp := m_pc_le w c wet
  have hs := hg.2.1 c (by omega)
  refine jm_ild_n (Y := YX2_drifted) (pc := 0) (i := 2) dX2_drifted_0 rfl rfl ?_
  refine jm_S1ie (Y := YX2_drifted) (pc := 1) dX2_drifted_1 lk_RX2_37 ⟨_, rfl⟩ rfl (by decide) (Nat.le_of_ble_eq_true rfl) ⟨by decide, by decide⟩ (m_sizeIn _ _ _ (by omega) (by omega)) ?_
  refine jm_ist (Y := YX2_drifted) (pc := 4) (ls' := [_, _, _, _, _, _, _, _]) dX2_drifted_4 (Nat.le_of_ble_eq_true rfl) rfl rfl ?_
  refine jm_ild_n (Y := YX2_drifted) (pc := 6) (i := 2) dX2_drifted_6 rfl rfl ?_
  refine jm_S1ie (Y := YX2_drifted) (pc := 7) dX2_drifted_7 lk_RX2_51 ⟨_, rfl⟩ rfl (by decide) (Nat.le_of_ble_eq_true rfl) ⟨by decide, by decide⟩ (m_cellIn _ _ _ (by omega) (by omega)) ?_
  refine jm_ist (Y := YX2_drifted) (pc := 10) (ls' := [_, _, _, _, _, _, _, _]) dX2_drifted_10 (Nat.le_of_ble_eq_true rfl) rfl rfl ?_
  refine jm_ald_n (Y := YX2_drifted) (pc := 12) (i := 0) dX2_drifted_12 rfl rfl ?_
  refine jm_iload (Y := YX2_drifted) (pc := 13) dX2_drifted_13 rfl ?_
  refine jm_ild_n (Y := YX2_drifted) (pc := 15) (i := 3) dX2_drifted_15 rfl rfl ?_
  refine jm_V2ie (Y := YX2_drifted) (pc := 16) dX2_drifted_16 lk_RX2_74 ⟨_, rfl⟩ (by first | exact jm_obR ha | exact jm_obR hb | rfl) rfl rfl (by decide) (Nat.le_of_ble_eq_true rfl) ⟨by decide, by decide⟩ (m_paceOf r ha w _ hR hg _ (by omega) _) ?_
  refine jm_ist (Y := YX2_drifted) (pc := 19) (ls' := [_, _, _, _, _, _, _, _]) dX2_drifted_19 (Nat.le_of_ble_eq_true rfl) rfl rfl ?_
  refine jm_iload (Y := YX2_drifted) (pc := 21) dX2_drifted_21 rfl ?_
  refine jm_ild_n (Y := YX2_drifted) (pc := 23) (i := 1) dX2_drifted_23 rfl rfl ?_
  refine jm_icN (Y := YX2_drifted) (pc := 24) 3 dX2_drifted_24 rfl ?_
  refine jm_icmp_neN (Y := YX2_drifted) (pc := 25) dX2_drifted_25 rfl (by first | omega | exact jm_lt hb _) (by first | omega | exact jm_lt hb _) (fun h_25 => ?_) (fun h_25 => ?_)
  · refine jm_iload (Y := YX2_drifted) (pc := 41) dX2_drifted_41 rfl ?_
    refine jm_addN (Y := YX2_drifted) (pc := 43) dX2_drifted_43 ?_
    refine jm_ist (Y := YX2_drifted) (pc := 44) (ls' := [_, _, _, _, _, _, _, _]) dX2_drifted_44 (Nat.le_of_ble_eq_true rfl) rfl rfl ?_
    refine jm_iload (Y := YX2_drifted) (pc := 46) dX2_drifted_46 rfl ?_
    refine jm_ald_n (Y := YX2_drifted) (pc := 48) (i := 0) dX2_drifted_48 rfl rfl ?_
    first | refine jm_getE (Y := YX2_drifted) (pc := 49) dX2_drifted_49 fw_RX2_9 (by first | exact jm_obR ha | exact jm_obR hb | rfl) (by decide) (by first | exact jm_rf0 | rfl) (by assumption) ?_ | refine jm_getE (Y := YX2_drifted) (pc := 49) dX2_drifted_49 fw_RX2_9 (by first | exact jm_obR ha | exact jm_obR hb | rfl) (by decide) (by first | exact jm_rf0 | rfl) (by exact hR.1.1) ?_ | refine jm_getE (Y := YX2_drifted) (pc := 49) dX2_drifted_49 fw_RX2_9 (by first | exact jm_obR ha | exact jm_obR hb | rfl) (by decide) (by first | exact jm_rf0 | rfl) (by exact hR.1.2.1) ?_ | refine jm_getE (Y := YX2_drifted) (pc := 49) dX2_drifted_49 fw_RX2_9 (by first | exact jm_obR ha | exact jm_obR hb | rfl) (by decide) (by first | exact jm_rf0 | rfl) (by exact hR.1.2.2.1) ?_ | refine jm_getE (Y := YX2_drifted) (pc := 49) dX2_drifted_49 fw_RX2_9 (by first | exact jm_obR ha | exact jm_obR hb | rfl) (by decide) (by first | exact jm_rf0 | rfl) (by exact hR.1.2.2.2.1) ?_ | refine jm_getE (Y := YX2_drifted) (pc := 49) dX2_drifted_49 fw_RX2_9 (by first | exact jm_obR ha | exact jm_obR hb | rfl) (by decide) (by first | exact jm_rf0 | rfl) (by exact hR.1.2.2.2.2) ?_ | refine jm_getE (Y := YX2_drifted) (pc := 49) dX2_drifted_49 fw_RX2_9 (by first | exact jm_obR ha | exact jm_obR hb | rfl) (by decide) (by first | exact jm_rf0 | rfl) (by exact hR.2.1 _ (by omega)) ?_ | refine jm_getE (Y := YX2_drifted) (pc := 49) dX2_drifted_49 fw_RX2_9 (by first | exact jm_obR ha | exact jm_obR hb | rfl) (by decide) (by first | exact jm_rf0 | rfl) (by exact (hR.2.2 _ (by omega)).1) ?_ | refine jm_getE (Y := YX2_drifted) (pc := 49) dX2_drifted_49 fw_RX2_9 (by first | exact jm_obR ha | exact jm_obR hb | rfl) (by decide) (by first | exact jm_rf0 | rfl) (by exact (hR.2.2 _ (by omega)).2) ?_ | refine jm_getI (Y := YX2_drifted) (pc := 49) dX2_drifted_49 fw_RX2_9.F (by first | exact jm_obR ha | exact jm_obR hb | rfl) (by decide) (by first | exact jm_rf0 | rfl) ?_ | fail
    refine jm_icmp_ltN (Y := YX2_drifted) (pc := 52) dX2_drifted_52 rfl (by first | omega | exact jm_lt hb _) (by first | omega | exact jm_lt hb _) (fun h_52 => ?_) (fun h_52 => ?_)
    · refine jm_iload (Y := YX2_drifted) (pc := 62) dX2_drifted_62 rfl ?_
      refine jm_ald_n (Y := YX2_drifted) (pc := 64) (i := 0) dX2_drifted_64 rfl rfl ?_
      first | refine jm_getE (Y := YX2_drifted) (pc := 65) dX2_drifted_65 fw_RX2_18 (by first | exact jm_obR ha | exact jm_obR hb | rfl) (by decide) (by first | exact jm_rf2 | rfl) (by assumption) ?_ | refine jm_getE (Y := YX2_drifted) (pc := 65) dX2_drifted_65 fw_RX2_18 (by first | exact jm_obR ha | exact jm_obR hb | rfl) (by decide) (by first | exact jm_rf2 | rfl) (by exact hR.1.1) ?_ | refine jm_getE (Y := YX2_drifted) (pc := 65) dX2_drifted_65 fw_RX2_18 (by first | exact jm_obR ha | exact jm_obR hb | rfl) (by decide) (by first | exact jm_rf2 | rfl) (by exact hR.1.2.1) ?_ | refine jm_getE (Y := YX2_drifted) (pc := 65) dX2_drifted_65 fw_RX2_18 (by first | exact jm_obR ha | exact jm_obR hb | rfl) (by decide) (by first | exact jm_rf2 | rfl) (by exact hR.1.2.2.1) ?_ | refine jm_getE (Y := YX2_drifted) (pc := 65) dX2_drifted_65 fw_RX2_18 (by first | exact jm_obR ha | exact jm_obR hb | rfl) (by decide) (by first | exact jm_rf2 | rfl) (by exact hR.1.2.2.2.1) ?_ | refine jm_getE (Y := YX2_drifted) (pc := 65) dX2_drifted_65 fw_RX2_18 (by first | exact jm_obR ha | exact jm_obR hb | rfl) (by decide) (by first | exact jm_rf2 | rfl) (by exact hR.1.2.2.2.2) ?_ | refine jm_getE (Y := YX2_drifted) (pc := 65) dX2_drifted_65 fw_RX2_18 (by first | exact jm_obR ha | exact jm_obR hb | rfl) (by decide) (by first | exact jm_rf2 | rfl) (by exact hR.2.1 _ (by omega)) ?_ | refine jm_getE (Y := YX2_drifted) (pc := 65) dX2_drifted_65 fw_RX2_18 (by first | exact jm_obR ha | exact jm_obR hb | rfl) (by decide) (by first | exact jm_rf2 | rfl) (by exact (hR.2.2 _ (by omega)).1) ?_ | refine jm_getE (Y := YX2_drifted) (pc := 65) dX2_drifted_65 fw_RX2_18 (by first | exact jm_obR ha | exact jm_obR hb | rfl) (by decide) (by first | exact jm_rf2 | rfl) (by exact (hR.2.2 _ (by omega)).2) ?_ | refine jm_getI (Y := YX2_drifted) (pc := 65) dX2_drifted_65 fw_RX2_18.F (by first | exact jm_obR ha | exact jm_obR hb | rfl) (by decide) (by first | exact jm_rf2 | rfl) ?_ | fail
      refine jm_icmp_gtN (Y := YX2_drifted) (pc := 68) dX2_drifted_68 rfl (by first | omega | exact jm_lt hb _) (by first | omega | exact jm_lt hb _) (fun h_68 => ?_) (fun h_68 => ?_)
      · refine jm_ild_n (Y := YX2_drifted) (pc := 86) (i := 1) dX2_drifted_86 rfl rfl ?_
        refine jm_icN (Y := YX2_drifted) (pc := 87) 2 dX2_drifted_87 rfl ?_
        refine jm_icmp_neN (Y := YX2_drifted) (pc := 88) dX2_drifted_88 rfl (by first | omega | exact jm_lt hb _) (by first | omega | exact jm_lt hb _) (fun h_88 => ?_) (fun h_88 => ?_)
        · refine jm_iload (Y := YX2_drifted) (pc := 99) dX2_drifted_99 rfl ?_
          refine jm_iload (Y := YX2_drifted) (pc := 101) dX2_drifted_101 rfl ?_
          refine jm_S2ie (Y := YX2_drifted) (pc := 103) dX2_drifted_103 lk_RX2_78 ⟨_, rfl⟩ rfl rfl (by decide) (Nat.le_of_ble_eq_true rfl) ⟨by decide, by decide⟩ (m_packed _ _ _ (by omega) (by omega)) ?_
          refine jm_ret (Y := YX2_drifted) (pc := 106) (st := []) dX2_drifted_106 rfl rfl ?_
          apply jm_eqN
          unfold m_dr m_to m_b2 m_b1
          generalize m_pc w c wet = p at *
          (repeat' split) <;> (try dsimp only) <;> omega
        · refine jm_iload (Y := YX2_drifted) (pc := 91) dX2_drifted_91 rfl ?_
          refine jm_if_leN (Y := YX2_drifted) (pc := 93) dX2_drifted_93 rfl (by first | omega | exact jm_lt hb _) (fun h_93 => ?_) (fun h_93 => ?_)
          · refine jm_iload (Y := YX2_drifted) (pc := 99) dX2_drifted_99 rfl ?_
            refine jm_iload (Y := YX2_drifted) (pc := 101) dX2_drifted_101 rfl ?_
            refine jm_S2ie (Y := YX2_drifted) (pc := 103) dX2_drifted_103 lk_RX2_78 ⟨_, rfl⟩ rfl rfl (by decide) (Nat.le_of_ble_eq_true rfl) ⟨by decide, by decide⟩ (m_packed _ _ _ (by omega) (by omega)) ?_
            refine jm_ret (Y := YX2_drifted) (pc := 106) (st := []) dX2_drifted_106 rfl rfl ?_
            apply jm_eqN
            unfold m_dr m_to m_b2 m_b1
            generalize m_pc w c wet = p at *
            (repeat' split) <;> (try dsimp only) <;> omega
          · refine jm_decN (Y := YX2_drifted) (pc := 96) (ls' := [_, _, _, _, _, _, _, _]) dX2_drifted_96 rfl rfl (by first | omega | exact jm_lt hb _) rfl ?_
            refine jm_iload (Y := YX2_drifted) (pc := 99) dX2_drifted_99 rfl ?_
            refine jm_iload (Y := YX2_drifted) (pc := 101) dX2_drifted_101 rfl ?_
            refine jm_S2ie (Y := YX2_drifted) (pc := 103) dX2_drifted_103 lk_RX2_78 ⟨_, rfl⟩ rfl rfl (by decide) (Nat.le_of_ble_eq_true rfl) ⟨by decide, by decide⟩ (m_packed _ _ _ (by omega) (by omega)) ?_
            refine jm_ret (Y := YX2_drifted) (pc := 106) (st := []) dX2_drifted_106 rfl rfl ?_
            apply jm_eqN
            unfold m_dr m_to m_b2 m_b1
            generalize m_pc w c wet = p at *
            (repeat' split) <;> (try dsimp only) <;> omega
      · refine jm_iload (Y := YX2_drifted) (pc := 71) dX2_drifted_71 rfl ?_
        refine jm_ald_n (Y := YX2_drifted) (pc := 73) (i := 0) dX2_drifted_73 rfl rfl ?_
        first | refine jm_getE (Y := YX2_drifted) (pc := 74) dX2_drifted_74 fw_RX2_18 (by first | exact jm_obR ha | exact jm_obR hb | rfl) (by decide) (by first | exact jm_rf2 | rfl) (by assumption) ?_ | refine jm_getE (Y := YX2_drifted) (pc := 74) dX2_drifted_74 fw_RX2_18 (by first | exact jm_obR ha | exact jm_obR hb | rfl) (by decide) (by first | exact jm_rf2 | rfl) (by exact hR.1.1) ?_ | refine jm_getE (Y := YX2_drifted) (pc := 74) dX2_drifted_74 fw_RX2_18 (by first | exact jm_obR ha | exact jm_obR hb | rfl) (by decide) (by first | exact jm_rf2 | rfl) (by exact hR.1.2.1) ?_ | refine jm_getE (Y := YX2_drifted) (pc := 74) dX2_drifted_74 fw_RX2_18 (by first | exact jm_obR ha | exact jm_obR hb | rfl) (by decide) (by first | exact jm_rf2 | rfl) (by exact hR.1.2.2.1) ?_ | refine jm_getE (Y := YX2_drifted) (pc := 74) dX2_drifted_74 fw_RX2_18 (by first | exact jm_obR ha | exact jm_obR hb | rfl) (by decide) (by first | exact jm_rf2 | rfl) (by exact hR.1.2.2.2.1) ?_ | refine jm_getE (Y := YX2_drifted) (pc := 74) dX2_drifted_74 fw_RX2_18 (by first | exact jm_obR ha | exact jm_obR hb | rfl) (by decide) (by first | exact jm_rf2 | rfl) (by exact hR.1.2.2.2.2) ?_ | refine jm_getE (Y := YX2_drifted) (pc := 74) dX2_drifted_74 fw_RX2_18 (by first | exact jm_obR ha | exact jm_obR hb | rfl) (by decide) (by first | exact jm_rf2 | rfl) (by exact hR.2.1 _ (by omega)) ?_ | refine jm_getE (Y := YX2_drifted) (pc := 74) dX2_drifted_74 fw_RX2_18 (by first | exact jm_obR ha | exact jm_obR hb | rfl) (by decide) (by first | exact jm_rf2 | rfl) (by exact (hR.2.2 _ (by omega)).1) ?_ | refine jm_getE (Y := YX2_drifted) (pc := 74) dX2_drifted_74 fw_RX2_18 (by first | exact jm_obR ha | exact jm_obR hb | rfl) (by decide) (by first | exact jm_rf2 | rfl) (by exact (hR.2.2 _ (by omega)).2) ?_ | refine jm_getI (Y := YX2_drifted) (pc := 74) dX2_drifted_74 fw_RX2_18.F (by first | exact jm_obR ha | exact jm_obR hb | rfl) (by decide) (by first | exact jm_rf2 | rfl) ?_ | fail
        refine jm_icmp_leN (Y := YX2_drifted) (pc := 77) dX2_drifted_77 rfl (by first | omega | exact jm_lt hb _) (by first | omega | exact jm_lt hb _) (fun h_77 => ?_) (fun h_77 => ?_)
        · refine jm_ild_n (Y := YX2_drifted) (pc := 86) (i := 1) dX2_drifted_86 rfl rfl ?_
          refine jm_icN (Y := YX2_drifted) (pc := 87) 2 dX2_drifted_87 rfl ?_
          refine jm_icmp_neN (Y := YX2_drifted) (pc := 88) dX2_drifted_88 rfl (by first | omega | exact jm_lt hb _) (by first | omega | exact jm_lt hb _) (fun h_88 => ?_) (fun h_88 => ?_)
          · refine jm_iload (Y := YX2_drifted) (pc := 99) dX2_drifted_99 rfl ?_
            refine jm_iload (Y := YX2_drifted) (pc := 101) dX2_drifted_101 rfl ?_
            refine jm_S2ie (Y := YX2_drifted) (pc := 103) dX2_drifted_103 lk_RX2_78 ⟨_, rfl⟩ rfl rfl (by decide) (Nat.le_of_ble_eq_true rfl) ⟨by decide, by decide⟩ (m_packed _ _ _ (by omega) (by omega)) ?_
            refine jm_ret (Y := YX2_drifted) (pc := 106) (st := []) dX2_drifted_106 rfl rfl ?_
            apply jm_eqN
            unfold m_dr m_to m_b2 m_b1
            generalize m_pc w c wet = p at *
            (repeat' split) <;> (try dsimp only) <;> omega
          · refine jm_iload (Y := YX2_drifted) (pc := 91) dX2_drifted_91 rfl ?_
            refine jm_if_leN (Y := YX2_drifted) (pc := 93) dX2_drifted_93 rfl (by first | omega | exact jm_lt hb _) (fun h_93 => ?_) (fun h_93 => ?_)
            · refine jm_iload (Y := YX2_drifted) (pc := 99) dX2_drifted_99 rfl ?_
              refine jm_iload (Y := YX2_drifted) (pc := 101) dX2_drifted_101 rfl ?_
              refine jm_S2ie (Y := YX2_drifted) (pc := 103) dX2_drifted_103 lk_RX2_78 ⟨_, rfl⟩ rfl rfl (by decide) (Nat.le_of_ble_eq_true rfl) ⟨by decide, by decide⟩ (m_packed _ _ _ (by omega) (by omega)) ?_
              refine jm_ret (Y := YX2_drifted) (pc := 106) (st := []) dX2_drifted_106 rfl rfl ?_
              apply jm_eqN
              unfold m_dr m_to m_b2 m_b1
              generalize m_pc w c wet = p at *
              (repeat' split) <;> (try dsimp only) <;> omega
            · refine jm_decN (Y := YX2_drifted) (pc := 96) (ls' := [_, _, _, _, _, _, _, _]) dX2_drifted_96 rfl rfl (by first | omega | exact jm_lt hb _) rfl ?_
              refine jm_iload (Y := YX2_drifted) (pc := 99) dX2_drifted_99 rfl ?_
              refine jm_iload (Y := YX2_drifted) (pc := 101) dX2_drifted_101 rfl ?_
              refine jm_S2ie (Y := YX2_drifted) (pc := 103) dX2_drifted_103 lk_RX2_78 ⟨_, rfl⟩ rfl rfl (by decide) (Nat.le_of_ble_eq_true rfl) ⟨by decide, by decide⟩ (m_packed _ _ _ (by omega) (by omega)) ?_
              refine jm_ret (Y := YX2_drifted) (pc := 106) (st := []) dX2_drifted_106 rfl rfl ?_
              apply jm_eqN
              unfold m_dr m_to m_b2 m_b1
              generalize m_pc w c wet = p at *
              (repeat' split) <;> (try dsimp only) <;> omega
        · refine jm_iload (Y := YX2_drifted) (pc := 80) dX2_drifted_80 rfl ?_
          refine jm_icN (Y := YX2_drifted) (pc := 82) 2 dX2_drifted_82 rfl ?_
          refine jm_divN (Y := YX2_drifted) (pc := 83) dX2_drifted_83 (by first | omega | exact jm_lt hb _) (by first | omega | exact jm_lt hb _) (by first | omega | exact jm_lt hb _) ?_
          refine jm_ist (Y := YX2_drifted) (pc := 84) (ls' := [_, _, _, _, _, _, _, _]) dX2_drifted_84 (Nat.le_of_ble_eq_true rfl) rfl rfl ?_
          refine jm_ild_n (Y := YX2_drifted) (pc := 86) (i := 1) dX2_drifted_86 rfl rfl ?_
          refine jm_icN (Y := YX2_drifted) (pc := 87) 2 dX2_drifted_87 rfl ?_
          refine jm_icmp_neN (Y := YX2_drifted) (pc := 88) dX2_drifted_88 rfl (by first | omega | exact jm_lt hb _) (by first | omega | exact jm_lt hb _) (fun h_88 => ?_) (fun h_88 => ?_)
          · refine jm_iload (Y := YX2_drifted) (pc := 99) dX2_drifted_99 rfl ?_
            refine jm_iload (Y := YX2_drifted) (pc := 101) dX2_drifted_101 rfl ?_
            refine jm_S2ie (Y := YX2_drifted) (pc := 103) dX2_drifted_103 lk_RX2_78 ⟨_, rfl⟩ rfl rfl (by decide) (Nat.le_of_ble_eq_true rfl) ⟨by decide, by decide⟩ (m_packed _ _ _ (by omega) (by omega)) ?_
            refine jm_ret (Y := YX2_drifted) (pc := 106) (st := []) dX2_drifted_106 rfl rfl ?_
            apply jm_eqN
            unfold m_dr m_to m_b2 m_b1
            generalize m_pc w c wet = p at *
            (repeat' split) <;> (try dsimp only) <;> omega
          · refine jm_iload (Y := YX2_drifted) (pc := 91) dX2_drifted_91 rfl ?_
            refine jm_if_leN (Y := YX2_drifted) (pc := 93) dX2_drifted_93 rfl (by first | omega | exact jm_lt hb _) (fun h_93 => ?_) (fun h_93 => ?_)
            · refine jm_iload (Y := YX2_drifted) (pc := 99) dX2_drifted_99 rfl ?_
              refine jm_iload (Y := YX2_drifted) (pc := 101) dX2_drifted_101 rfl ?_
              refine jm_S2ie (Y := YX2_drifted) (pc := 103) dX2_drifted_103 lk_RX2_78 ⟨_, rfl⟩ rfl rfl (by decide) (Nat.le_of_ble_eq_true rfl) ⟨by decide, by decide⟩ (m_packed _ _ _ (by omega) (by omega)) ?_
              refine jm_ret (Y := YX2_drifted) (pc := 106) (st := []) dX2_drifted_106 rfl rfl ?_
              apply jm_eqN
              unfold m_dr m_to m_b2 m_b1
              generalize m_pc w c wet = p at *
              (repeat' split) <;> (try dsimp only) <;> omega
            · refine jm_decN (Y := YX2_drifted) (pc := 96) (ls' := [_, _, _, _, _, _, _, _]) dX2_drifted_96 rfl rfl (by first | omega | exact jm_lt hb _) rfl ?_
              refine jm_iload (Y := YX2_drifted) (pc := 99) dX2_drifted_99 rfl ?_
              refine jm_iload (Y := YX2_drifted) (pc := 101) dX2_drifted_101 rfl ?_
              refine jm_S2ie (Y := YX2_drifted) (pc := 103) dX2_drifted_103 lk_RX2_78 ⟨_, rfl⟩ rfl rfl (by decide) (Nat.le_of_ble_eq_true rfl) ⟨by decide, by decide⟩ (m_packed _ _ _ (by omega) (by omega)) ?_
              refine jm_ret (Y := YX2_drifted) (pc := 106) (st := []) dX2_drifted_106 rfl rfl ?_
              apply jm_eqN
              unfold m_dr m_to m_b2 m_b1
              generalize m_pc w c wet = p at *
              (repeat' split) <;> (try dsimp only) <;> omega
    · refine jm_icN (Y := YX2_drifted) (pc := 55) 0 dX2_drifted_55 rfl ?_
      refine jm_iload (Y := YX2_drifted) (pc := 56) dX2_drifted_56 rfl ?_
      refine jm_S2ie (Y := YX2_drifted) (pc := 58) dX2_drifted_58 lk_RX2_78 ⟨_, rfl⟩ rfl rfl (by decide) (Nat.le_of_ble_eq_true rfl) ⟨by decide, by decide⟩ (m_packed _ _ _ (by omega) (by omega)) ?_
      refine jm_ret (Y := YX2_drifted) (pc := 61) (st := []) dX2_drifted_61 rfl rfl ?_
      apply jm_eqN
      unfold m_dr m_to m_b2 m_b1
      generalize m_pc w c wet = p at *
      (repeat' split) <;> (try dsimp only) <;> omega
  · refine jm_iload (Y := YX2_drifted) (pc := 28) dX2_drifted_28 rfl ?_
    refine jm_icN (Y := YX2_drifted) (pc := 30) 1 dX2_drifted_30 rfl ?_
    refine jm_icmp_leN (Y := YX2_drifted) (pc := 31) dX2_drifted_31 rfl (by first | omega | exact jm_lt hb _) (by first | omega | exact jm_lt hb _) (fun h_31 => ?_) (fun h_31 => ?_)
    · refine jm_iload (Y := YX2_drifted) (pc := 41) dX2_drifted_41 rfl ?_
      refine jm_addN (Y := YX2_drifted) (pc := 43) dX2_drifted_43 ?_
      refine jm_ist (Y := YX2_drifted) (pc := 44) (ls' := [_, _, _, _, _, _, _, _]) dX2_drifted_44 (Nat.le_of_ble_eq_true rfl) rfl rfl ?_
      refine jm_iload (Y := YX2_drifted) (pc := 46) dX2_drifted_46 rfl ?_
      refine jm_ald_n (Y := YX2_drifted) (pc := 48) (i := 0) dX2_drifted_48 rfl rfl ?_
      first | refine jm_getE (Y := YX2_drifted) (pc := 49) dX2_drifted_49 fw_RX2_9 (by first | exact jm_obR ha | exact jm_obR hb | rfl) (by decide) (by first | exact jm_rf0 | rfl) (by assumption) ?_ | refine jm_getE (Y := YX2_drifted) (pc := 49) dX2_drifted_49 fw_RX2_9 (by first | exact jm_obR ha | exact jm_obR hb | rfl) (by decide) (by first | exact jm_rf0 | rfl) (by exact hR.1.1) ?_ | refine jm_getE (Y := YX2_drifted) (pc := 49) dX2_drifted_49 fw_RX2_9 (by first | exact jm_obR ha | exact jm_obR hb | rfl) (by decide) (by first | exact jm_rf0 | rfl) (by exact hR.1.2.1) ?_ | refine jm_getE (Y := YX2_drifted) (pc := 49) dX2_drifted_49 fw_RX2_9 (by first | exact jm_obR ha | exact jm_obR hb | rfl) (by decide) (by first | exact jm_rf0 | rfl) (by exact hR.1.2.2.1) ?_ | refine jm_getE (Y := YX2_drifted) (pc := 49) dX2_drifted_49 fw_RX2_9 (by first | exact jm_obR ha | exact jm_obR hb | rfl) (by decide) (by first | exact jm_rf0 | rfl) (by exact hR.1.2.2.2.1) ?_ | refine jm_getE (Y := YX2_drifted) (pc := 49) dX2_drifted_49 fw_RX2_9 (by first | exact jm_obR ha | exact jm_obR hb | rfl) (by decide) (by first | exact jm_rf0 | rfl) (by exact hR.1.2.2.2.2) ?_ | refine jm_getE (Y := YX2_drifted) (pc := 49) dX2_drifted_49 fw_RX2_9 (by first | exact jm_obR ha | exact jm_obR hb | rfl) (by decide) (by first | exact jm_rf0 | rfl) (by exact hR.2.1 _ (by omega)) ?_ | refine jm_getE (Y := YX2_drifted) (pc := 49) dX2_drifted_49 fw_RX2_9 (by first | exact jm_obR ha | exact jm_obR hb | rfl) (by decide) (by first | exact jm_rf0 | rfl) (by exact (hR.2.2 _ (by omega)).1) ?_ | refine jm_getE (Y := YX2_drifted) (pc := 49) dX2_drifted_49 fw_RX2_9 (by first | exact jm_obR ha | exact jm_obR hb | rfl) (by decide) (by first | exact jm_rf0 | rfl) (by exact (hR.2.2 _ (by omega)).2) ?_ | refine jm_getI (Y := YX2_drifted) (pc := 49) dX2_drifted_49 fw_RX2_9.F (by first | exact jm_obR ha | exact jm_obR hb | rfl) (by decide) (by first | exact jm_rf0 | rfl) ?_ | fail
      refine jm_icmp_ltN (Y := YX2_drifted) (pc := 52) dX2_drifted_52 rfl (by first | omega | exact jm_lt hb _) (by first | omega | exact jm_lt hb _) (fun h_52 => ?_) (fun h_52 => ?_)
      · refine jm_iload (Y := YX2_drifted) (pc := 62) dX2_drifted_62 rfl ?_
        refine jm_ald_n (Y := YX2_drifted) (pc := 64) (i := 0) dX2_drifted_64 rfl rfl ?_
        first | refine jm_getE (Y := YX2_drifted) (pc := 65) dX2_drifted_65 fw_RX2_18 (by first | exact jm_obR ha | exact jm_obR hb | rfl) (by decide) (by first | exact jm_rf2 | rfl) (by assumption) ?_ | refine jm_getE (Y := YX2_drifted) (pc := 65) dX2_drifted_65 fw_RX2_18 (by first | exact jm_obR ha | exact jm_obR hb | rfl) (by decide) (by first | exact jm_rf2 | rfl) (by exact hR.1.1) ?_ | refine jm_getE (Y := YX2_drifted) (pc := 65) dX2_drifted_65 fw_RX2_18 (by first | exact jm_obR ha | exact jm_obR hb | rfl) (by decide) (by first | exact jm_rf2 | rfl) (by exact hR.1.2.1) ?_ | refine jm_getE (Y := YX2_drifted) (pc := 65) dX2_drifted_65 fw_RX2_18 (by first | exact jm_obR ha | exact jm_obR hb | rfl) (by decide) (by first | exact jm_rf2 | rfl) (by exact hR.1.2.2.1) ?_ | refine jm_getE (Y := YX2_drifted) (pc := 65) dX2_drifted_65 fw_RX2_18 (by first | exact jm_obR ha | exact jm_obR hb | rfl) (by decide) (by first | exact jm_rf2 | rfl) (by exact hR.1.2.2.2.1) ?_ | refine jm_getE (Y := YX2_drifted) (pc := 65) dX2_drifted_65 fw_RX2_18 (by first | exact jm_obR ha | exact jm_obR hb | rfl) (by decide) (by first | exact jm_rf2 | rfl) (by exact hR.1.2.2.2.2) ?_ | refine jm_getE (Y := YX2_drifted) (pc := 65) dX2_drifted_65 fw_RX2_18 (by first | exact jm_obR ha | exact jm_obR hb | rfl) (by decide) (by first | exact jm_rf2 | rfl) (by exact hR.2.1 _ (by omega)) ?_ | refine jm_getE (Y := YX2_drifted) (pc := 65) dX2_drifted_65 fw_RX2_18 (by first | exact jm_obR ha | exact jm_obR hb | rfl) (by decide) (by first | exact jm_rf2 | rfl) (by exact (hR.2.2 _ (by omega)).1) ?_ | refine jm_getE (Y := YX2_drifted) (pc := 65) dX2_drifted_65 fw_RX2_18 (by first | exact jm_obR ha | exact jm_obR hb | rfl) (by decide) (by first | exact jm_rf2 | rfl) (by exact (hR.2.2 _ (by omega)).2) ?_ | refine jm_getI (Y := YX2_drifted) (pc := 65) dX2_drifted_65 fw_RX2_18.F (by first | exact jm_obR ha | exact jm_obR hb | rfl) (by decide) (by first | exact jm_rf2 | rfl) ?_ | fail
        refine jm_icmp_gtN (Y := YX2_drifted) (pc := 68) dX2_drifted_68 rfl (by first | omega | exact jm_lt hb _) (by first | omega | exact jm_lt hb _) (fun h_68 => ?_) (fun h_68 => ?_)
        · refine jm_ild_n (Y := YX2_drifted) (pc := 86) (i := 1) dX2_drifted_86 rfl rfl ?_
          refine jm_icN (Y := YX2_drifted) (pc := 87) 2 dX2_drifted_87 rfl ?_
          refine jm_icmp_neN (Y := YX2_drifted) (pc := 88) dX2_drifted_88 rfl (by first | omega | exact jm_lt hb _) (by first | omega | exact jm_lt hb _) (fun h_88 => ?_) (fun h_88 => ?_)
          · refine jm_iload (Y := YX2_drifted) (pc := 99) dX2_drifted_99 rfl ?_
            refine jm_iload (Y := YX2_drifted) (pc := 101) dX2_drifted_101 rfl ?_
            refine jm_S2ie (Y := YX2_drifted) (pc := 103) dX2_drifted_103 lk_RX2_78 ⟨_, rfl⟩ rfl rfl (by decide) (Nat.le_of_ble_eq_true rfl) ⟨by decide, by decide⟩ (m_packed _ _ _ (by omega) (by omega)) ?_
            refine jm_ret (Y := YX2_drifted) (pc := 106) (st := []) dX2_drifted_106 rfl rfl ?_
            apply jm_eqN
            unfold m_dr m_to m_b2 m_b1
            generalize m_pc w c wet = p at *
            (repeat' split) <;> (try dsimp only) <;> omega
          · refine jm_iload (Y := YX2_drifted) (pc := 91) dX2_drifted_91 rfl ?_
            refine jm_if_leN (Y := YX2_drifted) (pc := 93) dX2_drifted_93 rfl (by first | omega | exact jm_lt hb _) (fun h_93 => ?_) (fun h_93 => ?_)
            · refine jm_iload (Y := YX2_drifted) (pc := 99) dX2_drifted_99 rfl ?_
              refine jm_iload (Y := YX2_drifted) (pc := 101) dX2_drifted_101 rfl ?_
              refine jm_S2ie (Y := YX2_drifted) (pc := 103) dX2_drifted_103 lk_RX2_78 ⟨_, rfl⟩ rfl rfl (by decide) (Nat.le_of_ble_eq_true rfl) ⟨by decide, by decide⟩ (m_packed _ _ _ (by omega) (by omega)) ?_
              refine jm_ret (Y := YX2_drifted) (pc := 106) (st := []) dX2_drifted_106 rfl rfl ?_
              apply jm_eqN
              unfold m_dr m_to m_b2 m_b1
              generalize m_pc w c wet = p at *
              (repeat' split) <;> (try dsimp only) <;> omega
            · refine jm_decN (Y := YX2_drifted) (pc := 96) (ls' := [_, _, _, _, _, _, _, _]) dX2_drifted_96 rfl rfl (by first | omega | exact jm_lt hb _) rfl ?_
              refine jm_iload (Y := YX2_drifted) (pc := 99) dX2_drifted_99 rfl ?_
              refine jm_iload (Y := YX2_drifted) (pc := 101) dX2_drifted_101 rfl ?_
              refine jm_S2ie (Y := YX2_drifted) (pc := 103) dX2_drifted_103 lk_RX2_78 ⟨_, rfl⟩ rfl rfl (by decide) (Nat.le_of_ble_eq_true rfl) ⟨by decide, by decide⟩ (m_packed _ _ _ (by omega) (by omega)) ?_
              refine jm_ret (Y := YX2_drifted) (pc := 106) (st := []) dX2_drifted_106 rfl rfl ?_
              apply jm_eqN
              unfold m_dr m_to m_b2 m_b1
              generalize m_pc w c wet = p at *
              (repeat' split) <;> (try dsimp only) <;> omega
        · refine jm_iload (Y := YX2_drifted) (pc := 71) dX2_drifted_71 rfl ?_
          refine jm_ald_n (Y := YX2_drifted) (pc := 73) (i := 0) dX2_drifted_73 rfl rfl ?_
          first | refine jm_getE (Y := YX2_drifted) (pc := 74) dX2_drifted_74 fw_RX2_18 (by first | exact jm_obR ha | exact jm_obR hb | rfl) (by decide) (by first | exact jm_rf2 | rfl) (by assumption) ?_ | refine jm_getE (Y := YX2_drifted) (pc := 74) dX2_drifted_74 fw_RX2_18 (by first | exact jm_obR ha | exact jm_obR hb | rfl) (by decide) (by first | exact jm_rf2 | rfl) (by exact hR.1.1) ?_ | refine jm_getE (Y := YX2_drifted) (pc := 74) dX2_drifted_74 fw_RX2_18 (by first | exact jm_obR ha | exact jm_obR hb | rfl) (by decide) (by first | exact jm_rf2 | rfl) (by exact hR.1.2.1) ?_ | refine jm_getE (Y := YX2_drifted) (pc := 74) dX2_drifted_74 fw_RX2_18 (by first | exact jm_obR ha | exact jm_obR hb | rfl) (by decide) (by first | exact jm_rf2 | rfl) (by exact hR.1.2.2.1) ?_ | refine jm_getE (Y := YX2_drifted) (pc := 74) dX2_drifted_74 fw_RX2_18 (by first | exact jm_obR ha | exact jm_obR hb | rfl) (by decide) (by first | exact jm_rf2 | rfl) (by exact hR.1.2.2.2.1) ?_ | refine jm_getE (Y := YX2_drifted) (pc := 74) dX2_drifted_74 fw_RX2_18 (by first | exact jm_obR ha | exact jm_obR hb | rfl) (by decide) (by first | exact jm_rf2 | rfl) (by exact hR.1.2.2.2.2) ?_ | refine jm_getE (Y := YX2_drifted) (pc := 74) dX2_drifted_74 fw_RX2_18 (by first | exact jm_obR ha | exact jm_obR hb | rfl) (by decide) (by first | exact jm_rf2 | rfl) (by exact hR.2.1 _ (by omega)) ?_ | refine jm_getE (Y := YX2_drifted) (pc := 74) dX2_drifted_74 fw_RX2_18 (by first | exact jm_obR ha | exact jm_obR hb | rfl) (by decide) (by first | exact jm_rf2 | rfl) (by exact (hR.2.2 _ (by omega)).1) ?_ | refine jm_getE (Y := YX2_drifted) (pc := 74) dX2_drifted_74 fw_RX2_18 (by first | exact jm_obR ha | exact jm_obR hb | rfl) (by decide) (by first | exact jm_rf2 | rfl) (by exact (hR.2.2 _ (by omega)).2) ?_ | refine jm_getI (Y := YX2_drifted) (pc := 74) dX2_drifted_74 fw_RX2_18.F (by first | exact jm_obR ha | exact jm_obR hb | rfl) (by decide) (by first | exact jm_rf2 | rfl) ?_ | fail
          refine jm_icmp_leN (Y := YX2_drifted) (pc := 77) dX2_drifted_77 rfl (by first | omega | exact jm_lt hb _) (by first | omega | exact jm_lt hb _) (fun h_77 => ?_) (fun h_77 => ?_)
          · refine jm_ild_n (Y := YX2_drifted) (pc := 86) (i := 1) dX2_drifted_86 rfl rfl ?_
            refine jm_icN (Y := YX2_drifted) (pc := 87) 2 dX2_drifted_87 rfl ?_
            refine jm_icmp_neN (Y := YX2_drifted) (pc := 88) dX2_drifted_88 rfl (by first | omega | exact jm_lt hb _) (by first | omega | exact jm_lt hb _) (fun h_88 => ?_) (fun h_88 => ?_)
            · refine jm_iload (Y := YX2_drifted) (pc := 99) dX2_drifted_99 rfl ?_
              refine jm_iload (Y := YX2_drifted) (pc := 101) dX2_drifted_101 rfl ?_
              refine jm_S2ie (Y := YX2_drifted) (pc := 103) dX2_drifted_103 lk_RX2_78 ⟨_, rfl⟩ rfl rfl (by decide) (Nat.le_of_ble_eq_true rfl) ⟨by decide, by decide⟩ (m_packed _ _ _ (by omega) (by omega)) ?_
              refine jm_ret (Y := YX2_drifted) (pc := 106) (st := []) dX2_drifted_106 rfl rfl ?_
              apply jm_eqN
              unfold m_dr m_to m_b2 m_b1
              generalize m_pc w c wet = p at *
              (repeat' split) <;> (try dsimp only) <;> omega
            · refine jm_iload (Y := YX2_drifted) (pc := 91) dX2_drifted_91 rfl ?_
              refine jm_if_leN (Y := YX2_drifted) (pc := 93) dX2_drifted_93 rfl (by first | omega | exact jm_lt hb _) (fun h_93 => ?_) (fun h_93 => ?_)
              · refine jm_iload (Y := YX2_drifted) (pc := 99) dX2_drifted_99 rfl ?_
                refine jm_iload (Y := YX2_drifted) (pc := 101) dX2_drifted_101 rfl ?_
                refine jm_S2ie (Y := YX2_drifted) (pc := 103) dX2_drifted_103 lk_RX2_78 ⟨_, rfl⟩ rfl rfl (by decide) (Nat.le_of_ble_eq_true rfl) ⟨by decide, by decide⟩ (m_packed _ _ _ (by omega) (by omega)) ?_
                refine jm_ret (Y := YX2_drifted) (pc := 106) (st := []) dX2_drifted_106 rfl rfl ?_
                apply jm_eqN
                unfold m_dr m_to m_b2 m_b1
                generalize m_pc w c wet = p at *
                (repeat' split) <;> (try dsimp only) <;> omega
              · refine jm_decN (Y := YX2_drifted) (pc := 96) (ls' := [_, _, _, _, _, _, _, _]) dX2_drifted_96 rfl rfl (by first | omega | exact jm_lt hb _) rfl ?_
                refine jm_iload (Y := YX2_drifted) (pc := 99) dX2_drifted_99 rfl ?_
                refine jm_iload (Y := YX2_drifted) (pc := 101) dX2_drifted_101 rfl ?_
                refine jm_S2ie (Y := YX2_drifted) (pc := 103) dX2_drifted_103 lk_RX2_78 ⟨_, rfl⟩ rfl rfl (by decide) (Nat.le_of_ble_eq_true rfl) ⟨by decide, by decide⟩ (m_packed _ _ _ (by omega) (by omega)) ?_
                refine jm_ret (Y := YX2_drifted) (pc := 106) (st := []) dX2_drifted_106 rfl rfl ?_
                apply jm_eqN
                unfold m_dr m_to m_b2 m_b1
                generalize m_pc w c wet = p at *
                (repeat' split) <;> (try dsimp only) <;> omega
          · refine jm_iload (Y := YX2_drifted) (pc := 80) dX2_drifted_80 rfl ?_
            refine jm_icN (Y := YX2_drifted) (pc := 82) 2 dX2_drifted_82 rfl ?_
            refine jm_divN (Y := YX2_drifted) (pc := 83) dX2_drifted_83 (by first | omega | exact jm_lt hb _) (by first | omega | exact jm_lt hb _) (by first | omega | exact jm_lt hb _) ?_
            refine jm_ist (Y := YX2_drifted) (pc := 84) (ls' := [_, _, _, _, _, _, _, _]) dX2_drifted_84 (Nat.le_of_ble_eq_true rfl) rfl rfl ?_
            refine jm_ild_n (Y := YX2_drifted) (pc := 86) (i := 1) dX2_drifted_86 rfl rfl ?_
            refine jm_icN (Y := YX2_drifted) (pc := 87) 2 dX2_drifted_87 rfl ?_
            refine jm_icmp_neN (Y := YX2_drifted) (pc := 88) dX2_drifted_88 rfl (by first | omega | exact jm_lt hb _) (by first | omega | exact jm_lt hb _) (fun h_88 => ?_) (fun h_88 => ?_)
            · refine jm_iload (Y := YX2_drifted) (pc := 99) dX2_drifted_99 rfl ?_
              refine jm_iload (Y := YX2_drifted) (pc := 101) dX2_drifted_101 rfl ?_
              refine jm_S2ie (Y := YX2_drifted) (pc := 103) dX2_drifted_103 lk_RX2_78 ⟨_, rfl⟩ rfl rfl (by decide) (Nat.le_of_ble_eq_true rfl) ⟨by decide, by decide⟩ (m_packed _ _ _ (by omega) (by omega)) ?_
              refine jm_ret (Y := YX2_drifted) (pc := 106) (st := []) dX2_drifted_106 rfl rfl ?_
              apply jm_eqN
              unfold m_dr m_to m_b2 m_b1
              generalize m_pc w c wet = p at *
              (repeat' split) <;> (try dsimp only) <;> omega
            · refine jm_iload (Y := YX2_drifted) (pc := 91) dX2_drifted_91 rfl ?_
              refine jm_if_leN (Y := YX2_drifted) (pc := 93) dX2_drifted_93 rfl (by first | omega | exact jm_lt hb _) (fun h_93 => ?_) (fun h_93 => ?_)
              · refine jm_iload (Y := YX2_drifted) (pc := 99) dX2_drifted_99 rfl ?_
                refine jm_iload (Y := YX2_drifted) (pc := 101) dX2_drifted_101 rfl ?_
                refine jm_S2ie (Y := YX2_drifted) (pc := 103) dX2_drifted_103 lk_RX2_78 ⟨_, rfl⟩ rfl rfl (by decide) (Nat.le_of_ble_eq_true rfl) ⟨by decide, by decide⟩ (m_packed _ _ _ (by omega) (by omega)) ?_
                refine jm_ret (Y := YX2_drifted) (pc := 106) (st := []) dX2_drifted_106 rfl rfl ?_
                apply jm_eqN
                unfold m_dr m_to m_b2 m_b1
                generalize m_pc w c wet = p at *
                (repeat' split) <;> (try dsimp only) <;> omega
              · refine jm_decN (Y := YX2_drifted) (pc := 96) (ls' := [_, _, _, _, _, _, _, _]) dX2_drifted_96 rfl rfl (by first | omega | exact jm_lt hb _) rfl ?_
                refine jm_iload (Y := YX2_drifted) (pc := 99) dX2_drifted_99 rfl ?_
                refine jm_iload (Y := YX2_drifted) (pc := 101) dX2_drifted_101 rfl ?_
                refine jm_S2ie (Y := YX2_drifted) (pc := 103) dX2_drifted_103 lk_RX2_78 ⟨_, rfl⟩ rfl rfl (by decide) (Nat.le_of_ble_eq_true rfl) ⟨by decide, by decide⟩ (m_packed _ _ _ (by omega) (by omega)) ?_
                refine jm_ret (Y := YX2_drifted) (pc := 106) (st := []) dX2_drifted_106 rfl rfl ?_
                apply jm_eqN
                unfold m_dr m_to m_b2 m_b1
                generalize m_pc w c wet = p at *
                (repeat' split) <;> (try dsimp only) <;> omega
      · refine jm_icN (Y := YX2_drifted) (pc := 55) 0 dX2_drifted_55 rfl ?_
        refine jm_iload (Y := YX2_drifted) (pc := 56) dX2_drifted_56 rfl ?_
        refine jm_S2ie (Y := YX2_drifted) (pc := 58) dX2_drifted_58 lk_RX2_78 ⟨_, rfl⟩ rfl rfl (by decide) (Nat.le_of_ble_eq_true rfl) ⟨by decide, by decide⟩ (m_packed _ _ _ (by omega) (by omega)) ?_
        refine jm_ret (Y := YX2_drifted) (pc := 61) (st := []) dX2_drifted_61 rfl rfl ?_
        apply jm_eqN
        unfold m_dr m_to m_b2 m_b1
        generalize m_pc w c wet = p at *
        (repeat' split) <;> (try dsimp only) <;> omega
    · refine jm_iload (Y := YX2_drifted) (pc := 34) dX2_drifted_34 rfl ?_
      refine jm_icN (Y := YX2_drifted) (pc := 36) 1 dX2_drifted_36 rfl ?_
      refine jm_subN (Y := YX2_drifted) (pc := 37) dX2_drifted_37 (by first | omega | exact jm_lt hb _) ?_
      refine jm_goto (Y := YX2_drifted) (pc := 38) dX2_drifted_38 rfl ?_
      refine jm_addN (Y := YX2_drifted) (pc := 43) dX2_drifted_43 ?_
      refine jm_ist (Y := YX2_drifted) (pc := 44) (ls' := [_, _, _, _, _, _, _, _]) dX2_drifted_44 (Nat.le_of_ble_eq_true rfl) rfl rfl ?_
      refine jm_iload (Y := YX2_drifted) (pc := 46) dX2_drifted_46 rfl ?_
      refine jm_ald_n (Y := YX2_drifted) (pc := 48) (i := 0) dX2_drifted_48 rfl rfl ?_
      first | refine jm_getE (Y := YX2_drifted) (pc := 49) dX2_drifted_49 fw_RX2_9 (by first | exact jm_obR ha | exact jm_obR hb | rfl) (by decide) (by first | exact jm_rf0 | rfl) (by assumption) ?_ | refine jm_getE (Y := YX2_drifted) (pc := 49) dX2_drifted_49 fw_RX2_9 (by first | exact jm_obR ha | exact jm_obR hb | rfl) (by decide) (by first | exact jm_rf0 | rfl) (by exact hR.1.1) ?_ | refine jm_getE (Y := YX2_drifted) (pc := 49) dX2_drifted_49 fw_RX2_9 (by first | exact jm_obR ha | exact jm_obR hb | rfl) (by decide) (by first | exact jm_rf0 | rfl) (by exact hR.1.2.1) ?_ | refine jm_getE (Y := YX2_drifted) (pc := 49) dX2_drifted_49 fw_RX2_9 (by first | exact jm_obR ha | exact jm_obR hb | rfl) (by decide) (by first | exact jm_rf0 | rfl) (by exact hR.1.2.2.1) ?_ | refine jm_getE (Y := YX2_drifted) (pc := 49) dX2_drifted_49 fw_RX2_9 (by first | exact jm_obR ha | exact jm_obR hb | rfl) (by decide) (by first | exact jm_rf0 | rfl) (by exact hR.1.2.2.2.1) ?_ | refine jm_getE (Y := YX2_drifted) (pc := 49) dX2_drifted_49 fw_RX2_9 (by first | exact jm_obR ha | exact jm_obR hb | rfl) (by decide) (by first | exact jm_rf0 | rfl) (by exact hR.1.2.2.2.2) ?_ | refine jm_getE (Y := YX2_drifted) (pc := 49) dX2_drifted_49 fw_RX2_9 (by first | exact jm_obR ha | exact jm_obR hb | rfl) (by decide) (by first | exact jm_rf0 | rfl) (by exact hR.2.1 _ (by omega)) ?_ | refine jm_getE (Y := YX2_drifted) (pc := 49) dX2_drifted_49 fw_RX2_9 (by first | exact jm_obR ha | exact jm_obR hb | rfl) (by decide) (by first | exact jm_rf0 | rfl) (by exact (hR.2.2 _ (by omega)).1) ?_ | refine jm_getE (Y := YX2_drifted) (pc := 49) dX2_drifted_49 fw_RX2_9 (by first | exact jm_obR ha | exact jm_obR hb | rfl) (by decide) (by first | exact jm_rf0 | rfl) (by exact (hR.2.2 _ (by omega)).2) ?_ | refine jm_getI (Y := YX2_drifted) (pc := 49) dX2_drifted_49 fw_RX2_9.F (by first | exact jm_obR ha | exact jm_obR hb | rfl) (by decide) (by first | exact jm_rf0 | rfl) ?_ | fail
      refine jm_icmp_ltN (Y := YX2_drifted) (pc := 52) dX2_drifted_52 rfl (by first | omega | exact jm_lt hb _) (by first | omega | exact jm_lt hb _) (fun h_52 => ?_) (fun h_52 => ?_)
      · refine jm_iload (Y := YX2_drifted) (pc := 62) dX2_drifted_62 rfl ?_
        refine jm_ald_n (Y := YX2_drifted) (pc := 64) (i := 0) dX2_drifted_64 rfl rfl ?_
        first | refine jm_getE (Y := YX2_drifted) (pc := 65) dX2_drifted_65 fw_RX2_18 (by first | exact jm_obR ha | exact jm_obR hb | rfl) (by decide) (by first | exact jm_rf2 | rfl) (by assumption) ?_ | refine jm_getE (Y := YX2_drifted) (pc := 65) dX2_drifted_65 fw_RX2_18 (by first | exact jm_obR ha | exact jm_obR hb | rfl) (by decide) (by first | exact jm_rf2 | rfl) (by exact hR.1.1) ?_ | refine jm_getE (Y := YX2_drifted) (pc := 65) dX2_drifted_65 fw_RX2_18 (by first | exact jm_obR ha | exact jm_obR hb | rfl) (by decide) (by first | exact jm_rf2 | rfl) (by exact hR.1.2.1) ?_ | refine jm_getE (Y := YX2_drifted) (pc := 65) dX2_drifted_65 fw_RX2_18 (by first | exact jm_obR ha | exact jm_obR hb | rfl) (by decide) (by first | exact jm_rf2 | rfl) (by exact hR.1.2.2.1) ?_ | refine jm_getE (Y := YX2_drifted) (pc := 65) dX2_drifted_65 fw_RX2_18 (by first | exact jm_obR ha | exact jm_obR hb | rfl) (by decide) (by first | exact jm_rf2 | rfl) (by exact hR.1.2.2.2.1) ?_ | refine jm_getE (Y := YX2_drifted) (pc := 65) dX2_drifted_65 fw_RX2_18 (by first | exact jm_obR ha | exact jm_obR hb | rfl) (by decide) (by first | exact jm_rf2 | rfl) (by exact hR.1.2.2.2.2) ?_ | refine jm_getE (Y := YX2_drifted) (pc := 65) dX2_drifted_65 fw_RX2_18 (by first | exact jm_obR ha | exact jm_obR hb | rfl) (by decide) (by first | exact jm_rf2 | rfl) (by exact hR.2.1 _ (by omega)) ?_ | refine jm_getE (Y := YX2_drifted) (pc := 65) dX2_drifted_65 fw_RX2_18 (by first | exact jm_obR ha | exact jm_obR hb | rfl) (by decide) (by first | exact jm_rf2 | rfl) (by exact (hR.2.2 _ (by omega)).1) ?_ | refine jm_getE (Y := YX2_drifted) (pc := 65) dX2_drifted_65 fw_RX2_18 (by first | exact jm_obR ha | exact jm_obR hb | rfl) (by decide) (by first | exact jm_rf2 | rfl) (by exact (hR.2.2 _ (by omega)).2) ?_ | refine jm_getI (Y := YX2_drifted) (pc := 65) dX2_drifted_65 fw_RX2_18.F (by first | exact jm_obR ha | exact jm_obR hb | rfl) (by decide) (by first | exact jm_rf2 | rfl) ?_ | fail
        refine jm_icmp_gtN (Y := YX2_drifted) (pc := 68) dX2_drifted_68 rfl (by first | omega | exact jm_lt hb _) (by first | omega | exact jm_lt hb _) (fun h_68 => ?_) (fun h_68 => ?_)
        · refine jm_ild_n (Y := YX2_drifted) (pc := 86) (i := 1) dX2_drifted_86 rfl rfl ?_
          refine jm_icN (Y := YX2_drifted) (pc := 87) 2 dX2_drifted_87 rfl ?_
          refine jm_icmp_neN (Y := YX2_drifted) (pc := 88) dX2_drifted_88 rfl (by first | omega | exact jm_lt hb _) (by first | omega | exact jm_lt hb _) (fun h_88 => ?_) (fun h_88 => ?_)
          · refine jm_iload (Y := YX2_drifted) (pc := 99) dX2_drifted_99 rfl ?_
            refine jm_iload (Y := YX2_drifted) (pc := 101) dX2_drifted_101 rfl ?_
            refine jm_S2ie (Y := YX2_drifted) (pc := 103) dX2_drifted_103 lk_RX2_78 ⟨_, rfl⟩ rfl rfl (by decide) (Nat.le_of_ble_eq_true rfl) ⟨by decide, by decide⟩ (m_packed _ _ _ (by omega) (by omega)) ?_
            refine jm_ret (Y := YX2_drifted) (pc := 106) (st := []) dX2_drifted_106 rfl rfl ?_
            apply jm_eqN
            unfold m_dr m_to m_b2 m_b1
            generalize m_pc w c wet = p at *
            (repeat' split) <;> (try dsimp only) <;> omega
          · refine jm_iload (Y := YX2_drifted) (pc := 91) dX2_drifted_91 rfl ?_
            refine jm_if_leN (Y := YX2_drifted) (pc := 93) dX2_drifted_93 rfl (by first | omega | exact jm_lt hb _) (fun h_93 => ?_) (fun h_93 => ?_)
            · refine jm_iload (Y := YX2_drifted) (pc := 99) dX2_drifted_99 rfl ?_
              refine jm_iload (Y := YX2_drifted) (pc := 101) dX2_drifted_101 rfl ?_
              refine jm_S2ie (Y := YX2_drifted) (pc := 103) dX2_drifted_103 lk_RX2_78 ⟨_, rfl⟩ rfl rfl (by decide) (Nat.le_of_ble_eq_true rfl) ⟨by decide, by decide⟩ (m_packed _ _ _ (by omega) (by omega)) ?_
              refine jm_ret (Y := YX2_drifted) (pc := 106) (st := []) dX2_drifted_106 rfl rfl ?_
              apply jm_eqN
              unfold m_dr m_to m_b2 m_b1
              generalize m_pc w c wet = p at *
              (repeat' split) <;> (try dsimp only) <;> omega
            · refine jm_decN (Y := YX2_drifted) (pc := 96) (ls' := [_, _, _, _, _, _, _, _]) dX2_drifted_96 rfl rfl (by first | omega | exact jm_lt hb _) rfl ?_
              refine jm_iload (Y := YX2_drifted) (pc := 99) dX2_drifted_99 rfl ?_
              refine jm_iload (Y := YX2_drifted) (pc := 101) dX2_drifted_101 rfl ?_
              refine jm_S2ie (Y := YX2_drifted) (pc := 103) dX2_drifted_103 lk_RX2_78 ⟨_, rfl⟩ rfl rfl (by decide) (Nat.le_of_ble_eq_true rfl) ⟨by decide, by decide⟩ (m_packed _ _ _ (by omega) (by omega)) ?_
              refine jm_ret (Y := YX2_drifted) (pc := 106) (st := []) dX2_drifted_106 rfl rfl ?_
              apply jm_eqN
              unfold m_dr m_to m_b2 m_b1
              generalize m_pc w c wet = p at *
              (repeat' split) <;> (try dsimp only) <;> omega
        · refine jm_iload (Y := YX2_drifted) (pc := 71) dX2_drifted_71 rfl ?_
          refine jm_ald_n (Y := YX2_drifted) (pc := 73) (i := 0) dX2_drifted_73 rfl rfl ?_
          first | refine jm_getE (Y := YX2_drifted) (pc := 74) dX2_drifted_74 fw_RX2_18 (by first | exact jm_obR ha | exact jm_obR hb | rfl) (by decide) (by first | exact jm_rf2 | rfl) (by assumption) ?_ | refine jm_getE (Y := YX2_drifted) (pc := 74) dX2_drifted_74 fw_RX2_18 (by first | exact jm_obR ha | exact jm_obR hb | rfl) (by decide) (by first | exact jm_rf2 | rfl) (by exact hR.1.1) ?_ | refine jm_getE (Y := YX2_drifted) (pc := 74) dX2_drifted_74 fw_RX2_18 (by first | exact jm_obR ha | exact jm_obR hb | rfl) (by decide) (by first | exact jm_rf2 | rfl) (by exact hR.1.2.1) ?_ | refine jm_getE (Y := YX2_drifted) (pc := 74) dX2_drifted_74 fw_RX2_18 (by first | exact jm_obR ha | exact jm_obR hb | rfl) (by decide) (by first | exact jm_rf2 | rfl) (by exact hR.1.2.2.1) ?_ | refine jm_getE (Y := YX2_drifted) (pc := 74) dX2_drifted_74 fw_RX2_18 (by first | exact jm_obR ha | exact jm_obR hb | rfl) (by decide) (by first | exact jm_rf2 | rfl) (by exact hR.1.2.2.2.1) ?_ | refine jm_getE (Y := YX2_drifted) (pc := 74) dX2_drifted_74 fw_RX2_18 (by first | exact jm_obR ha | exact jm_obR hb | rfl) (by decide) (by first | exact jm_rf2 | rfl) (by exact hR.1.2.2.2.2) ?_ | refine jm_getE (Y := YX2_drifted) (pc := 74) dX2_drifted_74 fw_RX2_18 (by first | exact jm_obR ha | exact jm_obR hb | rfl) (by decide) (by first | exact jm_rf2 | rfl) (by exact hR.2.1 _ (by omega)) ?_ | refine jm_getE (Y := YX2_drifted) (pc := 74) dX2_drifted_74 fw_RX2_18 (by first | exact jm_obR ha | exact jm_obR hb | rfl) (by decide) (by first | exact jm_rf2 | rfl) (by exact (hR.2.2 _ (by omega)).1) ?_ | refine jm_getE (Y := YX2_drifted) (pc := 74) dX2_drifted_74 fw_RX2_18 (by first | exact jm_obR ha | exact jm_obR hb | rfl) (by decide) (by first | exact jm_rf2 | rfl) (by exact (hR.2.2 _ (by omega)).2) ?_ | refine jm_getI (Y := YX2_drifted) (pc := 74) dX2_drifted_74 fw_RX2_18.F (by first | exact jm_obR ha | exact jm_obR hb | rfl) (by decide) (by first | exact jm_rf2 | rfl) ?_ | fail
          refine jm_icmp_leN (Y := YX2_drifted) (pc := 77) dX2_drifted_77 rfl (by first | omega | exact jm_lt hb _) (by first | omega | exact jm_lt hb _) (fun h_77 => ?_) (fun h_77 => ?_)
          · refine jm_ild_n (Y := YX2_drifted) (pc := 86) (i := 1) dX2_drifted_86 rfl rfl ?_
            refine jm_icN (Y := YX2_drifted) (pc := 87) 2 dX2_drifted_87 rfl ?_
            refine jm_icmp_neN (Y := YX2_drifted) (pc := 88) dX2_drifted_88 rfl (by first | omega | exact jm_lt hb _) (by first | omega | exact jm_lt hb _) (fun h_88 => ?_) (fun h_88 => ?_)
            · refine jm_iload (Y := YX2_drifted) (pc := 99) dX2_drifted_99 rfl ?_
              refine jm_iload (Y := YX2_drifted) (pc := 101) dX2_drifted_101 rfl ?_
              refine jm_S2ie (Y := YX2_drifted) (pc := 103) dX2_drifted_103 lk_RX2_78 ⟨_, rfl⟩ rfl rfl (by decide) (Nat.le_of_ble_eq_true rfl) ⟨by decide, by decide⟩ (m_packed _ _ _ (by omega) (by omega)) ?_
              refine jm_ret (Y := YX2_drifted) (pc := 106) (st := []) dX2_drifted_106 rfl rfl ?_
              apply jm_eqN
              unfold m_dr m_to m_b2 m_b1
              generalize m_pc w c wet = p at *
              (repeat' split) <;> (try dsimp only) <;> omega
            · refine jm_iload (Y := YX2_drifted) (pc := 91) dX2_drifted_91 rfl ?_
              refine jm_if_leN (Y := YX2_drifted) (pc := 93) dX2_drifted_93 rfl (by first | omega | exact jm_lt hb _) (fun h_93 => ?_) (fun h_93 => ?_)
              · refine jm_iload (Y := YX2_drifted) (pc := 99) dX2_drifted_99 rfl ?_
                refine jm_iload (Y := YX2_drifted) (pc := 101) dX2_drifted_101 rfl ?_
                refine jm_S2ie (Y := YX2_drifted) (pc := 103) dX2_drifted_103 lk_RX2_78 ⟨_, rfl⟩ rfl rfl (by decide) (Nat.le_of_ble_eq_true rfl) ⟨by decide, by decide⟩ (m_packed _ _ _ (by omega) (by omega)) ?_
                refine jm_ret (Y := YX2_drifted) (pc := 106) (st := []) dX2_drifted_106 rfl rfl ?_
                apply jm_eqN
                unfold m_dr m_to m_b2 m_b1
                generalize m_pc w c wet = p at *
                (repeat' split) <;> (try dsimp only) <;> omega
              · refine jm_decN (Y := YX2_drifted) (pc := 96) (ls' := [_, _, _, _, _, _, _, _]) dX2_drifted_96 rfl rfl (by first | omega | exact jm_lt hb _) rfl ?_
                refine jm_iload (Y := YX2_drifted) (pc := 99) dX2_drifted_99 rfl ?_
                refine jm_iload (Y := YX2_drifted) (pc := 101) dX2_drifted_101 rfl ?_
                refine jm_S2ie (Y := YX2_drifted) (pc := 103) dX2_drifted_103 lk_RX2_78 ⟨_, rfl⟩ rfl rfl (by decide) (Nat.le_of_ble_eq_true rfl) ⟨by decide, by decide⟩ (m_packed _ _ _ (by omega) (by omega)) ?_
                refine jm_ret (Y := YX2_drifted) (pc := 106) (st := []) dX2_drifted_106 rfl rfl ?_
                apply jm_eqN
                unfold m_dr m_to m_b2 m_b1
                generalize m_pc w c wet = p at *
                (repeat' split) <;> (try dsimp only) <;> omega
          · refine jm_iload (Y := YX2_drifted) (pc := 80) dX2_drifted_80 rfl ?_
            refine jm_icN (Y := YX2_drifted) (pc := 82) 2 dX2_drifted_82 rfl ?_
            refine jm_divN (Y := YX2_drifted) (pc := 83) dX2_drifted_83 (by first | omega | exact jm_lt hb _) (by first | omega | exact jm_lt hb _) (by first | omega | exact jm_lt hb _) ?_
            refine jm_ist (Y := YX2_drifted) (pc := 84) (ls' := [_, _, _, _, _, _, _, _]) dX2_drifted_84 (Nat.le_of_ble_eq_true rfl) rfl rfl ?_
            refine jm_ild_n (Y := YX2_drifted) (pc := 86) (i := 1) dX2_drifted_86 rfl rfl ?_
            refine jm_icN (Y := YX2_drifted) (pc := 87) 2 dX2_drifted_87 rfl ?_
            refine jm_icmp_neN (Y := YX2_drifted) (pc := 88) dX2_drifted_88 rfl (by first | omega | exact jm_lt hb _) (by first | omega | exact jm_lt hb _) (fun h_88 => ?_) (fun h_88 => ?_)
            · refine jm_iload (Y := YX2_drifted) (pc := 99) dX2_drifted_99 rfl ?_
              refine jm_iload (Y := YX2_drifted) (pc := 101) dX2_drifted_101 rfl ?_
              refine jm_S2ie (Y := YX2_drifted) (pc := 103) dX2_drifted_103 lk_RX2_78 ⟨_, rfl⟩ rfl rfl (by decide) (Nat.le_of_ble_eq_true rfl) ⟨by decide, by decide⟩ (m_packed _ _ _ (by omega) (by omega)) ?_
              refine jm_ret (Y := YX2_drifted) (pc := 106) (st := []) dX2_drifted_106 rfl rfl ?_
              apply jm_eqN
              unfold m_dr m_to m_b2 m_b1
              generalize m_pc w c wet = p at *
              (repeat' split) <;> (try dsimp only) <;> omega
            · refine jm_iload (Y := YX2_drifted) (pc := 91) dX2_drifted_91 rfl ?_
              refine jm_if_leN (Y := YX2_drifted) (pc := 93) dX2_drifted_93 rfl (by first | omega | exact jm_lt hb _) (fun h_93 => ?_) (fun h_93 => ?_)
              · refine jm_iload (Y := YX2_drifted) (pc := 99) dX2_drifted_99 rfl ?_
                refine jm_iload (Y := YX2_drifted) (pc := 101) dX2_drifted_101 rfl ?_
                refine jm_S2ie (Y := YX2_drifted) (pc := 103) dX2_drifted_103 lk_RX2_78 ⟨_, rfl⟩ rfl rfl (by decide) (Nat.le_of_ble_eq_true rfl) ⟨by decide, by decide⟩ (m_packed _ _ _ (by omega) (by omega)) ?_
                refine jm_ret (Y := YX2_drifted) (pc := 106) (st := []) dX2_drifted_106 rfl rfl ?_
                apply jm_eqN
                unfold m_dr m_to m_b2 m_b1
                generalize m_pc w c wet = p at *
                (repeat' split) <;> (try dsimp only) <;> omega
              · refine jm_decN (Y := YX2_drifted) (pc := 96) (ls' := [_, _, _, _, _, _, _, _]) dX2_drifted_96 rfl rfl (by first | omega | exact jm_lt hb _) rfl ?_
                refine jm_iload (Y := YX2_drifted) (pc := 99) dX2_drifted_99 rfl ?_
                refine jm_iload (Y := YX2_drifted) (pc := 101) dX2_drifted_101 rfl ?_
                refine jm_S2ie (Y := YX2_drifted) (pc := 103) dX2_drifted_103 lk_RX2_78 ⟨_, rfl⟩ rfl rfl (by decide) (Nat.le_of_ble_eq_true rfl) ⟨by decide, by decide⟩ (m_packed _ _ _ (by omega) (by omega)) ?_
                refine jm_ret (Y := YX2_drifted) (pc := 106) (st := []) dX2_drifted_106 rfl rfl ?_
                apply jm_eqN
                unfold m_dr m_to m_b2 m_b1
                generalize m_pc w c wet = p at *
                (repeat' split) <;> (try dsimp only) <;> omega
      · refine jm_icN (Y := YX2_drifted) (pc := 55) 0 dX2_drifted_55 rfl ?_
        refine jm_iload (Y := YX2_drifted) (pc := 56) dX2_drifted_56 rfl ?_
        refine jm_S2ie (Y := YX2_drifted) (pc := 58) dX2_drifted_58 lk_RX2_78 ⟨_, rfl⟩ rfl rfl (by decide) (Nat.le_of_ble_eq_true rfl) ⟨by decide, by decide⟩ (m_packed _ _ _ (by omega) (by omega)) ?_
        refine jm_ret (Y := YX2_drifted) (pc := 61) (st := []) dX2_drifted_61 rfl rfl ?_
        apply jm_eqN
        unfold m_dr m_to m_b2 m_b1
        generalize m_pc w c wet = p at *
        (repeat' split) <;> (try dsimp only) <;> omega
theorem m_c1_0 {w : Nat → Nat} {b c : Nat} {wet : Prop} [Decidable wet] (h : ¬ (0 < c ∧ ¬ (c = w 1 + 1 ∧ b < 20) ∧ m_pc w c wet ≤ 2)) : m_c1 w b c wet = c := if_neg h
theorem m_c1_1 {w : Nat → Nat} {b c : Nat} {wet : Prop} [Decidable wet] (h : 0 < c ∧ ¬ (c = w 1 + 1 ∧ b < 20) ∧ m_pc w c wet ≤ 2) : m_c1 w b c wet = c - 1 := if_pos h
theorem m_cl_s (w : Nat → Nat) (b : Nat) (wet : Prop) [Decidable wet] (n c : Nat) : m_cl w b wet (n + 1) c = m_cl w b wet n (m_c1 w b c wet) := rfl
theorem m_climbed0 (r : Nat) (ha : r < 28) (w : Nat → Nat) (M : jm_M) (hR : RV M r w) (hg : rG w) (b n : Nat) (h60 : b ≤ 60) (hn : n ≤ 2) (l1 : Option Value) (wet : Prop) [Decidable wet] : ∀ (m : Nat) (i c : Nat) (l7 : Option Value), i ≤ n → c < w 2 → n - i < m → jm_J none YX2_climbed 15 [some (.ref (32 + 4 * r)), l1, some (.int (nI n)), some (.int (jm_b wet)), some (.int (nI b)), some (.int (nI c)), some (.int (nI i)), l7] [] M (jm_is (some (.int (nI (16 * b + m_cl w b wet (n - i) c)))) M) := by
  intro m
  induction m with
  | zero => intros; omega
  | succ m ih =>
    intro i c l7 hi hc hmm
    have hpw := m_pc_le w c wet
    have hpb := hg.hb (5 + c)
    have hb := hg.hb
    have g0 := hg.1.1
    have g1 := hg.1.2.1
    have g2 := hg.1.2.2.1
    have g3 := hg.1.2.2.2.1
    have g4 := hg.1.2.2.2.2
    refine jm_iload (Y := YX2_climbed) (pc := 15) dX2_climbed_15 rfl ?_
    refine jm_ild_n (Y := YX2_climbed) (pc := 17) (i := 2) dX2_climbed_17 rfl rfl ?_
    refine jm_icmp_geN (Y := YX2_climbed) (pc := 18) dX2_climbed_18 rfl (by first | omega | exact jm_lt hb _) (by first | omega | exact jm_lt hb _) (fun h_18 => ?_) (fun h_18 => ?_)
    · refine jm_iload (Y := YX2_climbed) (pc := 76) dX2_climbed_76 rfl ?_
      have ei : i = n := (by omega)
      subst ei
      rw [Nat.sub_self]
      refine jm_iload (Y := YX2_climbed) (pc := 78) dX2_climbed_78 rfl ?_
      refine jm_S2ie (Y := YX2_climbed) (pc := 80) dX2_climbed_80 lk_RX2_78 ⟨_, rfl⟩ rfl rfl (by decide) (Nat.le_of_ble_eq_true rfl) ⟨by decide, by decide⟩ (m_packed _ _ _ (by omega) (by omega)) ?_
      refine jm_ret (Y := YX2_climbed) (pc := 83) (st := []) dX2_climbed_83 rfl rfl ?_
      exact ⟨rfl, rfl⟩
    · refine jm_iload (Y := YX2_climbed) (pc := 21) dX2_climbed_21 rfl ?_
      refine jm_ald_n (Y := YX2_climbed) (pc := 23) (i := 0) dX2_climbed_23 rfl rfl ?_
      first | refine jm_getE (Y := YX2_climbed) (pc := 24) dX2_climbed_24 fw_RX2_18 (by first | exact jm_obR ha | exact jm_obR hb | rfl) (by decide) (by first | exact jm_rf2 | rfl) (by assumption) ?_ | refine jm_getE (Y := YX2_climbed) (pc := 24) dX2_climbed_24 fw_RX2_18 (by first | exact jm_obR ha | exact jm_obR hb | rfl) (by decide) (by first | exact jm_rf2 | rfl) (by exact hR.1.1) ?_ | refine jm_getE (Y := YX2_climbed) (pc := 24) dX2_climbed_24 fw_RX2_18 (by first | exact jm_obR ha | exact jm_obR hb | rfl) (by decide) (by first | exact jm_rf2 | rfl) (by exact hR.1.2.1) ?_ | refine jm_getE (Y := YX2_climbed) (pc := 24) dX2_climbed_24 fw_RX2_18 (by first | exact jm_obR ha | exact jm_obR hb | rfl) (by decide) (by first | exact jm_rf2 | rfl) (by exact hR.1.2.2.1) ?_ | refine jm_getE (Y := YX2_climbed) (pc := 24) dX2_climbed_24 fw_RX2_18 (by first | exact jm_obR ha | exact jm_obR hb | rfl) (by decide) (by first | exact jm_rf2 | rfl) (by exact hR.1.2.2.2.1) ?_ | refine jm_getE (Y := YX2_climbed) (pc := 24) dX2_climbed_24 fw_RX2_18 (by first | exact jm_obR ha | exact jm_obR hb | rfl) (by decide) (by first | exact jm_rf2 | rfl) (by exact hR.1.2.2.2.2) ?_ | refine jm_getE (Y := YX2_climbed) (pc := 24) dX2_climbed_24 fw_RX2_18 (by first | exact jm_obR ha | exact jm_obR hb | rfl) (by decide) (by first | exact jm_rf2 | rfl) (by exact hR.2.1 _ (by omega)) ?_ | refine jm_getE (Y := YX2_climbed) (pc := 24) dX2_climbed_24 fw_RX2_18 (by first | exact jm_obR ha | exact jm_obR hb | rfl) (by decide) (by first | exact jm_rf2 | rfl) (by exact (hR.2.2 _ (by omega)).1) ?_ | refine jm_getE (Y := YX2_climbed) (pc := 24) dX2_climbed_24 fw_RX2_18 (by first | exact jm_obR ha | exact jm_obR hb | rfl) (by decide) (by first | exact jm_rf2 | rfl) (by exact (hR.2.2 _ (by omega)).2) ?_ | refine jm_getI (Y := YX2_climbed) (pc := 24) dX2_climbed_24 fw_RX2_18.F (by first | exact jm_obR ha | exact jm_obR hb | rfl) (by decide) (by first | exact jm_rf2 | rfl) ?_ | fail
      refine jm_icN (Y := YX2_climbed) (pc := 27) 1 dX2_climbed_27 rfl ?_
      refine jm_addN (Y := YX2_climbed) (pc := 28) dX2_climbed_28 ?_
      refine jm_icmp_neN (Y := YX2_climbed) (pc := 29) dX2_climbed_29 rfl (by first | omega | exact jm_lt hb _) (by first | omega | exact jm_lt hb _) (fun h_29 => ?_) (fun h_29 => ?_)
      · refine jm_icN (Y := YX2_climbed) (pc := 43) 0 dX2_climbed_43 rfl ?_
        refine jm_ist (Y := YX2_climbed) (pc := 44) (ls' := [_, _, _, _, _, _, _, _]) dX2_climbed_44 (Nat.le_of_ble_eq_true rfl) rfl rfl ?_
        refine jm_iload (Y := YX2_climbed) (pc := 46) dX2_climbed_46 rfl ?_
        refine jm_if_leN (Y := YX2_climbed) (pc := 48) dX2_climbed_48 rfl (by first | omega | exact jm_lt hb _) (fun h_48 => ?_) (fun h_48 => ?_)
        · refine jm_incN (Y := YX2_climbed) (pc := 70) (m := 1) (ls' := [_, _, _, _, _, _, _, _]) dX2_climbed_70 rfl rfl rfl rfl ?_
          refine jm_goto (Y := YX2_climbed) (pc := 73) dX2_climbed_73 rfl ?_
          have es : n - i = (n - (i + 1)) + 1 := (by omega)
          rw [es, m_cl_s]
          first
            | (rw [m_c1_0 (by omega)]; exact ih (i + 1) c _ (by omega) (by omega) (by omega))
            | (rw [m_c1_1 (by omega)]; exact ih (i + 1) (c - 1) _ (by omega) (by omega) (by omega))
            | fail
        · refine jm_iload (Y := YX2_climbed) (pc := 51) dX2_climbed_51 rfl ?_
          refine jm_if_neN (Y := YX2_climbed) (pc := 53) dX2_climbed_53 rfl (by first | omega | exact jm_lt hb _) (fun h_53 => ?_) (fun h_53 => ?_)
          · refine jm_incN (Y := YX2_climbed) (pc := 70) (m := 1) (ls' := [_, _, _, _, _, _, _, _]) dX2_climbed_70 rfl rfl rfl rfl ?_
            refine jm_goto (Y := YX2_climbed) (pc := 73) dX2_climbed_73 rfl ?_
            have es : n - i = (n - (i + 1)) + 1 := (by omega)
            rw [es, m_cl_s]
            first
              | (rw [m_c1_0 (by omega)]; exact ih (i + 1) c _ (by omega) (by omega) (by omega))
              | (rw [m_c1_1 (by omega)]; exact ih (i + 1) (c - 1) _ (by omega) (by omega) (by omega))
              | fail
          · refine jm_ald_n (Y := YX2_climbed) (pc := 56) (i := 0) dX2_climbed_56 rfl rfl ?_
            refine jm_iload (Y := YX2_climbed) (pc := 57) dX2_climbed_57 rfl ?_
            refine jm_ild_n (Y := YX2_climbed) (pc := 59) (i := 3) dX2_climbed_59 rfl rfl ?_
            refine jm_V2ie (Y := YX2_climbed) (pc := 60) dX2_climbed_60 lk_RX2_74 ⟨_, rfl⟩ (by first | exact jm_obR ha | exact jm_obR hb | rfl) rfl rfl (by decide) (Nat.le_of_ble_eq_true rfl) ⟨by decide, by decide⟩ (m_paceOf r ha w _ hR hg _ (by omega) _) ?_
            refine jm_icN (Y := YX2_climbed) (pc := 63) 2 dX2_climbed_63 rfl ?_
            refine jm_icmp_gtN (Y := YX2_climbed) (pc := 64) dX2_climbed_64 rfl (by first | omega | exact jm_lt hb _) (by first | omega | exact jm_lt hb _) (fun h_64 => ?_) (fun h_64 => ?_)
            · refine jm_incN (Y := YX2_climbed) (pc := 70) (m := 1) (ls' := [_, _, _, _, _, _, _, _]) dX2_climbed_70 rfl rfl rfl rfl ?_
              refine jm_goto (Y := YX2_climbed) (pc := 73) dX2_climbed_73 rfl ?_
              have es : n - i = (n - (i + 1)) + 1 := (by omega)
              rw [es, m_cl_s]
              first
                | (rw [m_c1_0 (by omega)]; exact ih (i + 1) c _ (by omega) (by omega) (by omega))
                | (rw [m_c1_1 (by omega)]; exact ih (i + 1) (c - 1) _ (by omega) (by omega) (by omega))
                | fail
            · refine jm_decN (Y := YX2_climbed) (pc := 67) (ls' := [_, _, _, _, _, _, _, _]) dX2_climbed_67 rfl rfl (by first | omega | exact jm_lt hb _) rfl ?_
              refine jm_incN (Y := YX2_climbed) (pc := 70) (m := 1) (ls' := [_, _, _, _, _, _, _, _]) dX2_climbed_70 rfl rfl rfl rfl ?_
              refine jm_goto (Y := YX2_climbed) (pc := 73) dX2_climbed_73 rfl ?_
              have es : n - i = (n - (i + 1)) + 1 := (by omega)
              rw [es, m_cl_s]
              first
                | (rw [m_c1_0 (by omega)]; exact ih (i + 1) c _ (by omega) (by omega) (by omega))
                | (rw [m_c1_1 (by omega)]; exact ih (i + 1) (c - 1) _ (by omega) (by omega) (by omega))
                | fail
      · refine jm_iload (Y := YX2_climbed) (pc := 32) dX2_climbed_32 rfl ?_
        refine jm_bpN (Y := YX2_climbed) (pc := 34) 20 dX2_climbed_34 rfl ?_
        refine jm_icmp_geN (Y := YX2_climbed) (pc := 36) dX2_climbed_36 rfl (by first | omega | exact jm_lt hb _) (by first | omega | exact jm_lt hb _) (fun h_36 => ?_) (fun h_36 => ?_)
        · refine jm_icN (Y := YX2_climbed) (pc := 43) 0 dX2_climbed_43 rfl ?_
          refine jm_ist (Y := YX2_climbed) (pc := 44) (ls' := [_, _, _, _, _, _, _, _]) dX2_climbed_44 (Nat.le_of_ble_eq_true rfl) rfl rfl ?_
          refine jm_iload (Y := YX2_climbed) (pc := 46) dX2_climbed_46 rfl ?_
          refine jm_if_leN (Y := YX2_climbed) (pc := 48) dX2_climbed_48 rfl (by first | omega | exact jm_lt hb _) (fun h_48 => ?_) (fun h_48 => ?_)
          · refine jm_incN (Y := YX2_climbed) (pc := 70) (m := 1) (ls' := [_, _, _, _, _, _, _, _]) dX2_climbed_70 rfl rfl rfl rfl ?_
            refine jm_goto (Y := YX2_climbed) (pc := 73) dX2_climbed_73 rfl ?_
            have es : n - i = (n - (i + 1)) + 1 := (by omega)
            rw [es, m_cl_s]
            first
              | (rw [m_c1_0 (by omega)]; exact ih (i + 1) c _ (by omega) (by omega) (by omega))
              | (rw [m_c1_1 (by omega)]; exact ih (i + 1) (c - 1) _ (by omega) (by omega) (by omega))
              | fail
          · refine jm_iload (Y := YX2_climbed) (pc := 51) dX2_climbed_51 rfl ?_
            refine jm_if_neN (Y := YX2_climbed) (pc := 53) dX2_climbed_53 rfl (by first | omega | exact jm_lt hb _) (fun h_53 => ?_) (fun h_53 => ?_)
            · refine jm_incN (Y := YX2_climbed) (pc := 70) (m := 1) (ls' := [_, _, _, _, _, _, _, _]) dX2_climbed_70 rfl rfl rfl rfl ?_
              refine jm_goto (Y := YX2_climbed) (pc := 73) dX2_climbed_73 rfl ?_
              have es : n - i = (n - (i + 1)) + 1 := (by omega)
              rw [es, m_cl_s]
              first
                | (rw [m_c1_0 (by omega)]; exact ih (i + 1) c _ (by omega) (by omega) (by omega))
                | (rw [m_c1_1 (by omega)]; exact ih (i + 1) (c - 1) _ (by omega) (by omega) (by omega))
                | fail
            · refine jm_ald_n (Y := YX2_climbed) (pc := 56) (i := 0) dX2_climbed_56 rfl rfl ?_
              refine jm_iload (Y := YX2_climbed) (pc := 57) dX2_climbed_57 rfl ?_
              refine jm_ild_n (Y := YX2_climbed) (pc := 59) (i := 3) dX2_climbed_59 rfl rfl ?_
              refine jm_V2ie (Y := YX2_climbed) (pc := 60) dX2_climbed_60 lk_RX2_74 ⟨_, rfl⟩ (by first | exact jm_obR ha | exact jm_obR hb | rfl) rfl rfl (by decide) (Nat.le_of_ble_eq_true rfl) ⟨by decide, by decide⟩ (m_paceOf r ha w _ hR hg _ (by omega) _) ?_
              refine jm_icN (Y := YX2_climbed) (pc := 63) 2 dX2_climbed_63 rfl ?_
              refine jm_icmp_gtN (Y := YX2_climbed) (pc := 64) dX2_climbed_64 rfl (by first | omega | exact jm_lt hb _) (by first | omega | exact jm_lt hb _) (fun h_64 => ?_) (fun h_64 => ?_)
              · refine jm_incN (Y := YX2_climbed) (pc := 70) (m := 1) (ls' := [_, _, _, _, _, _, _, _]) dX2_climbed_70 rfl rfl rfl rfl ?_
                refine jm_goto (Y := YX2_climbed) (pc := 73) dX2_climbed_73 rfl ?_
                have es : n - i = (n - (i + 1)) + 1 := (by omega)
                rw [es, m_cl_s]
                first
                  | (rw [m_c1_0 (by omega)]; exact ih (i + 1) c _ (by omega) (by omega) (by omega))
                  | (rw [m_c1_1 (by omega)]; exact ih (i + 1) (c - 1) _ (by omega) (by omega) (by omega))
                  | fail
              · refine jm_decN (Y := YX2_climbed) (pc := 67) (ls' := [_, _, _, _, _, _, _, _]) dX2_climbed_67 rfl rfl (by first | omega | exact jm_lt hb _) rfl ?_
                refine jm_incN (Y := YX2_climbed) (pc := 70) (m := 1) (ls' := [_, _, _, _, _, _, _, _]) dX2_climbed_70 rfl rfl rfl rfl ?_
                refine jm_goto (Y := YX2_climbed) (pc := 73) dX2_climbed_73 rfl ?_
                have es : n - i = (n - (i + 1)) + 1 := (by omega)
                rw [es, m_cl_s]
                first
                  | (rw [m_c1_0 (by omega)]; exact ih (i + 1) c _ (by omega) (by omega) (by omega))
                  | (rw [m_c1_1 (by omega)]; exact ih (i + 1) (c - 1) _ (by omega) (by omega) (by omega))
                  | fail
        · refine jm_icN (Y := YX2_climbed) (pc := 39) 1 dX2_climbed_39 rfl ?_
          refine jm_goto (Y := YX2_climbed) (pc := 40) dX2_climbed_40 rfl ?_
          refine jm_ist (Y := YX2_climbed) (pc := 44) (ls' := [_, _, _, _, _, _, _, _]) dX2_climbed_44 (Nat.le_of_ble_eq_true rfl) rfl rfl ?_
          refine jm_iload (Y := YX2_climbed) (pc := 46) dX2_climbed_46 rfl ?_
          refine jm_if_leN (Y := YX2_climbed) (pc := 48) dX2_climbed_48 rfl (by first | omega | exact jm_lt hb _) (fun h_48 => ?_) (fun h_48 => ?_)
          · refine jm_incN (Y := YX2_climbed) (pc := 70) (m := 1) (ls' := [_, _, _, _, _, _, _, _]) dX2_climbed_70 rfl rfl rfl rfl ?_
            refine jm_goto (Y := YX2_climbed) (pc := 73) dX2_climbed_73 rfl ?_
            have es : n - i = (n - (i + 1)) + 1 := (by omega)
            rw [es, m_cl_s]
            first
              | (rw [m_c1_0 (by omega)]; exact ih (i + 1) c _ (by omega) (by omega) (by omega))
              | (rw [m_c1_1 (by omega)]; exact ih (i + 1) (c - 1) _ (by omega) (by omega) (by omega))
              | fail
          · refine jm_iload (Y := YX2_climbed) (pc := 51) dX2_climbed_51 rfl ?_
            refine jm_if_neN (Y := YX2_climbed) (pc := 53) dX2_climbed_53 rfl (by first | omega | exact jm_lt hb _) (fun h_53 => ?_) (fun h_53 => ?_)
            · refine jm_incN (Y := YX2_climbed) (pc := 70) (m := 1) (ls' := [_, _, _, _, _, _, _, _]) dX2_climbed_70 rfl rfl rfl rfl ?_
              refine jm_goto (Y := YX2_climbed) (pc := 73) dX2_climbed_73 rfl ?_
              have es : n - i = (n - (i + 1)) + 1 := (by omega)
              rw [es, m_cl_s]
              first
                | (rw [m_c1_0 (by omega)]; exact ih (i + 1) c _ (by omega) (by omega) (by omega))
                | (rw [m_c1_1 (by omega)]; exact ih (i + 1) (c - 1) _ (by omega) (by omega) (by omega))
                | fail
            · refine jm_ald_n (Y := YX2_climbed) (pc := 56) (i := 0) dX2_climbed_56 rfl rfl ?_
              refine jm_iload (Y := YX2_climbed) (pc := 57) dX2_climbed_57 rfl ?_
              refine jm_ild_n (Y := YX2_climbed) (pc := 59) (i := 3) dX2_climbed_59 rfl rfl ?_
              refine jm_V2ie (Y := YX2_climbed) (pc := 60) dX2_climbed_60 lk_RX2_74 ⟨_, rfl⟩ (by first | exact jm_obR ha | exact jm_obR hb | rfl) rfl rfl (by decide) (Nat.le_of_ble_eq_true rfl) ⟨by decide, by decide⟩ (m_paceOf r ha w _ hR hg _ (by omega) _) ?_
              refine jm_icN (Y := YX2_climbed) (pc := 63) 2 dX2_climbed_63 rfl ?_
              refine jm_icmp_gtN (Y := YX2_climbed) (pc := 64) dX2_climbed_64 rfl (by first | omega | exact jm_lt hb _) (by first | omega | exact jm_lt hb _) (fun h_64 => ?_) (fun h_64 => ?_)
              · refine jm_incN (Y := YX2_climbed) (pc := 70) (m := 1) (ls' := [_, _, _, _, _, _, _, _]) dX2_climbed_70 rfl rfl rfl rfl ?_
                refine jm_goto (Y := YX2_climbed) (pc := 73) dX2_climbed_73 rfl ?_
                have es : n - i = (n - (i + 1)) + 1 := (by omega)
                rw [es, m_cl_s]
                first
                  | (rw [m_c1_0 (by omega)]; exact ih (i + 1) c _ (by omega) (by omega) (by omega))
                  | (rw [m_c1_1 (by omega)]; exact ih (i + 1) (c - 1) _ (by omega) (by omega) (by omega))
                  | fail
              · refine jm_decN (Y := YX2_climbed) (pc := 67) (ls' := [_, _, _, _, _, _, _, _]) dX2_climbed_67 rfl rfl (by first | omega | exact jm_lt hb _) rfl ?_
                refine jm_incN (Y := YX2_climbed) (pc := 70) (m := 1) (ls' := [_, _, _, _, _, _, _, _]) dX2_climbed_70 rfl rfl rfl rfl ?_
                refine jm_goto (Y := YX2_climbed) (pc := 73) dX2_climbed_73 rfl ?_
                have es : n - i = (n - (i + 1)) + 1 := (by omega)
                rw [es, m_cl_s]
                first
                  | (rw [m_c1_0 (by omega)]; exact ih (i + 1) c _ (by omega) (by omega) (by omega))
                  | (rw [m_c1_1 (by omega)]; exact ih (i + 1) (c - 1) _ (by omega) (by omega) (by omega))
                  | fail
theorem m_climbed (r : Nat) (ha : r < 28) (w : Nat → Nat) (M : jm_M) (hR : RV M r w) (hg : rG w) (b c n : Nat) (h60 : b ≤ 60) (hc : c < w 2) (hn : n ≤ 2) (wet : Prop) [Decidable wet] : jm_J none YX2_climbed 0 [some (.ref (32 + 4 * r)), some (.int (nI (16 * b + c))), some (.int (nI n)), some (.int (jm_b wet)), none, none, none, none] [] M (jm_is (some (.int (nI (16 * b + m_cl w b wet n c)))) M) := by
  have hb := hg.hb
  have g0 := hg.1.1
  have g1 := hg.1.2.1
  have g2 := hg.1.2.2.1
  have g3 := hg.1.2.2.2.1
  have g4 := hg.1.2.2.2.2
  refine jm_ild_n (Y := YX2_climbed) (pc := 0) (i := 1) dX2_climbed_0 rfl rfl ?_
  refine jm_S1ie (Y := YX2_climbed) (pc := 1) dX2_climbed_1 lk_RX2_37 ⟨_, rfl⟩ rfl (by decide) (Nat.le_of_ble_eq_true rfl) ⟨by decide, by decide⟩ (m_sizeIn _ _ _ (by omega) (by omega)) ?_
  refine jm_ist (Y := YX2_climbed) (pc := 4) (ls' := [_, _, _, _, _, _, _, _]) dX2_climbed_4 (Nat.le_of_ble_eq_true rfl) rfl rfl ?_
  refine jm_ild_n (Y := YX2_climbed) (pc := 6) (i := 1) dX2_climbed_6 rfl rfl ?_
  refine jm_S1ie (Y := YX2_climbed) (pc := 7) dX2_climbed_7 lk_RX2_51 ⟨_, rfl⟩ rfl (by decide) (Nat.le_of_ble_eq_true rfl) ⟨by decide, by decide⟩ (m_cellIn _ _ _ (by omega) (by omega)) ?_
  refine jm_ist (Y := YX2_climbed) (pc := 10) (ls' := [_, _, _, _, _, _, _, _]) dX2_climbed_10 (Nat.le_of_ble_eq_true rfl) rfl rfl ?_
  refine jm_icN (Y := YX2_climbed) (pc := 12) 0 dX2_climbed_12 rfl ?_
  refine jm_ist (Y := YX2_climbed) (pc := 13) (ls' := [_, _, _, _, _, _, _, _]) dX2_climbed_13 (Nat.le_of_ble_eq_true rfl) rfl rfl ?_
  exact m_climbed0 r ha w M hR hg b n h60 hn _ wet 3 0 c none (by omega) hc (by omega)
theorem m_moved (r : Nat) (ha : r < 28) (w : Nat → Nat) (M : jm_M) (hR : RV M r w) (hg : rG w) (kd b c t : Nat) (h1 : 1 ≤ kd) (h5 : kd ≤ 5) (h60 : b ≤ 60) (hc : c < w 2) (ht : t < 100000) (wet : Prop) [Decidable wet] : jm_J none YX2_moved 0 [some (.ref (32 + 4 * r)), some (.int (nI kd)), some (.int (nI (16 * b + c))), some (.int (nI t)), some (.int (jm_b wet)), none] [] M (jm_is (some (.int (nI (16 * (m_mv w kd (b, c) t wet).1 + (m_mv w kd (b, c) t wet).2)))) M) := by
  have hb := hg.hb
  have g0 := hg.1.1
  have g1 := hg.1.2.1
  have g2 := hg.1.2.2.1
  have g3 := hg.1.2.2.2.1
  have g4 := hg.1.2.2.2.2
  have e4 : (4 = 0 ∨ 4 = kd ∨ 4 = m_ab kd) ↔ 4 ≤ kd := by unfold m_ab; (repeat' split) <;> omega
  refine jm_ild_n (Y := YX2_moved) (pc := 0) (i := 2) dX2_moved_0 rfl rfl ?_
  refine jm_S1ie (Y := YX2_moved) (pc := 1) dX2_moved_1 lk_RX2_47 ⟨_, rfl⟩ rfl (by decide) (Nat.le_of_ble_eq_true rfl) ⟨by decide, by decide⟩ (m_isGone _ _ _ (by omega) (by omega)) ?_
  refine jm_if_eqB (Y := YX2_moved) (pc := 4) dX2_moved_4 rfl (fun h_4 => ?_) (fun h_4 => ?_)
  · refine jm_ild_n (Y := YX2_moved) (pc := 9) (i := 1) dX2_moved_9 rfl rfl ?_
    refine jm_icN (Y := YX2_moved) (pc := 10) 4 dX2_moved_10 rfl ?_
    refine jm_S2ie (Y := YX2_moved) (pc := 11) dX2_moved_11 lk_RX2_56 ⟨_, rfl⟩ rfl rfl (by decide) (Nat.le_of_ble_eq_true rfl) ⟨by decide, by decide⟩ (m_isOne _ _ _ (by omega) (by omega) (by omega)) ?_
    refine jm_if_eqB (Y := YX2_moved) (pc := 14) dX2_moved_14 rfl (fun h_14 => ?_) (fun h_14 => ?_)
    · refine jm_ald_n (Y := YX2_moved) (pc := 45) (i := 0) dX2_moved_45 rfl rfl ?_
      refine jm_ild_n (Y := YX2_moved) (pc := 46) (i := 1) dX2_moved_46 rfl rfl ?_
      refine jm_ild_n (Y := YX2_moved) (pc := 47) (i := 2) dX2_moved_47 rfl rfl ?_
      refine jm_iload (Y := YX2_moved) (pc := 48) dX2_moved_48 rfl ?_
      refine jm_V3ie (Y := YX2_moved) (pc := 50) dX2_moved_50 lk_RX2_71 ⟨_, rfl⟩ (by first | exact jm_obR ha | exact jm_obR hb | rfl) rfl rfl rfl (by decide) (Nat.le_of_ble_eq_true rfl) ⟨by decide, by decide⟩ (m_drifted r ha w _ hR hg _ _ _ (by omega) (by omega) (by omega) _) ?_
      refine jm_ret (Y := YX2_moved) (pc := 53) (st := []) dX2_moved_53 rfl rfl ?_
      unfold m_mv
      first
        | (rw [if_pos h_4]; exact ⟨rfl, rfl⟩)
        | (rw [if_neg h_4, if_pos (e4.mp h_14), if_pos (by omega)]; exact ⟨rfl, rfl⟩)
        | (rw [if_neg h_4, if_pos (e4.mp h_14), if_neg (by omega)]; exact ⟨rfl, rfl⟩)
        | (rw [if_neg h_4, if_neg (fun z => h_14 (e4.mpr z))]; exact ⟨rfl, rfl⟩)
        | fail
    · refine jm_ild_n (Y := YX2_moved) (pc := 17) (i := 1) dX2_moved_17 rfl rfl ?_
      refine jm_icN (Y := YX2_moved) (pc := 18) 5 dX2_moved_18 rfl ?_
      refine jm_icmp_neN (Y := YX2_moved) (pc := 19) dX2_moved_19 rfl (by first | omega | exact jm_lt hb _) (by first | omega | exact jm_lt hb _) (fun h_19 => ?_) (fun h_19 => ?_)
      · refine jm_icN (Y := YX2_moved) (pc := 32) 1 dX2_moved_32 rfl ?_
        refine jm_ist (Y := YX2_moved) (pc := 33) (ls' := [_, _, _, _, _, _]) dX2_moved_33 (Nat.le_of_ble_eq_true rfl) rfl rfl ?_
        refine jm_ald_n (Y := YX2_moved) (pc := 35) (i := 0) dX2_moved_35 rfl rfl ?_
        refine jm_ild_n (Y := YX2_moved) (pc := 36) (i := 2) dX2_moved_36 rfl rfl ?_
        refine jm_iload (Y := YX2_moved) (pc := 37) dX2_moved_37 rfl ?_
        refine jm_iload (Y := YX2_moved) (pc := 39) dX2_moved_39 rfl ?_
        refine jm_V3ie (Y := YX2_moved) (pc := 41) dX2_moved_41 lk_RX2_67 ⟨_, rfl⟩ (by first | exact jm_obR ha | exact jm_obR hb | rfl) rfl rfl rfl (by decide) (Nat.le_of_ble_eq_true rfl) ⟨by decide, by decide⟩ (m_climbed r ha w _ hR hg _ _ _ (by omega) (by omega) (by omega) _) ?_
        refine jm_ret (Y := YX2_moved) (pc := 44) (st := []) dX2_moved_44 rfl rfl ?_
        unfold m_mv
        first
          | (rw [if_pos h_4]; exact ⟨rfl, rfl⟩)
          | (rw [if_neg h_4, if_pos (e4.mp h_14), if_pos (by omega)]; exact ⟨rfl, rfl⟩)
          | (rw [if_neg h_4, if_pos (e4.mp h_14), if_neg (by omega)]; exact ⟨rfl, rfl⟩)
          | (rw [if_neg h_4, if_neg (fun z => h_14 (e4.mpr z))]; exact ⟨rfl, rfl⟩)
          | fail
      · refine jm_ild_n (Y := YX2_moved) (pc := 22) (i := 3) dX2_moved_22 rfl rfl ?_
        refine jm_icN (Y := YX2_moved) (pc := 23) 2 dX2_moved_23 rfl ?_
        refine jm_remN (Y := YX2_moved) (pc := 24) dX2_moved_24 (by first | omega | exact jm_lt hb _) (by first | omega | exact jm_lt hb _) (by first | omega | exact jm_lt hb _) ?_
        refine jm_if_neN (Y := YX2_moved) (pc := 25) dX2_moved_25 rfl (by first | omega | exact jm_lt hb _) (fun h_25 => ?_) (fun h_25 => ?_)
        · refine jm_icN (Y := YX2_moved) (pc := 32) 1 dX2_moved_32 rfl ?_
          refine jm_ist (Y := YX2_moved) (pc := 33) (ls' := [_, _, _, _, _, _]) dX2_moved_33 (Nat.le_of_ble_eq_true rfl) rfl rfl ?_
          refine jm_ald_n (Y := YX2_moved) (pc := 35) (i := 0) dX2_moved_35 rfl rfl ?_
          refine jm_ild_n (Y := YX2_moved) (pc := 36) (i := 2) dX2_moved_36 rfl rfl ?_
          refine jm_iload (Y := YX2_moved) (pc := 37) dX2_moved_37 rfl ?_
          refine jm_iload (Y := YX2_moved) (pc := 39) dX2_moved_39 rfl ?_
          refine jm_V3ie (Y := YX2_moved) (pc := 41) dX2_moved_41 lk_RX2_67 ⟨_, rfl⟩ (by first | exact jm_obR ha | exact jm_obR hb | rfl) rfl rfl rfl (by decide) (Nat.le_of_ble_eq_true rfl) ⟨by decide, by decide⟩ (m_climbed r ha w _ hR hg _ _ _ (by omega) (by omega) (by omega) _) ?_
          refine jm_ret (Y := YX2_moved) (pc := 44) (st := []) dX2_moved_44 rfl rfl ?_
          unfold m_mv
          first
            | (rw [if_pos h_4]; exact ⟨rfl, rfl⟩)
            | (rw [if_neg h_4, if_pos (e4.mp h_14), if_pos (by omega)]; exact ⟨rfl, rfl⟩)
            | (rw [if_neg h_4, if_pos (e4.mp h_14), if_neg (by omega)]; exact ⟨rfl, rfl⟩)
            | (rw [if_neg h_4, if_neg (fun z => h_14 (e4.mpr z))]; exact ⟨rfl, rfl⟩)
            | fail
        · refine jm_icN (Y := YX2_moved) (pc := 28) 2 dX2_moved_28 rfl ?_
          refine jm_goto (Y := YX2_moved) (pc := 29) dX2_moved_29 rfl ?_
          refine jm_ist (Y := YX2_moved) (pc := 33) (ls' := [_, _, _, _, _, _]) dX2_moved_33 (Nat.le_of_ble_eq_true rfl) rfl rfl ?_
          refine jm_ald_n (Y := YX2_moved) (pc := 35) (i := 0) dX2_moved_35 rfl rfl ?_
          refine jm_ild_n (Y := YX2_moved) (pc := 36) (i := 2) dX2_moved_36 rfl rfl ?_
          refine jm_iload (Y := YX2_moved) (pc := 37) dX2_moved_37 rfl ?_
          refine jm_iload (Y := YX2_moved) (pc := 39) dX2_moved_39 rfl ?_
          refine jm_V3ie (Y := YX2_moved) (pc := 41) dX2_moved_41 lk_RX2_67 ⟨_, rfl⟩ (by first | exact jm_obR ha | exact jm_obR hb | rfl) rfl rfl rfl (by decide) (Nat.le_of_ble_eq_true rfl) ⟨by decide, by decide⟩ (m_climbed r ha w _ hR hg _ _ _ (by omega) (by omega) (by omega) _) ?_
          refine jm_ret (Y := YX2_moved) (pc := 44) (st := []) dX2_moved_44 rfl rfl ?_
          unfold m_mv
          first
            | (rw [if_pos h_4]; exact ⟨rfl, rfl⟩)
            | (rw [if_neg h_4, if_pos (e4.mp h_14), if_pos (by omega)]; exact ⟨rfl, rfl⟩)
            | (rw [if_neg h_4, if_pos (e4.mp h_14), if_neg (by omega)]; exact ⟨rfl, rfl⟩)
            | (rw [if_neg h_4, if_neg (fun z => h_14 (e4.mpr z))]; exact ⟨rfl, rfl⟩)
            | fail
  · refine jm_ild_n (Y := YX2_moved) (pc := 7) (i := 2) dX2_moved_7 rfl rfl ?_
    refine jm_ret (Y := YX2_moved) (pc := 8) (st := []) dX2_moved_8 rfl rfl ?_
    unfold m_mv
    first
      | (rw [if_pos h_4]; exact ⟨rfl, rfl⟩)
      | (rw [if_neg h_4, if_pos (e4.mp h_14), if_pos (by omega)]; exact ⟨rfl, rfl⟩)
      | (rw [if_neg h_4, if_pos (e4.mp h_14), if_neg (by omega)]; exact ⟨rfl, rfl⟩)
      | (rw [if_neg h_4, if_neg (fun z => h_14 (e4.mpr z))]; exact ⟨rfl, rfl⟩)
      | fail
