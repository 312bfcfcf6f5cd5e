/-! the class: kinds by letter, rows -/
theorem r_sh8 (x : BitVec 32) : (x <<< 24).sshiftRight 24 = (x.setWidth 8).signExtend 32 := by
  apply BitVec.eq_of_getLsbD_eq
  intro i hi
  simp only [BitVec.getLsbD_sshiftRight, BitVec.getLsbD_signExtend, BitVec.getLsbD_shiftLeft, BitVec.getLsbD_setWidth, BitVec.msb_eq_getLsbD_last]
  by_cases h : i < 8
  · have a1 : 24 + i < 32 := by omega
    have a2 : ¬ 24 + i < 24 := by omega
    have a3 : 24 + i - 24 = i := by omega
    simp [h, hi, a1, a2, a3]
  · have a1 : ¬ 24 + i < 32 := by omega
    simp [h, hi, a1]
theorem r_isRow (v : Int32) (M : jm_M) : jm_J none YX3_isRow 0 [some (.int v)] [] M (jm_is (some (.int (jm_b (0 ≤ v.toInt ∧ v.toInt ≤ 7)))) M) := by
  refine jm_ild_n (Y := YX3_isRow) (pc := 0) (i := 0) dX3_isRow_0 rfl rfl ?_
  refine jm_if_lt (Y := YX3_isRow) (pc := 1) dX3_isRow_1 rfl (fun h_1 => ?_) (fun h_1 => ?_)
  · refine jm_icN (Y := YX3_isRow) (pc := 14) 0 dX3_isRow_14 rfl ?_
    refine jm_ret (Y := YX3_isRow) (pc := 15) (st := []) dX3_isRow_15 rfl rfl ?_
    first | exact jm_bf (fun z => by have := jm_lt0.mp h_1; omega) | exact jm_bf (by omega) | exact jm_bt (by omega) | fail
  · have hv0 : 0 ≤ v.toInt := (Int.not_lt.mp (fun z => h_1 (jm_lt0.mpr z)))
    obtain ⟨x, hx, rfl⟩ := jm_nn h_1
    have hx2 := jm_tI hx
    refine jm_ild_n (Y := YX3_isRow) (pc := 4) (i := 0) dX3_isRow_4 rfl rfl ?_
    refine jm_bpN (Y := YX3_isRow) (pc := 5) 8 dX3_isRow_5 rfl ?_
    refine jm_icmp_geN (Y := YX3_isRow) (pc := 7) dX3_isRow_7 rfl (by omega) (by omega) (fun h_7 => ?_) (fun h_7 => ?_)
    · refine jm_icN (Y := YX3_isRow) (pc := 14) 0 dX3_isRow_14 rfl ?_
      refine jm_ret (Y := YX3_isRow) (pc := 15) (st := []) dX3_isRow_15 rfl rfl ?_
      first | exact jm_bf (fun z => by have := jm_lt0.mp h_1; omega) | exact jm_bf (by omega) | exact jm_bt (by omega) | fail
    · refine jm_icN (Y := YX3_isRow) (pc := 10) 1 dX3_isRow_10 rfl ?_
      refine jm_goto (Y := YX3_isRow) (pc := 11) dX3_isRow_11 rfl ?_
      refine jm_ret (Y := YX3_isRow) (pc := 15) (st := []) dX3_isRow_15 rfl rfl ?_
      first | exact jm_bf (fun z => by have := jm_lt0.mp h_1; omega) | exact jm_bf (by omega) | exact jm_bt (by omega) | fail
theorem r_isLane (v : Int32) (M : jm_M) : jm_J none YX3_isLane 0 [some (.int v)] [] M (jm_is (some (.int (jm_b (0 ≤ v.toInt ∧ v.toInt ≤ 2)))) M) := by
  refine jm_ild_n (Y := YX3_isLane) (pc := 0) (i := 0) dX3_isLane_0 rfl rfl ?_
  refine jm_if_lt (Y := YX3_isLane) (pc := 1) dX3_isLane_1 rfl (fun h_1 => ?_) (fun h_1 => ?_)
  · refine jm_icN (Y := YX3_isLane) (pc := 13) 0 dX3_isLane_13 rfl ?_
    refine jm_ret (Y := YX3_isLane) (pc := 14) (st := []) dX3_isLane_14 rfl rfl ?_
    first | exact jm_bf (fun z => by have := jm_lt0.mp h_1; omega) | exact jm_bf (by omega) | exact jm_bt (by omega) | fail
  · have hv0 : 0 ≤ v.toInt := (Int.not_lt.mp (fun z => h_1 (jm_lt0.mpr z)))
    obtain ⟨x, hx, rfl⟩ := jm_nn h_1
    have hx2 := jm_tI hx
    refine jm_ild_n (Y := YX3_isLane) (pc := 4) (i := 0) dX3_isLane_4 rfl rfl ?_
    refine jm_icN (Y := YX3_isLane) (pc := 5) 2 dX3_isLane_5 rfl ?_
    refine jm_icmp_gtN (Y := YX3_isLane) (pc := 6) dX3_isLane_6 rfl (by omega) (by omega) (fun h_6 => ?_) (fun h_6 => ?_)
    · refine jm_icN (Y := YX3_isLane) (pc := 13) 0 dX3_isLane_13 rfl ?_
      refine jm_ret (Y := YX3_isLane) (pc := 14) (st := []) dX3_isLane_14 rfl rfl ?_
      first | exact jm_bf (fun z => by have := jm_lt0.mp h_1; omega) | exact jm_bf (by omega) | exact jm_bt (by omega) | fail
    · refine jm_icN (Y := YX3_isLane) (pc := 9) 1 dX3_isLane_9 rfl ?_
      refine jm_goto (Y := YX3_isLane) (pc := 10) dX3_isLane_10 rfl ?_
      refine jm_ret (Y := YX3_isLane) (pc := 14) (st := []) dX3_isLane_14 rfl rfl ?_
      first | exact jm_bf (fun z => by have := jm_lt0.mp h_1; omega) | exact jm_bf (by omega) | exact jm_bt (by omega) | fail
theorem r_isMissing (k : Nat) (hk : k < 8) (M : jm_M) : jm_J none YX3_isMissing 0 [some (.ref 1), some (.int (nI k))] [] M (jm_is (some (.int (jm_b (M 6 k = -1)))) M) := by
  refine jm_ald_n (Y := YX3_isMissing) (pc := 0) (i := 0) dX3_isMissing_0 rfl rfl ?_
  refine jm_getR (Y := YX3_isMissing) (pc := 1) dX3_isMissing_1 fr_RX3_18 rfl (by decide) rfl ?_
  refine jm_ild_n (Y := YX3_isMissing) (pc := 4) (i := 1) dX3_isMissing_4 rfl rfl ?_
  refine jm_ialN (Y := YX3_isMissing) (pc := 5) dX3_isMissing_5 (by first | assumption | exact jm_arR1 ha | exact jm_arR2 ha | exact jm_arR3 ha | exact jm_arR1 hb | exact jm_arR2 hb | exact jm_arR3 hb | rfl) (by omega) ((show _ = M 6 k from rfl)) ?_
  refine jm_iconst (Y := YX3_isMissing) (pc := 6) (v := -1) dX3_isMissing_6 rfl ?_
  refine jm_icmp_ne (Y := YX3_isMissing) (pc := 7) dX3_isMissing_7 rfl (fun h_7 => ?_) (fun h_7 => ?_)
  · refine jm_icN (Y := YX3_isMissing) (pc := 14) 0 dX3_isMissing_14 rfl ?_
    refine jm_ret (Y := YX3_isMissing) (pc := 15) (st := []) dX3_isMissing_15 rfl rfl ?_
    first | exact jm_bf h_7 | exact jm_bt h_7 | exact jm_bt (Decidable.not_not.mp h_7) | fail
  · refine jm_icN (Y := YX3_isMissing) (pc := 10) 1 dX3_isMissing_10 rfl ?_
    refine jm_goto (Y := YX3_isMissing) (pc := 11) dX3_isMissing_11 rfl ?_
    refine jm_ret (Y := YX3_isMissing) (pc := 15) (st := []) dX3_isMissing_15 rfl rfl ?_
    first | exact jm_bf h_7 | exact jm_bt h_7 | exact jm_bt (Decidable.not_not.mp h_7) | fail
theorem r_oneLane (a b : Nat) (ha : a < 8) (hb : b < 8) (M : jm_M) : jm_J none YX3_haveOneLane 0 [some (.ref 1), some (.int (nI a)), some (.int (nI b))] [] M (jm_is (some (.int (jm_b (M 5 a = M 5 b)))) M) := by
  refine jm_ald_n (Y := YX3_haveOneLane) (pc := 0) (i := 0) dX3_haveOneLane_0 rfl rfl ?_
  refine jm_getR (Y := YX3_haveOneLane) (pc := 1) dX3_haveOneLane_1 fr_RX3_14 rfl (by decide) rfl ?_
  refine jm_ild_n (Y := YX3_haveOneLane) (pc := 4) (i := 1) dX3_haveOneLane_4 rfl rfl ?_
  refine jm_ialN (Y := YX3_haveOneLane) (pc := 5) dX3_haveOneLane_5 (by first | assumption | exact jm_arR1 ha | exact jm_arR2 ha | exact jm_arR3 ha | exact jm_arR1 hb | exact jm_arR2 hb | exact jm_arR3 hb | rfl) (by omega) ((show _ = M 5 a from rfl)) ?_
  refine jm_ald_n (Y := YX3_haveOneLane) (pc := 6) (i := 0) dX3_haveOneLane_6 rfl rfl ?_
  refine jm_getR (Y := YX3_haveOneLane) (pc := 7) dX3_haveOneLane_7 fr_RX3_14 rfl (by decide) rfl ?_
  refine jm_ild_n (Y := YX3_haveOneLane) (pc := 10) (i := 2) dX3_haveOneLane_10 rfl rfl ?_
  refine jm_ialN (Y := YX3_haveOneLane) (pc := 11) dX3_haveOneLane_11 (by first | assumption | exact jm_arR1 ha | exact jm_arR2 ha | exact jm_arR3 ha | exact jm_arR1 hb | exact jm_arR2 hb | exact jm_arR3 hb | rfl) (by omega) ((show _ = M 5 b from rfl)) ?_
  refine jm_icmp_ne (Y := YX3_haveOneLane) (pc := 12) dX3_haveOneLane_12 rfl (fun h_12 => ?_) (fun h_12 => ?_)
  · refine jm_icN (Y := YX3_haveOneLane) (pc := 19) 0 dX3_haveOneLane_19 rfl ?_
    refine jm_ret (Y := YX3_haveOneLane) (pc := 20) (st := []) dX3_haveOneLane_20 rfl rfl ?_
    first | exact jm_bf h_12 | exact jm_bt h_12 | exact jm_bt (Decidable.not_not.mp h_12) | fail
  · refine jm_icN (Y := YX3_haveOneLane) (pc := 15) 1 dX3_haveOneLane_15 rfl ?_
    refine jm_goto (Y := YX3_haveOneLane) (pc := 16) dX3_haveOneLane_16 rfl ?_
    refine jm_ret (Y := YX3_haveOneLane) (pc := 20) (st := []) dX3_haveOneLane_20 rfl rfl ?_
    first | exact jm_bf h_12 | exact jm_bt h_12 | exact jm_bt (Decidable.not_not.mp h_12) | fail
theorem r_sub {m n : Nat} (hm : m ≤ 40) (hn : n < 2147483648) : (nI m - nI n).toInt = (m : Int) - n := by
  rw [Int32.toInt_sub, jm_tI (by omega), jm_tI hn]
  exact Int.bmod_eq_of_le (by omega) (by omega)
theorem r_hasPlaces (k m : Nat) (hk : k < 8) (hm : m ≤ 40) (i n : Int32) (M : jm_M) (hl : M 6 k = nI m) : jm_J none YX3_hasPlaces 0 [some (.ref 1), some (.int (nI k)), some (.int i), some (.int n)] [] M (jm_is (some (.int (jm_b (0 ≤ i.toInt ∧ 0 ≤ n.toInt ∧ i.toInt + n.toInt ≤ m)))) M) := by
  refine jm_ild_n (Y := YX3_hasPlaces) (pc := 0) (i := 3) dX3_hasPlaces_0 rfl rfl ?_
  refine jm_if_lt (Y := YX3_hasPlaces) (pc := 1) dX3_hasPlaces_1 rfl (fun h_1 => ?_) (fun h_1 => ?_)
  · refine jm_icN (Y := YX3_hasPlaces) (pc := 24) 0 dX3_hasPlaces_24 rfl ?_
    refine jm_ret (Y := YX3_hasPlaces) (pc := 25) (st := []) dX3_hasPlaces_25 rfl rfl ?_
    first | exact jm_bf (fun z => by have := jm_lt0.mp h_1; omega) | exact jm_bf (fun z => by have := jm_lt0.mp h_5; omega) | exact jm_bf (fun z => by have := Int32.lt_iff_toInt_lt.mp h_17; omega) | exact jm_bt (by have := Int32.le_iff_toInt_le.mp (Int32.not_lt.mp h_17); omega) | fail
  · refine jm_ild_n (Y := YX3_hasPlaces) (pc := 4) (i := 2) dX3_hasPlaces_4 rfl rfl ?_
    refine jm_if_lt (Y := YX3_hasPlaces) (pc := 5) dX3_hasPlaces_5 rfl (fun h_5 => ?_) (fun h_5 => ?_)
    · refine jm_icN (Y := YX3_hasPlaces) (pc := 24) 0 dX3_hasPlaces_24 rfl ?_
      refine jm_ret (Y := YX3_hasPlaces) (pc := 25) (st := []) dX3_hasPlaces_25 rfl rfl ?_
      first | exact jm_bf (fun z => by have := jm_lt0.mp h_1; omega) | exact jm_bf (fun z => by have := jm_lt0.mp h_5; omega) | exact jm_bf (fun z => by have := Int32.lt_iff_toInt_lt.mp h_17; omega) | exact jm_bt (by have := Int32.le_iff_toInt_le.mp (Int32.not_lt.mp h_17); omega) | fail
    · have hn0 : 0 ≤ n.toInt := (Int.not_lt.mp (fun z => h_1 (jm_lt0.mpr z)))
      have hi0 : 0 ≤ i.toInt := (Int.not_lt.mp (fun z => h_5 (jm_lt0.mpr z)))
      obtain ⟨y, hy, rfl⟩ := jm_nn h_1
      obtain ⟨x, hx, rfl⟩ := jm_nn h_5
      have hx2 := jm_tI hx
      have hy2 := jm_tI hy
      have hs := r_sub hm hy
      refine jm_ild_n (Y := YX3_hasPlaces) (pc := 8) (i := 2) dX3_hasPlaces_8 rfl rfl ?_
      refine jm_ald_n (Y := YX3_hasPlaces) (pc := 9) (i := 0) dX3_hasPlaces_9 rfl rfl ?_
      refine jm_getR (Y := YX3_hasPlaces) (pc := 10) dX3_hasPlaces_10 fr_RX3_18 rfl (by decide) rfl ?_
      refine jm_ild_n (Y := YX3_hasPlaces) (pc := 13) (i := 1) dX3_hasPlaces_13 rfl rfl ?_
      refine jm_ialN (Y := YX3_hasPlaces) (pc := 14) dX3_hasPlaces_14 (by first | assumption | exact jm_arR1 ha | exact jm_arR2 ha | exact jm_arR3 ha | exact jm_arR1 hb | exact jm_arR2 hb | exact jm_arR3 hb | rfl) (by omega) (hl) ?_
      refine jm_ild_n (Y := YX3_hasPlaces) (pc := 15) (i := 3) dX3_hasPlaces_15 rfl rfl ?_
      refine jm_isub (Y := YX3_hasPlaces) (pc := 16) dX3_hasPlaces_16 ?_
      refine jm_icmp_gt (Y := YX3_hasPlaces) (pc := 17) dX3_hasPlaces_17 rfl (fun h_17 => ?_) (fun h_17 => ?_)
      · refine jm_icN (Y := YX3_hasPlaces) (pc := 24) 0 dX3_hasPlaces_24 rfl ?_
        refine jm_ret (Y := YX3_hasPlaces) (pc := 25) (st := []) dX3_hasPlaces_25 rfl rfl ?_
        first | exact jm_bf (fun z => by have := jm_lt0.mp h_1; omega) | exact jm_bf (fun z => by have := jm_lt0.mp h_5; omega) | exact jm_bf (fun z => by have := Int32.lt_iff_toInt_lt.mp h_17; omega) | exact jm_bt (by have := Int32.le_iff_toInt_le.mp (Int32.not_lt.mp h_17); omega) | fail
      · refine jm_icN (Y := YX3_hasPlaces) (pc := 20) 1 dX3_hasPlaces_20 rfl ?_
        refine jm_goto (Y := YX3_hasPlaces) (pc := 21) dX3_hasPlaces_21 rfl ?_
        refine jm_ret (Y := YX3_hasPlaces) (pc := 25) (st := []) dX3_hasPlaces_25 rfl rfl ?_
        first | exact jm_bf (fun z => by have := jm_lt0.mp h_1; omega) | exact jm_bf (fun z => by have := jm_lt0.mp h_5; omega) | exact jm_bf (fun z => by have := Int32.lt_iff_toInt_lt.mp h_17; omega) | exact jm_bt (by have := Int32.le_iff_toInt_le.mp (Int32.not_lt.mp h_17); omega) | fail
theorem r_lose (k : Nat) (hk : k < 8) (M : jm_M) : jm_J none YX3_lose 0 [some (.ref 1), some (.int (nI k)), none] [] M (jm_is (some (.int (M 6 k))) (jm_sf M 6 (upd (M 6) k (-1)))) := by
  refine jm_ald_n (Y := YX3_lose) (pc := 0) (i := 0) dX3_lose_0 rfl rfl ?_
  refine jm_getR (Y := YX3_lose) (pc := 1) dX3_lose_1 fr_RX3_18 rfl (by decide) rfl ?_
  refine jm_ild_n (Y := YX3_lose) (pc := 4) (i := 1) dX3_lose_4 rfl rfl ?_
  refine jm_ialN (Y := YX3_lose) (pc := 5) dX3_lose_5 (by first | assumption | exact jm_arR1 ha | exact jm_arR2 ha | exact jm_arR3 ha | exact jm_arR1 hb | exact jm_arR2 hb | exact jm_arR3 hb | rfl) (by omega) ((show _ = M 6 k from rfl)) ?_
  refine jm_ist_n (Y := YX3_lose) (pc := 6) (i := 2) (ls' := [_, _, _]) dX3_lose_6 rfl (Nat.le_of_ble_eq_true rfl) rfl rfl ?_
  refine jm_ald_n (Y := YX3_lose) (pc := 7) (i := 0) dX3_lose_7 rfl rfl ?_
  refine jm_getR (Y := YX3_lose) (pc := 8) dX3_lose_8 fr_RX3_18 rfl (by decide) rfl ?_
  refine jm_ild_n (Y := YX3_lose) (pc := 11) (i := 1) dX3_lose_11 rfl rfl ?_
  refine jm_iconst (Y := YX3_lose) (pc := 12) (v := -1) dX3_lose_12 rfl ?_
  refine jm_iasN (Y := YX3_lose) (pc := 13) dX3_lose_13 (by first | assumption | exact jm_arR1 ha | exact jm_arR2 ha | exact jm_arR3 ha | exact jm_arR1 hb | exact jm_arR2 hb | exact jm_arR3 hb | rfl) (by omega) ?_
  refine jm_ild_n (Y := YX3_lose) (pc := 14) (i := 2) dX3_lose_14 rfl rfl ?_
  refine jm_ret (Y := YX3_lose) (pc := 15) (st := []) dX3_lose_15 rfl rfl ?_
  exact ⟨rfl, rfl⟩
theorem r_sh16 (x : BitVec 32) : (x <<< 16).sshiftRight 16 = (x.setWidth 16).signExtend 32 := by
  apply BitVec.eq_of_getLsbD_eq
  intro i hi
  simp only [BitVec.getLsbD_sshiftRight, BitVec.getLsbD_signExtend, BitVec.getLsbD_shiftLeft, BitVec.getLsbD_setWidth, BitVec.msb_eq_getLsbD_last]
  by_cases h : i < 16
  · have a1 : 16 + i < 32 := by omega
    have a2 : ¬ 16 + i < 16 := by omega
    have a3 : 16 + i - 16 = i := by omega
    simp [h, hi, a1, a2, a3]
  · have a1 : ¬ 16 + i < 32 := by omega
    simp [h, hi, a1]
theorem r_b8 (v : Int32) : v <<< (nI 24 &&& 31) >>> (nI 24 &&& 31) = v.toInt8.toInt32 := by
  apply Int32.toBitVec_inj.mp
  have e : ((nI 24 &&& 31).toBitVec.smod 32) = 24#32 := by decide
  have e1 : (v <<< (nI 24 &&& 31)).toBitVec = v.toBitVec <<< 24 := by
    rw [Int32.toBitVec_shiftLeft, e]; rfl
  rw [Int32.toBitVec_shiftRight, e, e1]
  have e2 : v.toInt8.toInt32.toBitVec = (v.toBitVec.setWidth 8).signExtend 32 := by
    have e3 : v.toInt8.toBitVec = v.toBitVec.setWidth 8 := by
      first | rfl | exact Int32.toBitVec_toInt8 v | (show v.toBitVec.signExtend 8 = _; exact BitVec.signExtend_eq_setWidth_of_le _ (by decide))
    rw [← e3]
    rfl
  rw [e2]
  exact r_sh8 v.toBitVec
theorem r_b16 (v : Int32) : v <<< (nI 16 &&& 31) >>> (nI 16 &&& 31) = v.toInt16.toInt32 := by
  apply Int32.toBitVec_inj.mp
  have e : ((nI 16 &&& 31).toBitVec.smod 32) = 16#32 := by decide
  have e1 : (v <<< (nI 16 &&& 31)).toBitVec = v.toBitVec <<< 16 := by
    rw [Int32.toBitVec_shiftLeft, e]; rfl
  rw [Int32.toBitVec_shiftRight, e, e1]
  have e2 : v.toInt16.toInt32.toBitVec = (v.toBitVec.setWidth 16).signExtend 32 := by
    have e3 : v.toInt16.toBitVec = v.toBitVec.setWidth 16 := by
      first | rfl | exact Int32.toBitVec_toInt16 v | (show v.toBitVec.signExtend 16 = _; exact BitVec.signExtend_eq_setWidth_of_le _ (by decide))
    rw [← e3]
    rfl
  rw [e2]
  exact r_sh16 v.toBitVec
