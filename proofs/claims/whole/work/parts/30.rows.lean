/-! the class: kinds by letter, rows -/
theorem r_sh8 (x : BitVec 32) : (x <<< 24).sshiftRight 24 = (x.setWidth 8).signExtend 32 := by
  apply BitVec.eq_of_getLsbD_eq
  intro i hi
  simp only [BitVec.getLsbD_sshiftRight, BitVec.getLsbD_signExtend, BitVec.getLsbD_shiftLeft, BitVec.getLsbD_setWidth, BitVec.msb_eq_getLsbD_last]
  by_cases h : i < 8
  · have a1 : 24 + i < 32 := by omega
    have a2 : ¬ 24 + i < 24 := by omega
    have a3 : 24 + i - 24 = i := by omega
    simp [h, hi, a1, a2, a3]
  · have a1 : ¬ 24 + i < 32 := by omega
    simp [h, hi, a1]
theorem r_isRow (v : Int32) (M : jm_M) : jm_J none YX3_isRow 0 [some (.int v)] [] M (jm_is (some (.int (jm_b (0 ≤ v.toInt ∧ v.toInt ≤ 7)))) M) := by
  refine jm_ild_n (Y := YX3_isRow) (pc := 0) (i := 0) dX3_isRow_0 rfl rfl ?_
  refine jm_if_lt (Y := YX3_isRow) (pc := 1) dX3_isRow_1 rfl (fun h_1 => ?_) (fun h_1 => ?_)
  · refine jm_icN (Y := YX3_isRow) (pc := 14) 0 dX3_isRow_14 rfl ?_
    refine jm_ret (Y := YX3_isRow) (pc := 15) (st := []) dX3_isRow_15 rfl rfl ?_
    first | exact jm_bf (fun z => by have := jm_lt0.mp h_1; omega) | exact jm_bf (by omega) | exact jm_bt (by omega) | fail
  · have hv0 : 0 ≤ v.toInt := (Int.not_lt.mp (fun z => h_1 (jm_lt0.mpr z)))
    obtain ⟨x, hx, rfl⟩ := jm_nn h_1
    have hx2 := jm_tI hx
    refine jm_ild_n (Y := YX3_isRow) (pc := 4) (i := 0) dX3_isRow_4 rfl rfl ?_
    refine jm_bpN (Y := YX3_isRow) (pc := 5) 8 dX3_isRow_5 rfl ?_
    refine jm_icmp_geN (Y := YX3_isRow) (pc := 7) dX3_isRow_7 rfl (by omega) (by omega) (fun h_7 => ?_) (fun h_7 => ?_)
    · refine jm_icN (Y := YX3_isRow) (pc := 14) 0 dX3_isRow_14 rfl ?_
      refine jm_ret (Y := YX3_isRow) (pc := 15) (st := []) dX3_isRow_15 rfl rfl ?_
      first | exact jm_bf (fun z => by have := jm_lt0.mp h_1; omega) | exact jm_bf (by omega) | exact jm_bt (by omega) | fail
    · refine jm_icN (Y := YX3_isRow) (pc := 10) 1 dX3_isRow_10 rfl ?_
      refine jm_goto (Y := YX3_isRow) (pc := 11) dX3_isRow_11 rfl ?_
      refine jm_ret (Y := YX3_isRow) (pc := 15) (st := []) dX3_isRow_15 rfl rfl ?_
      first | exact jm_bf (fun z => by have := jm_lt0.mp h_1; omega) | exact jm_bf (by omega) | exact jm_bt (by omega) | fail
theorem r_isLane (v : Int32) (M : jm_M) : jm_J none YX3_isLane 0 [some (.int v)] [] M (jm_is (some (.int (jm_b (0 ≤ v.toInt ∧ v.toInt ≤ 2)))) M) := by
  refine jm_ild_n (Y := YX3_isLane) (pc := 0) (i := 0) dX3_isLane_0 rfl rfl ?_
  refine jm_if_lt (Y := YX3_isLane) (pc := 1) dX3_isLane_1 rfl (fun h_1 => ?_) (fun h_1 => ?_)
  · refine jm_icN (Y := YX3_isLane) (pc := 13) 0 dX3_isLane_13 rfl ?_
    refine jm_ret (Y := YX3_isLane) (pc := 14) (st := []) dX3_isLane_14 rfl rfl ?_
    first | exact jm_bf (fun z => by have := jm_lt0.mp h_1; omega) | exact jm_bf (by omega) | exact jm_bt (by omega) | fail
  · have hv0 : 0 ≤ v.toInt := (Int.not_lt.mp (fun z => h_1 (jm_lt0.mpr z)))
    obtain ⟨x, hx, rfl⟩ := jm_nn h_1
    have hx2 := jm_tI hx
    refine jm_ild_n (Y := YX3_isLane) (pc := 4) (i := 0) dX3_isLane_4 rfl rfl ?_
    refine jm_icN (Y := YX3_isLane) (pc := 5) 2 dX3_isLane_5 rfl ?_
    refine jm_icmp_gtN (Y := YX3_isLane) (pc := 6) dX3_isLane_6 rfl (by omega) (by omega) (fun h_6 => ?_) (fun h_6 => ?_)
    · refine jm_icN (Y := YX3_isLane) (pc := 13) 0 dX3_isLane_13 rfl ?_
      refine jm_ret (Y := YX3_isLane) (pc := 14) (st := []) dX3_isLane_14 rfl rfl ?_
      first | exact jm_bf (fun z => by have := jm_lt0.mp h_1; omega) | exact jm_bf (by omega) | exact jm_bt (by omega) | fail
    · refine jm_icN (Y := YX3_isLane) (pc := 9) 1 dX3_isLane_9 rfl ?_
      refine jm_goto (Y := YX3_isLane) (pc := 10) dX3_isLane_10 rfl ?_
      refine jm_ret (Y := YX3_isLane) (pc := 14) (st := []) dX3_isLane_14 rfl rfl ?_
      first | exact jm_bf (fun z => by have := jm_lt0.mp h_1; omega) | exact jm_bf (by omega) | exact jm_bt (by omega) | fail
theorem r_isMissing (k : Nat) (hk : k < 8) (M : jm_M) : jm_J none YX3_isMissing 0 [some (.ref 1), some (.int (nI k))] [] M (jm_is (some (.int (jm_b (M 6 k = -1)))) M) := by
  refine jm_ald_n (Y := YX3_isMissing) (pc := 0) (i := 0) dX3_isMissing_0 rfl rfl ?_
  refine jm_getR (Y := YX3_isMissing) (pc := 1) dX3_isMissing_1 fr_RX3_18 rfl (by decide) rfl ?_
  refine jm_ild_n (Y := YX3_isMissing) (pc := 4) (i := 1) dX3_isMissing_4 rfl rfl ?_
  refine jm_ialN (Y := YX3_isMissing) (pc := 5) dX3_isMissing_5 (by first | assumption | exact jm_arR1 ha | exact jm_arR2 ha | exact jm_arR3 ha | exact jm_arR1 hb | exact jm_arR2 hb | exact jm_arR3 hb | rfl) (by omega) ((show _ = M 6 k from rfl)) ?_
  refine jm_iconst (Y := YX3_isMissing) (pc := 6) (v := -1) dX3_isMissing_6 rfl ?_
  refine jm_icmp_ne (Y := YX3_isMissing) (pc := 7) dX3_isMissing_7 rfl (fun h_7 => ?_) (fun h_7 => ?_)
  · refine jm_icN (Y := YX3_isMissing) (pc := 14) 0 dX3_isMissing_14 rfl ?_
    refine jm_ret (Y := YX3_isMissing) (pc := 15) (st := []) dX3_isMissing_15 rfl rfl ?_
    first | exact jm_bf h_7 | exact jm_bt h_7 | exact jm_bt (Decidable.not_not.mp h_7) | fail
  · refine jm_icN (Y := YX3_isMissing) (pc := 10) 1 dX3_isMissing_10 rfl ?_
    refine jm_goto (Y := YX3_isMissing) (pc := 11) dX3_isMissing_11 rfl ?_
    refine jm_ret (Y := YX3_isMissing) (pc := 15) (st := []) dX3_isMissing_15 rfl rfl ?_
    first | exact jm_bf h_7 | exact jm_bt h_7 | exact jm_bt (Decidable.not_not.mp h_7) | fail
theorem r_oneLane (a b : Nat) (ha : a < 8) (hb : b < 8) (M : jm_M) : jm_J none YX3_haveOneLane 0 [some (.ref 1), some (.int (nI a)), some (.int (nI b))] [] M (jm_is (some (.int (jm_b (M 5 a = M 5 b)))) M) := by
  refine jm_ald_n (Y := YX3_haveOneLane) (pc := 0) (i := 0) dX3_haveOneLane_0 rfl rfl ?_
  refine jm_getR (Y := YX3_haveOneLane) (pc := 1) dX3_haveOneLane_1 fr_RX3_14 rfl (by decide) rfl ?_
  refine jm_ild_n (Y := YX3_haveOneLane) (pc := 4) (i := 1) dX3_haveOneLane_4 rfl rfl ?_
  refine jm_ialN (Y := YX3_haveOneLane) (pc := 5) dX3_haveOneLane_5 (by first | assumption | exact jm_arR1 ha | exact jm_arR2 ha | exact jm_arR3 ha | exact jm_arR1 hb | exact jm_arR2 hb | exact jm_arR3 hb | rfl) (by omega) ((show _ = M 5 a from rfl)) ?_
  refine jm_ald_n (Y := YX3_haveOneLane) (pc := 6) (i := 0) dX3_haveOneLane_6 rfl rfl ?_
  refine jm_getR (Y := YX3_haveOneLane) (pc := 7) dX3_haveOneLane_7 fr_RX3_14 rfl (by decide) rfl ?_
  refine jm_ild_n (Y := YX3_haveOneLane) (pc := 10) (i := 2) dX3_haveOneLane_10 rfl rfl ?_
  refine jm_ialN (Y := YX3_haveOneLane) (pc := 11) dX3_haveOneLane_11 (by first | assumption | exact jm_arR1 ha | exact jm_arR2 ha | exact jm_arR3 ha | exact jm_arR1 hb | exact jm_arR2 hb | exact jm_arR3 hb | rfl) (by omega) ((show _ = M 5 b from rfl)) ?_
  refine jm_icmp_ne (Y := YX3_haveOneLane) (pc := 12) dX3_haveOneLane_12 rfl (fun h_12 => ?_) (fun h_12 => ?_)
  · refine jm_icN (Y := YX3_haveOneLane) (pc := 19) 0 dX3_haveOneLane_19 rfl ?_
    refine jm_ret (Y := YX3_haveOneLane) (pc := 20) (st := []) dX3_haveOneLane_20 rfl rfl ?_
    first | exact jm_bf h_12 | exact jm_bt h_12 | exact jm_bt (Decidable.not_not.mp h_12) | fail
  · refine jm_icN (Y := YX3_haveOneLane) (pc := 15) 1 dX3_haveOneLane_15 rfl ?_
    refine jm_goto (Y := YX3_haveOneLane) (pc := 16) dX3_haveOneLane_16 rfl ?_
    refine jm_ret (Y := YX3_haveOneLane) (pc := 20) (st := []) dX3_haveOneLane_20 rfl rfl ?_
    first | exact jm_bf h_12 | exact jm_bt h_12 | exact jm_bt (Decidable.not_not.mp h_12) | fail
theorem r_sub {m n : Nat} (hm : m ≤ 40) (hn : n < 2147483648) : (nI m - nI n).toInt = (m : Int) - n := by
  rw [Int32.toInt_sub, jm_tI (by omega), jm_tI hn]
  exact Int.bmod_eq_of_le (by omega) (by omega)
theorem r_hasPlaces (k m : Nat) (hk : k < 8) (hm : m ≤ 40) (i n : Int32) (M : jm_M) (hl : M 6 k = nI m) : jm_J none YX3_hasPlaces 0 [some (.ref 1), some (.int (nI k)), some (.int i), some (.int n)] [] M (jm_is (some (.int (jm_b (0 ≤ i.toInt ∧ 0 ≤ n.toInt ∧ i.toInt + n.toInt ≤ m)))) M) := by
  refine jm_ild_n (Y := YX3_hasPlaces) (pc := 0) (i := 3) dX3_hasPlaces_0 rfl rfl ?_
  refine jm_if_lt (Y := YX3_hasPlaces) (pc := 1) dX3_hasPlaces_1 rfl (fun h_1 => ?_) (fun h_1 => ?_)
  · refine jm_icN (Y := YX3_hasPlaces) (pc := 24) 0 dX3_hasPlaces_24 rfl ?_
    refine jm_ret (Y := YX3_hasPlaces) (pc := 25) (st := []) dX3_hasPlaces_25 rfl rfl ?_
    first | exact jm_bf (fun z => by have := jm_lt0.mp h_1; omega) | exact jm_bf (fun z => by have := jm_lt0.mp h_5; omega) | exact jm_bf (fun z => by have := Int32.lt_iff_toInt_lt.mp h_17; omega) | exact jm_bt (by have := Int32.le_iff_toInt_le.mp (Int32.not_lt.mp h_17); omega) | fail
  · refine jm_ild_n (Y := YX3_hasPlaces) (pc := 4) (i := 2) dX3_hasPlaces_4 rfl rfl ?_
    refine jm_if_lt (Y := YX3_hasPlaces) (pc := 5) dX3_hasPlaces_5 rfl (fun h_5 => ?_) (fun h_5 => ?_)
    · refine jm_icN (Y := YX3_hasPlaces) (pc := 24) 0 dX3_hasPlaces_24 rfl ?_
      refine jm_ret (Y := YX3_hasPlaces) (pc := 25) (st := []) dX3_hasPlaces_25 rfl rfl ?_
      first | exact jm_bf (fun z => by have := jm_lt0.mp h_1; omega) | exact jm_bf (fun z => by have := jm_lt0.mp h_5; omega) | exact jm_bf (fun z => by have := Int32.lt_iff_toInt_lt.mp h_17; omega) | exact jm_bt (by have := Int32.le_iff_toInt_le.mp (Int32.not_lt.mp h_17); omega) | fail
    · have hn0 : 0 ≤ n.toInt := (Int.not_lt.mp (fun z => h_1 (jm_lt0.mpr z)))
      have hi0 : 0 ≤ i.toInt := (Int.not_lt.mp (fun z => h_5 (jm_lt0.mpr z)))
      obtain ⟨y, hy, rfl⟩ := jm_nn h_1
      obtain ⟨x, hx, rfl⟩ := jm_nn h_5
      have hx2 := jm_tI hx
      have hy2 := jm_tI hy
      have hs := r_sub hm hy
      refine jm_ild_n (Y := YX3_hasPlaces) (pc := 8) (i := 2) dX3_hasPlaces_8 rfl rfl ?_
      refine jm_ald_n (Y := YX3_hasPlaces) (pc := 9) (i := 0) dX3_hasPlaces_9 rfl rfl ?_
      refine jm_getR (Y := YX3_hasPlaces) (pc := 10) dX3_hasPlaces_10 fr_RX3_18 rfl (by decide) rfl ?_
      refine jm_ild_n (Y := YX3_hasPlaces) (pc := 13) (i := 1) dX3_hasPlaces_13 rfl rfl ?_
      refine jm_ialN (Y := YX3_hasPlaces) (pc := 14) dX3_hasPlaces_14 (by first | assumption | exact jm_arR1 ha | exact jm_arR2 ha | exact jm_arR3 ha | exact jm_arR1 hb | exact jm_arR2 hb | exact jm_arR3 hb | rfl) (by omega) (hl) ?_
      refine jm_ild_n (Y := YX3_hasPlaces) (pc := 15) (i := 3) dX3_hasPlaces_15 rfl rfl ?_
      refine jm_isub (Y := YX3_hasPlaces) (pc := 16) dX3_hasPlaces_16 ?_
      refine jm_icmp_gt (Y := YX3_hasPlaces) (pc := 17) dX3_hasPlaces_17 rfl (fun h_17 => ?_) (fun h_17 => ?_)
      · refine jm_icN (Y := YX3_hasPlaces) (pc := 24) 0 dX3_hasPlaces_24 rfl ?_
        refine jm_ret (Y := YX3_hasPlaces) (pc := 25) (st := []) dX3_hasPlaces_25 rfl rfl ?_
        first | exact jm_bf (fun z => by have := jm_lt0.mp h_1; omega) | exact jm_bf (fun z => by have := jm_lt0.mp h_5; omega) | exact jm_bf (fun z => by have := Int32.lt_iff_toInt_lt.mp h_17; omega) | exact jm_bt (by have := Int32.le_iff_toInt_le.mp (Int32.not_lt.mp h_17); omega) | fail
      · refine jm_icN (Y := YX3_hasPlaces) (pc := 20) 1 dX3_hasPlaces_20 rfl ?_
        refine jm_goto (Y := YX3_hasPlaces) (pc := 21) dX3_hasPlaces_21 rfl ?_
        refine jm_ret (Y := YX3_hasPlaces) (pc := 25) (st := []) dX3_hasPlaces_25 rfl rfl ?_
        first | exact jm_bf (fun z => by have := jm_lt0.mp h_1; omega) | exact jm_bf (fun z => by have := jm_lt0.mp h_5; omega) | exact jm_bf (fun z => by have := Int32.lt_iff_toInt_lt.mp h_17; omega) | exact jm_bt (by have := Int32.le_iff_toInt_le.mp (Int32.not_lt.mp h_17); omega) | fail
theorem r_lose (k : Nat) (hk : k < 8) (M : jm_M) : jm_J none YX3_lose 0 [some (.ref 1), some (.int (nI k)), none] [] M (jm_is (some (.int (M 6 k))) (jm_sf M 6 (upd (M 6) k (-1)))) := by
  refine jm_ald_n (Y := YX3_lose) (pc := 0) (i := 0) dX3_lose_0 rfl rfl ?_
  refine jm_getR (Y := YX3_lose) (pc := 1) dX3_lose_1 fr_RX3_18 rfl (by decide) rfl ?_
  refine jm_ild_n (Y := YX3_lose) (pc := 4) (i := 1) dX3_lose_4 rfl rfl ?_
  refine jm_ialN (Y := YX3_lose) (pc := 5) dX3_lose_5 (by first | assumption | exact jm_arR1 ha | exact jm_arR2 ha | exact jm_arR3 ha | exact jm_arR1 hb | exact jm_arR2 hb | exact jm_arR3 hb | rfl) (by omega) ((show _ = M 6 k from rfl)) ?_
  refine jm_ist_n (Y := YX3_lose) (pc := 6) (i := 2) (ls' := [_, _, _]) dX3_lose_6 rfl (Nat.le_of_ble_eq_true rfl) rfl rfl ?_
  refine jm_ald_n (Y := YX3_lose) (pc := 7) (i := 0) dX3_lose_7 rfl rfl ?_
  refine jm_getR (Y := YX3_lose) (pc := 8) dX3_lose_8 fr_RX3_18 rfl (by decide) rfl ?_
  refine jm_ild_n (Y := YX3_lose) (pc := 11) (i := 1) dX3_lose_11 rfl rfl ?_
  refine jm_iconst (Y := YX3_lose) (pc := 12) (v := -1) dX3_lose_12 rfl ?_
  refine jm_iasN (Y := YX3_lose) (pc := 13) dX3_lose_13 (by first | assumption | exact jm_arR1 ha | exact jm_arR2 ha | exact jm_arR3 ha | exact jm_arR1 hb | exact jm_arR2 hb | exact jm_arR3 hb | rfl) (by omega) ?_
  refine jm_ild_n (Y := YX3_lose) (pc := 14) (i := 2) dX3_lose_14 rfl rfl ?_
  refine jm_ret (Y := YX3_lose) (pc := 15) (st := []) dX3_lose_15 rfl rfl ?_
  exact ⟨rfl, rfl⟩
theorem r_sh16 (x : BitVec 32) : (x <<< 16).sshiftRight 16 = (x.setWidth 16).signExtend 32 := by
  apply BitVec.eq_of_getLsbD_eq
  intro i hi
  simp only [BitVec.getLsbD_sshiftRight, BitVec.getLsbD_signExtend, BitVec.getLsbD_shiftLeft, BitVec.getLsbD_setWidth, BitVec.msb_eq_getLsbD_last]
  by_cases h : i < 16
  · have a1 : 16 + i < 32 := by omega
    have a2 : ¬ 16 + i < 16 := by omega
    have a3 : 16 + i - 16 = i := by omega
    simp [h, hi, a1, a2, a3]
  · have a1 : ¬ 16 + i < 32 := by omega
    simp [h, hi, a1]
theorem r_b8 (v : Int32) : v <<< (nI 24 &&& 31) >>> (nI 24 &&& 31) = v.toInt8.toInt32 := by
  apply Int32.toBitVec_inj.mp
  have e : ((nI 24 &&& 31).toBitVec.smod 32) = 24#32 := by decide
  have e1 : (v <<< (nI 24 &&& 31)).toBitVec = v.toBitVec <<< 24 := by
    rw [Int32.toBitVec_shiftLeft, e]; rfl
  rw [Int32.toBitVec_shiftRight, e, e1]
  have e2 : v.toInt8.toInt32.toBitVec = (v.toBitVec.setWidth 8).signExtend 32 := by
    have e3 : v.toInt8.toBitVec = v.toBitVec.setWidth 8 := by
      first | rfl | exact Int32.toBitVec_toInt8 v | (show v.toBitVec.signExtend 8 = _; exact BitVec.signExtend_eq_setWidth_of_le _ (by decide))
    rw [← e3]
    rfl
  rw [e2]
  exact r_sh8 v.toBitVec
theorem r_b16 (v : Int32) : v <<< (nI 16 &&& 31) >>> (nI 16 &&& 31) = v.toInt16.toInt32 := by
  apply Int32.toBitVec_inj.mp
  have e : ((nI 16 &&& 31).toBitVec.smod 32) = 16#32 := by decide
  have e1 : (v <<< (nI 16 &&& 31)).toBitVec = v.toBitVec <<< 16 := by
    rw [Int32.toBitVec_shiftLeft, e]; rfl
  rw [Int32.toBitVec_shiftRight, e, e1]
  have e2 : v.toInt16.toInt32.toBitVec = (v.toBitVec.setWidth 16).signExtend 32 := by
    have e3 : v.toInt16.toBitVec = v.toBitVec.setWidth 16 := by
      first | rfl | exact Int32.toBitVec_toInt16 v | (show v.toBitVec.signExtend 16 = _; exact BitVec.signExtend_eq_setWidth_of_le _ (by decide))
    rw [← e3]
    rfl
  rw [e2]
  exact r_sh16 v.toBitVec
theorem r_put (k i : Nat) (hk : k < 8) (hi : i < 40) (v : Int32) (M : jm_M) : jm_J none YX3_put 0 [some (.ref 1), some (.int (nI k)), some (.int (nI i)), some (.int v), none] [] M (jm_is (some (.int (p_cut (M 5 k) v))) (jm_sf M (24 + k) (upd (M (24 + k)) i (p_cut (M 5 k) v)))) := by
  refine jm_ild_n (Y := YX3_put) (pc := 0) (i := 3) dX3_put_0 rfl rfl ?_
  refine jm_ist (Y := YX3_put) (pc := 1) (ls' := [_, _, _, _, _]) dX3_put_1 (Nat.le_of_ble_eq_true rfl) rfl rfl ?_
  refine jm_ald_n (Y := YX3_put) (pc := 3) (i := 0) dX3_put_3 rfl rfl ?_
  refine jm_getR (Y := YX3_put) (pc := 4) dX3_put_4 fr_RX3_14 rfl (by decide) rfl ?_
  refine jm_ild_n (Y := YX3_put) (pc := 7) (i := 1) dX3_put_7 rfl rfl ?_
  refine jm_ialN (Y := YX3_put) (pc := 8) dX3_put_8 (by first | assumption | exact jm_arR1 ha | exact jm_arR2 ha | exact jm_arR3 ha | exact jm_arR1 hb | exact jm_arR2 hb | exact jm_arR3 hb | rfl) (by omega) ((show _ = M 5 k from rfl)) ?_
  refine jm_if_ne (Y := YX3_put) (pc := 9) dX3_put_9 rfl (fun h_9 => ?_) (fun h_9 => ?_)
  · refine jm_ald_n (Y := YX3_put) (pc := 19) (i := 0) dX3_put_19 rfl rfl ?_
    refine jm_getR (Y := YX3_put) (pc := 20) dX3_put_20 fr_RX3_14 rfl (by decide) rfl ?_
    refine jm_ild_n (Y := YX3_put) (pc := 23) (i := 1) dX3_put_23 rfl rfl ?_
    refine jm_ialN (Y := YX3_put) (pc := 24) dX3_put_24 (by first | assumption | exact jm_arR1 ha | exact jm_arR2 ha | exact jm_arR3 ha | exact jm_arR1 hb | exact jm_arR2 hb | exact jm_arR3 hb | rfl) (by omega) (by first | assumption | rfl) ?_
    refine jm_icN (Y := YX3_put) (pc := 25) 1 dX3_put_25 rfl ?_
    refine jm_icmp_ne (Y := YX3_put) (pc := 26) dX3_put_26 rfl (fun h_26 => ?_) (fun h_26 => ?_)
    · refine jm_ald_n (Y := YX3_put) (pc := 33) (i := 0) dX3_put_33 rfl rfl ?_
      refine jm_getR (Y := YX3_put) (pc := 34) dX3_put_34 fr_RX3_11 rfl (by decide) rfl ?_
      refine jm_ild_n (Y := YX3_put) (pc := 37) (i := 1) dX3_put_37 rfl rfl ?_
      refine jm_aalN (Y := YX3_put) (pc := 38) dX3_put_38 rfl (by decide) (by omega) rfl ?_
      refine jm_ild_n (Y := YX3_put) (pc := 39) (i := 2) dX3_put_39 rfl rfl ?_
      refine jm_iload (Y := YX3_put) (pc := 40) dX3_put_40 rfl ?_
      refine jm_iasN (Y := YX3_put) (pc := 42) dX3_put_42 (jm_arI hk) hi ?_
      refine jm_iload (Y := YX3_put) (pc := 43) dX3_put_43 rfl ?_
      refine jm_ret (Y := YX3_put) (pc := 45) (st := []) dX3_put_45 rfl rfl ?_
      unfold p_cut
      first | (rw [if_pos (by first | exact h_9 | exact Decidable.not_not.mp h_9), r_b8]; exact ⟨rfl, rfl⟩) | (rw [if_neg h_9, if_pos (by first | exact h_26 | exact Decidable.not_not.mp h_26), r_b16]; exact ⟨rfl, rfl⟩) | (rw [if_neg h_9, if_neg h_26]; exact ⟨rfl, rfl⟩) | fail
    · refine jm_ild_n (Y := YX3_put) (pc := 29) (i := 3) dX3_put_29 rfl rfl ?_
      refine jm_i2s (Y := YX3_put) (pc := 30) dX3_put_30 ?_
      refine jm_ist (Y := YX3_put) (pc := 31) (ls' := [_, _, _, _, _]) dX3_put_31 (Nat.le_of_ble_eq_true rfl) rfl rfl ?_
      refine jm_ald_n (Y := YX3_put) (pc := 33) (i := 0) dX3_put_33 rfl rfl ?_
      refine jm_getR (Y := YX3_put) (pc := 34) dX3_put_34 fr_RX3_11 rfl (by decide) rfl ?_
      refine jm_ild_n (Y := YX3_put) (pc := 37) (i := 1) dX3_put_37 rfl rfl ?_
      refine jm_aalN (Y := YX3_put) (pc := 38) dX3_put_38 rfl (by decide) (by omega) rfl ?_
      refine jm_ild_n (Y := YX3_put) (pc := 39) (i := 2) dX3_put_39 rfl rfl ?_
      refine jm_iload (Y := YX3_put) (pc := 40) dX3_put_40 rfl ?_
      refine jm_iasN (Y := YX3_put) (pc := 42) dX3_put_42 (jm_arI hk) hi ?_
      refine jm_iload (Y := YX3_put) (pc := 43) dX3_put_43 rfl ?_
      refine jm_ret (Y := YX3_put) (pc := 45) (st := []) dX3_put_45 rfl rfl ?_
      unfold p_cut
      first | (rw [if_pos (by first | exact h_9 | exact Decidable.not_not.mp h_9), r_b8]; exact ⟨rfl, rfl⟩) | (rw [if_neg h_9, if_pos (by first | exact h_26 | exact Decidable.not_not.mp h_26), r_b16]; exact ⟨rfl, rfl⟩) | (rw [if_neg h_9, if_neg h_26]; exact ⟨rfl, rfl⟩) | fail
  · refine jm_ild_n (Y := YX3_put) (pc := 12) (i := 3) dX3_put_12 rfl rfl ?_
    refine jm_i2b (Y := YX3_put) (pc := 13) dX3_put_13 ?_
    refine jm_ist (Y := YX3_put) (pc := 14) (ls' := [_, _, _, _, _]) dX3_put_14 (Nat.le_of_ble_eq_true rfl) rfl rfl ?_
    refine jm_goto (Y := YX3_put) (pc := 16) dX3_put_16 rfl ?_
    refine jm_ald_n (Y := YX3_put) (pc := 33) (i := 0) dX3_put_33 rfl rfl ?_
    refine jm_getR (Y := YX3_put) (pc := 34) dX3_put_34 fr_RX3_11 rfl (by decide) rfl ?_
    refine jm_ild_n (Y := YX3_put) (pc := 37) (i := 1) dX3_put_37 rfl rfl ?_
    refine jm_aalN (Y := YX3_put) (pc := 38) dX3_put_38 rfl (by decide) (by omega) rfl ?_
    refine jm_ild_n (Y := YX3_put) (pc := 39) (i := 2) dX3_put_39 rfl rfl ?_
    refine jm_iload (Y := YX3_put) (pc := 40) dX3_put_40 rfl ?_
    refine jm_iasN (Y := YX3_put) (pc := 42) dX3_put_42 (jm_arI hk) hi ?_
    refine jm_iload (Y := YX3_put) (pc := 43) dX3_put_43 rfl ?_
    refine jm_ret (Y := YX3_put) (pc := 45) (st := []) dX3_put_45 rfl rfl ?_
    unfold p_cut
    first | (rw [if_pos (by first | exact h_9 | exact Decidable.not_not.mp h_9), r_b8]; exact ⟨rfl, rfl⟩) | (rw [if_neg h_9, if_pos (by first | exact h_26 | exact Decidable.not_not.mp h_26), r_b16]; exact ⟨rfl, rfl⟩) | (rw [if_neg h_9, if_neg h_26]; exact ⟨rfl, rfl⟩) | fail
theorem r_carry (a i b j n : Nat) (ha8 : a < 8) (hb8 : b < 8) (hi : i + n ≤ 40) (hj : j + n ≤ 40) (M : jm_M) : jm_J none YX3_carry 0 [some (.ref 1), some (.int (nI a)), some (.int (nI i)), some (.int (nI b)), some (.int (nI j)), some (.int (nI n))] [] M (jm_is none (jm_sf M (24 + b) (va_cpy (M (24 + a)) (M (24 + b)) i j n))) := by
  refine jm_ald_n (Y := YX3_carry) (pc := 0) (i := 0) dX3_carry_0 rfl rfl ?_
  refine jm_getR (Y := YX3_carry) (pc := 1) dX3_carry_1 fr_RX3_11 rfl (by decide) rfl ?_
  refine jm_ild_n (Y := YX3_carry) (pc := 4) (i := 1) dX3_carry_4 rfl rfl ?_
  refine jm_aalN (Y := YX3_carry) (pc := 5) dX3_carry_5 rfl (by decide) (by omega) rfl ?_
  refine jm_ild_n (Y := YX3_carry) (pc := 6) (i := 2) dX3_carry_6 rfl rfl ?_
  refine jm_ald_n (Y := YX3_carry) (pc := 7) (i := 0) dX3_carry_7 rfl rfl ?_
  refine jm_getR (Y := YX3_carry) (pc := 8) dX3_carry_8 fr_RX3_11 rfl (by decide) rfl ?_
  refine jm_ild_n (Y := YX3_carry) (pc := 11) (i := 3) dX3_carry_11 rfl rfl ?_
  refine jm_aalN (Y := YX3_carry) (pc := 12) dX3_carry_12 rfl (by decide) (by omega) rfl ?_
  refine jm_iload (Y := YX3_carry) (pc := 13) dX3_carry_13 rfl ?_
  refine jm_iload (Y := YX3_carry) (pc := 15) dX3_carry_15 rfl ?_
  refine jm_copyN (Y := YX3_carry) (pc := 17) dX3_carry_17 acl_RX3_27 acw (jm_arI ha8) (jm_arI hb8) (by omega) (by omega) (by decide) (by decide) (by decide) (by decide) ?_
  refine jm_retv (Y := YX3_carry) (pc := 20) (st := []) dX3_carry_20 rfl ?_
  exact ⟨rfl, rfl⟩
def r_pr (mi : Nat → Bool) : Nat → Nat
  | 0 => 0
  | n + 1 => r_pr mi n + (if mi n = true then 0 else 1)
theorem r_pr_le (mi : Nat → Bool) : ∀ n, r_pr mi n ≤ n
  | 0 => Nat.le_refl _
  | n + 1 => by
    have := r_pr_le mi n
    show r_pr mi n + (if mi n = true then 0 else 1) ≤ n + 1
    split <;> omega
theorem r_present0 (M : jm_M) (mi : Nat → Bool) (hmi : ∀ k, k < 8 → (M 6 k = -1 ↔ mi k = true)) : ∀ (m : Nat) (k : Nat), k ≤ 8 → 8 - k < m → jm_J none YX3_present 4 [some (.ref 1), some (.int (nI (r_pr mi k))), some (.int (nI k))] [] M (jm_is (some (.int (nI (r_pr mi 8)))) M) := by
  intro m
  induction m with
  | zero => intros; omega
  | succ m ih =>
    intro k hk hmm
    have hle := r_pr_le mi k
    refine jm_ild_n (Y := YX3_present) (pc := 4) (i := 2) dX3_present_4 rfl rfl ?_
    refine jm_bpN (Y := YX3_present) (pc := 5) 8 dX3_present_5 rfl ?_
    refine jm_icmp_geN (Y := YX3_present) (pc := 7) dX3_present_7 rfl (by omega) (by omega) (fun h_7 => ?_) (fun h_7 => ?_)
    · refine jm_ild_n (Y := YX3_present) (pc := 27) (i := 1) dX3_present_27 rfl rfl ?_
      refine jm_ret (Y := YX3_present) (pc := 28) (st := []) dX3_present_28 rfl rfl ?_
      have e : k = 8 := by omega
      subst e
      exact ⟨rfl, rfl⟩
    · refine jm_ald_n (Y := YX3_present) (pc := 10) (i := 0) dX3_present_10 rfl rfl ?_
      refine jm_ild_n (Y := YX3_present) (pc := 11) (i := 2) dX3_present_11 rfl rfl ?_
      refine jm_V1ie (Y := YX3_present) (pc := 12) dX3_present_12 lk_RX3_33 ⟨_, rfl⟩ rfl rfl (by decide) (Nat.le_of_ble_eq_true rfl) ⟨by decide, by decide⟩ (r_isMissing _ (by omega) _) ?_
      refine jm_if_neB (Y := YX3_present) (pc := 15) dX3_present_15 rfl (fun h_15 => ?_) (fun h_15 => ?_)
      · refine jm_incN (Y := YX3_present) (pc := 21) (m := 1) (ls' := [_, _, _]) dX3_present_21 rfl rfl rfl rfl ?_
        refine jm_goto (Y := YX3_present) (pc := 24) dX3_present_24 rfl ?_
        have e9 : r_pr mi (k + 1) = r_pr mi k + (if mi k = true then 0 else 1) := rfl
        first
          | (rw [if_pos ((hmi k (by omega)).mp h_15)] at e9; have e8 : r_pr mi (k + 1) = r_pr mi k := e9; rw [← e8]; exact ih (k + 1) (by omega) (by omega))
          | (rw [if_neg (fun z => h_15 ((hmi k (by omega)).mpr z))] at e9; rw [← e9]; exact ih (k + 1) (by omega) (by omega))
          | fail
      · refine jm_incN (Y := YX3_present) (pc := 18) (m := 1) (ls' := [_, _, _]) dX3_present_18 rfl rfl rfl rfl ?_
        refine jm_incN (Y := YX3_present) (pc := 21) (m := 1) (ls' := [_, _, _]) dX3_present_21 rfl rfl rfl rfl ?_
        refine jm_goto (Y := YX3_present) (pc := 24) dX3_present_24 rfl ?_
        have e9 : r_pr mi (k + 1) = r_pr mi k + (if mi k = true then 0 else 1) := rfl
        first
          | (rw [if_pos ((hmi k (by omega)).mp h_15)] at e9; have e8 : r_pr mi (k + 1) = r_pr mi k := e9; rw [← e8]; exact ih (k + 1) (by omega) (by omega))
          | (rw [if_neg (fun z => h_15 ((hmi k (by omega)).mpr z))] at e9; rw [← e9]; exact ih (k + 1) (by omega) (by omega))
          | fail
theorem r_present (M : jm_M) (mi : Nat → Bool) (hmi : ∀ k, k < 8 → (M 6 k = -1 ↔ mi k = true)) : jm_J none YX3_present 0 [some (.ref 1), none, none] [] M (jm_is (some (.int (nI (r_pr mi 8)))) M) := by
  refine jm_icN (Y := YX3_present) (pc := 0) 0 dX3_present_0 rfl ?_
  refine jm_ist_n (Y := YX3_present) (pc := 1) (i := 1) (ls' := [_, _, _]) dX3_present_1 rfl (Nat.le_of_ble_eq_true rfl) rfl rfl ?_
  refine jm_icN (Y := YX3_present) (pc := 2) 0 dX3_present_2 rfl ?_
  refine jm_ist_n (Y := YX3_present) (pc := 3) (i := 2) (ls' := [_, _, _]) dX3_present_3 rfl (Nat.le_of_ble_eq_true rfl) rfl rfl ?_
  exact r_present0 M mi hmi 9 0 (by omega) (by omega)
theorem j_fill0 (T n : Nat) (hT : jm_ar T = some (0, n)) (hn : n ≤ 2000) (M0 : jm_M) : ∀ (m : Nat) (j : Nat), j ≤ n → n - j < m → jm_J none YJ7_fill_53178 5 [some (.ref T), some (.int (nI 0)), some (.int (nI j)), some (.int (nI n))] [] (jm_sf M0 T (p_zr (M0 T) 0 j)) (jm_is none (jm_sf M0 T (p_zr (M0 T) 0 n))) := by
  intro m
  induction m with
  | zero => intros; omega
  | succ m ih =>
    intro j hj hmm
    refine jm_ild_n (Y := YJ7_fill_53178) (pc := 5) (i := 2) dJ7_fill_53178_5 rfl rfl ?_
    refine jm_ild_n (Y := YJ7_fill_53178) (pc := 6) (i := 3) dJ7_fill_53178_6 rfl rfl ?_
    refine jm_icmp_geN (Y := YJ7_fill_53178) (pc := 7) dJ7_fill_53178_7 rfl (by omega) (by omega) (fun h_7 => ?_) (fun h_7 => ?_)
    · refine jm_retv (Y := YJ7_fill_53178) (pc := 20) (st := []) dJ7_fill_53178_20 rfl ?_
      have e : j = n := by omega
      subst e
      exact ⟨rfl, rfl⟩
    · refine jm_ald_n (Y := YJ7_fill_53178) (pc := 10) (i := 0) dJ7_fill_53178_10 rfl rfl ?_
      refine jm_ild_n (Y := YJ7_fill_53178) (pc := 11) (i := 2) dJ7_fill_53178_11 rfl rfl ?_
      refine jm_ild_n (Y := YJ7_fill_53178) (pc := 12) (i := 1) dJ7_fill_53178_12 rfl rfl ?_
      refine jm_iasN (Y := YJ7_fill_53178) (pc := 13) dJ7_fill_53178_13 hT (by omega) ?_
      have ez := p_zr_s (M0 T) 0 j
      rw [Nat.zero_add] at ez
      rw [jm_sf_s, ez, jm_sfsf]
      refine jm_incN (Y := YJ7_fill_53178) (pc := 14) (m := 1) (ls' := [_, _, _, _]) dJ7_fill_53178_14 rfl rfl rfl rfl ?_
      refine jm_goto (Y := YJ7_fill_53178) (pc := 17) dJ7_fill_53178_17 rfl ?_
      exact ih (j + 1) (by omega) (by omega)
theorem j_fill (T n : Nat) (hT : jm_ar T = some (0, n)) (hn : n ≤ 2000) (M : jm_M) : jm_J none YJ7_fill_53178 0 [some (.ref T), some (.int (nI 0)), none, none] [] M (jm_is none (jm_sf M T (p_zr (M T) 0 n))) := by
  refine jm_icN (Y := YJ7_fill_53178) (pc := 0) 0 dJ7_fill_53178_0 rfl ?_
  refine jm_ist_n (Y := YJ7_fill_53178) (pc := 1) (i := 2) (ls' := [_, _, _, _]) dJ7_fill_53178_1 rfl (Nat.le_of_ble_eq_true rfl) rfl rfl ?_
  refine jm_ald_n (Y := YJ7_fill_53178) (pc := 2) (i := 0) dJ7_fill_53178_2 rfl rfl ?_
  refine jm_alen (Y := YJ7_fill_53178) (pc := 3) dJ7_fill_53178_3 hT rfl ?_
  refine jm_ist_n (Y := YJ7_fill_53178) (pc := 4) (i := 3) (ls' := [_, _, _, _]) dJ7_fill_53178_4 rfl (Nat.le_of_ble_eq_true rfl) rfl rfl ?_
  have key := j_fill0 T n hT hn M (n + 1) 0 (by omega) (by omega)
  rw [p_zr_0, jm_sfid rfl] at key
  exact key
theorem r_lay (k : Nat) (hk : k < 8) (l : Int32) (n : Nat) (M : jm_M) : jm_J none YX3_lay 0 [some (.ref 1), some (.int (nI k)), some (.int l), some (.int (nI n))] [] M (jm_is none (jm_sf (jm_sf (jm_sf M 5 (upd (M 5) k l)) 6 (upd (M 6) k (nI n))) (24 + k) (p_zr (M (24 + k)) 0 40))) := by
  refine jm_ald_n (Y := YX3_lay) (pc := 0) (i := 0) dX3_lay_0 rfl rfl ?_
  refine jm_getR (Y := YX3_lay) (pc := 1) dX3_lay_1 fr_RX3_14 rfl (by decide) rfl ?_
  refine jm_ild_n (Y := YX3_lay) (pc := 4) (i := 1) dX3_lay_4 rfl rfl ?_
  refine jm_ild_n (Y := YX3_lay) (pc := 5) (i := 2) dX3_lay_5 rfl rfl ?_
  refine jm_iasN (Y := YX3_lay) (pc := 6) dX3_lay_6 (by first | assumption | exact jm_arR1 ha | exact jm_arR2 ha | exact jm_arR3 ha | exact jm_arR1 hb | exact jm_arR2 hb | exact jm_arR3 hb | rfl) (by omega) ?_
  refine jm_ald_n (Y := YX3_lay) (pc := 7) (i := 0) dX3_lay_7 rfl rfl ?_
  refine jm_getR (Y := YX3_lay) (pc := 8) dX3_lay_8 fr_RX3_18 rfl (by decide) rfl ?_
  refine jm_ild_n (Y := YX3_lay) (pc := 11) (i := 1) dX3_lay_11 rfl rfl ?_
  refine jm_ild_n (Y := YX3_lay) (pc := 12) (i := 3) dX3_lay_12 rfl rfl ?_
  refine jm_iasN (Y := YX3_lay) (pc := 13) dX3_lay_13 (by first | assumption | exact jm_arR1 ha | exact jm_arR2 ha | exact jm_arR3 ha | exact jm_arR1 hb | exact jm_arR2 hb | exact jm_arR3 hb | rfl) (by omega) ?_
  refine jm_ald_n (Y := YX3_lay) (pc := 14) (i := 0) dX3_lay_14 rfl rfl ?_
  refine jm_getR (Y := YX3_lay) (pc := 15) dX3_lay_15 fr_RX3_11 rfl (by decide) rfl ?_
  refine jm_ild_n (Y := YX3_lay) (pc := 18) (i := 1) dX3_lay_18 rfl rfl ?_
  refine jm_aalN (Y := YX3_lay) (pc := 19) dX3_lay_19 rfl (by decide) (by omega) rfl ?_
  refine jm_icN (Y := YX3_lay) (pc := 20) 0 dX3_lay_20 rfl ?_
  refine jm_S2ve (Y := YX3_lay) (pc := 21) dX3_lay_21 lk_RX3_21 rfl rfl rfl (by decide) (Nat.le_of_ble_eq_true rfl) ⟨by decide, by decide⟩ ((by have h9 := j_fill (24 + k) 40 (jm_arI hk) (by decide) (jm_sf (jm_sf M 5 (upd (M 5) k l)) 6 (upd (M 6) k (nI n))); rw [show jm_sf (jm_sf M 5 (upd (M 5) k l)) 6 (upd (M 6) k (nI n)) (24 + k) = M (24 + k) from (jm_sf_n _ _ (by omega)).trans (jm_sf_n _ _ (by omega))] at h9; exact h9)) ?_
  refine jm_retv (Y := YX3_lay) (pc := 24) (st := []) dX3_lay_24 rfl ?_
  exact ⟨rfl, rfl⟩
def k_by (c : Nat) : Int32 := if x_kN c = 0 then -1 else nI (x_kN c)
theorem k_byLetter (c : Nat) (hc : c ≤ 255) (M : jm_M) : jm_J none YX1_byLetter 0 [some (.int (nI c))] [] M (jm_is (some (.int (k_by c))) M) := by
  have e5 := jm_tI (show c < 2147483648 by omega)
  refine jm_ild_n (Y := YX1_byLetter) (pc := 0) (i := 0) dX1_byLetter_0 rfl rfl ?_
  by_cases e_1_101 : Int32.toInt (nI c) = 101
  · refine jm_tin dX1_byLetter_1 (by rw [e_1_101]; decide) (by rw [e_1_101]; decide) (by rw [e_1_101]; rfl) rfl ?_
    refine jm_icN (Y := YX1_byLetter) (pc := 84) 5 dX1_byLetter_84 rfl ?_
    refine jm_ret (Y := YX1_byLetter) (pc := 85) (st := []) dX1_byLetter_85 rfl rfl ?_
    apply jm_eq
    unfold k_by x_kN
    (repeat' split) <;> first | rfl | (exfalso; omega)
  by_cases e_1_102 : Int32.toInt (nI c) = 102
  · refine jm_tin dX1_byLetter_1 (by rw [e_1_102]; decide) (by rw [e_1_102]; decide) (by rw [e_1_102]; rfl) rfl ?_
    refine jm_icN (Y := YX1_byLetter) (pc := 80) 3 dX1_byLetter_80 rfl ?_
    refine jm_ret (Y := YX1_byLetter) (pc := 81) (st := []) dX1_byLetter_81 rfl rfl ?_
    apply jm_eq
    unfold k_by x_kN
    (repeat' split) <;> first | rfl | (exfalso; omega)
  by_cases e_1_103 : Int32.toInt (nI c) = 103
  · refine jm_tin dX1_byLetter_1 (by rw [e_1_103]; decide) (by rw [e_1_103]; decide) (by rw [e_1_103]; rfl) rfl ?_
    refine jm_iconst (Y := YX1_byLetter) (pc := 86) (v := -1) dX1_byLetter_86 rfl ?_
    refine jm_ret (Y := YX1_byLetter) (pc := 87) (st := []) dX1_byLetter_87 rfl rfl ?_
    apply jm_eq
    unfold k_by x_kN
    (repeat' split) <;> first | rfl | (exfalso; omega)
  by_cases e_1_104 : Int32.toInt (nI c) = 104
  · refine jm_tin dX1_byLetter_1 (by rw [e_1_104]; decide) (by rw [e_1_104]; decide) (by rw [e_1_104]; rfl) rfl ?_
    refine jm_icN (Y := YX1_byLetter) (pc := 78) 2 dX1_byLetter_78 rfl ?_
    refine jm_ret (Y := YX1_byLetter) (pc := 79) (st := []) dX1_byLetter_79 rfl rfl ?_
    apply jm_eq
    unfold k_by x_kN
    (repeat' split) <;> first | rfl | (exfalso; omega)
  by_cases e_1_105 : Int32.toInt (nI c) = 105
  · refine jm_tin dX1_byLetter_1 (by rw [e_1_105]; decide) (by rw [e_1_105]; decide) (by rw [e_1_105]; rfl) rfl ?_
    refine jm_iconst (Y := YX1_byLetter) (pc := 86) (v := -1) dX1_byLetter_86 rfl ?_
    refine jm_ret (Y := YX1_byLetter) (pc := 87) (st := []) dX1_byLetter_87 rfl rfl ?_
    apply jm_eq
    unfold k_by x_kN
    (repeat' split) <;> first | rfl | (exfalso; omega)
  by_cases e_1_106 : Int32.toInt (nI c) = 106
  · refine jm_tin dX1_byLetter_1 (by rw [e_1_106]; decide) (by rw [e_1_106]; decide) (by rw [e_1_106]; rfl) rfl ?_
    refine jm_iconst (Y := YX1_byLetter) (pc := 86) (v := -1) dX1_byLetter_86 rfl ?_
    refine jm_ret (Y := YX1_byLetter) (pc := 87) (st := []) dX1_byLetter_87 rfl rfl ?_
    apply jm_eq
    unfold k_by x_kN
    (repeat' split) <;> first | rfl | (exfalso; omega)
  by_cases e_1_107 : Int32.toInt (nI c) = 107
  · refine jm_tin dX1_byLetter_1 (by rw [e_1_107]; decide) (by rw [e_1_107]; decide) (by rw [e_1_107]; rfl) rfl ?_
    refine jm_iconst (Y := YX1_byLetter) (pc := 86) (v := -1) dX1_byLetter_86 rfl ?_
    refine jm_ret (Y := YX1_byLetter) (pc := 87) (st := []) dX1_byLetter_87 rfl rfl ?_
    apply jm_eq
    unfold k_by x_kN
    (repeat' split) <;> first | rfl | (exfalso; omega)
  by_cases e_1_108 : Int32.toInt (nI c) = 108
  · refine jm_tin dX1_byLetter_1 (by rw [e_1_108]; decide) (by rw [e_1_108]; decide) (by rw [e_1_108]; rfl) rfl ?_
    refine jm_iconst (Y := YX1_byLetter) (pc := 86) (v := -1) dX1_byLetter_86 rfl ?_
    refine jm_ret (Y := YX1_byLetter) (pc := 87) (st := []) dX1_byLetter_87 rfl rfl ?_
    apply jm_eq
    unfold k_by x_kN
    (repeat' split) <;> first | rfl | (exfalso; omega)
  by_cases e_1_109 : Int32.toInt (nI c) = 109
  · refine jm_tin dX1_byLetter_1 (by rw [e_1_109]; decide) (by rw [e_1_109]; decide) (by rw [e_1_109]; rfl) rfl ?_
    refine jm_icN (Y := YX1_byLetter) (pc := 82) 4 dX1_byLetter_82 rfl ?_
    refine jm_ret (Y := YX1_byLetter) (pc := 83) (st := []) dX1_byLetter_83 rfl rfl ?_
    apply jm_eq
    unfold k_by x_kN
    (repeat' split) <;> first | rfl | (exfalso; omega)
  by_cases e_1_110 : Int32.toInt (nI c) = 110
  · refine jm_tin dX1_byLetter_1 (by rw [e_1_110]; decide) (by rw [e_1_110]; decide) (by rw [e_1_110]; rfl) rfl ?_
    refine jm_iconst (Y := YX1_byLetter) (pc := 86) (v := -1) dX1_byLetter_86 rfl ?_
    refine jm_ret (Y := YX1_byLetter) (pc := 87) (st := []) dX1_byLetter_87 rfl rfl ?_
    apply jm_eq
    unfold k_by x_kN
    (repeat' split) <;> first | rfl | (exfalso; omega)
  by_cases e_1_111 : Int32.toInt (nI c) = 111
  · refine jm_tin dX1_byLetter_1 (by rw [e_1_111]; decide) (by rw [e_1_111]; decide) (by rw [e_1_111]; rfl) rfl ?_
    refine jm_iconst (Y := YX1_byLetter) (pc := 86) (v := -1) dX1_byLetter_86 rfl ?_
    refine jm_ret (Y := YX1_byLetter) (pc := 87) (st := []) dX1_byLetter_87 rfl rfl ?_
    apply jm_eq
    unfold k_by x_kN
    (repeat' split) <;> first | rfl | (exfalso; omega)
  by_cases e_1_112 : Int32.toInt (nI c) = 112
  · refine jm_tin dX1_byLetter_1 (by rw [e_1_112]; decide) (by rw [e_1_112]; decide) (by rw [e_1_112]; rfl) rfl ?_
    refine jm_iconst (Y := YX1_byLetter) (pc := 86) (v := -1) dX1_byLetter_86 rfl ?_
    refine jm_ret (Y := YX1_byLetter) (pc := 87) (st := []) dX1_byLetter_87 rfl rfl ?_
    apply jm_eq
    unfold k_by x_kN
    (repeat' split) <;> first | rfl | (exfalso; omega)
  by_cases e_1_113 : Int32.toInt (nI c) = 113
  · refine jm_tin dX1_byLetter_1 (by rw [e_1_113]; decide) (by rw [e_1_113]; decide) (by rw [e_1_113]; rfl) rfl ?_
    refine jm_iconst (Y := YX1_byLetter) (pc := 86) (v := -1) dX1_byLetter_86 rfl ?_
    refine jm_ret (Y := YX1_byLetter) (pc := 87) (st := []) dX1_byLetter_87 rfl rfl ?_
    apply jm_eq
    unfold k_by x_kN
    (repeat' split) <;> first | rfl | (exfalso; omega)
  by_cases e_1_114 : Int32.toInt (nI c) = 114
  · refine jm_tin dX1_byLetter_1 (by rw [e_1_114]; decide) (by rw [e_1_114]; decide) (by rw [e_1_114]; rfl) rfl ?_
    refine jm_iconst (Y := YX1_byLetter) (pc := 86) (v := -1) dX1_byLetter_86 rfl ?_
    refine jm_ret (Y := YX1_byLetter) (pc := 87) (st := []) dX1_byLetter_87 rfl rfl ?_
    apply jm_eq
    unfold k_by x_kN
    (repeat' split) <;> first | rfl | (exfalso; omega)
  by_cases e_1_115 : Int32.toInt (nI c) = 115
  · refine jm_tin dX1_byLetter_1 (by rw [e_1_115]; decide) (by rw [e_1_115]; decide) (by rw [e_1_115]; rfl) rfl ?_
    refine jm_icN (Y := YX1_byLetter) (pc := 76) 1 dX1_byLetter_76 rfl ?_
    refine jm_ret (Y := YX1_byLetter) (pc := 77) (st := []) dX1_byLetter_77 rfl rfl ?_
    apply jm_eq
    unfold k_by x_kN
    (repeat' split) <;> first | rfl | (exfalso; omega)
  refine jm_tout (Y := YX1_byLetter) (pc := 1) dX1_byLetter_1 (by omega) rfl ?_
  refine jm_iconst (Y := YX1_byLetter) (pc := 86) (v := -1) dX1_byLetter_86 rfl ?_
  refine jm_ret (Y := YX1_byLetter) (pc := 87) (st := []) dX1_byLetter_87 rfl rfl ?_
  apply jm_eq
  unfold k_by x_kN
  (repeat' split) <;> first | rfl | (exfalso; omega)
