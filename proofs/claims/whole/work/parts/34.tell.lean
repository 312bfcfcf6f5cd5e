/-! the class: its calls that only tell -/
theorem w_wiN (v : Int32) (a b : Nat) (M : jm_M) (ha : a < 2147483648) (hb : b < 2147483648) : jm_J none YX5_isWithin 0 [some (.int v), some (.int (nI a)), some (.int (nI b))] [] M (jm_is (some (.int (jm_b ((a : Int) ≤ v.toInt ∧ v.toInt ≤ b)))) M) := by
  have h := c_isWithin v (nI a) (nI b) M
  rw [jm_b_c (jm_inJ ha hb)] at h
  exact h
def jm_t (M : jm_M) (r : Int32) : Option Value → jm_M → Prop := fun o M' => o = some (.int r) ∧ RF 1 M M'
theorem jm_ti {M M1 : jm_M} {r r' : Int32} (h : r' = r) (hF : RF 1 M M1) : jm_t M r (some (.int r')) M1 := ⟨by rw [h], hF⟩
theorem w_hasRiver (w : Nat → Nat) (M : jm_M) (hR : RV M 0 w) (hg : rG w) (hm : w 4 ≤ 9999)  : jm_J none YX5_hasRiver 0 [some (.ref 0)] [] M (jm_is (some (.int (jm_b (0 < w 2)))) M) := by
  have hb := hg.hb
  have g0 := hg.1.1
  have g1 := hg.1.2.1
  have g2 := hg.1.2.2.1
  have g3 := hg.1.2.2.2.1
  have g4 := hg.1.2.2.2.2
  refine jm_ald_n (Y := YX5_hasRiver) (pc := 0) (i := 0) dX5_hasRiver_0 rfl rfl ?_
  refine jm_getR (Y := YX5_hasRiver) (pc := 1) dX5_hasRiver_1 fr_RX5_33 rfl (by decide) rfl ?_
  first | refine jm_getE (Y := YX5_hasRiver) (pc := 4) dX5_hasRiver_4 fw_RX5_127 (by first | exact jm_obR ha | exact jm_obR hb | rfl) (by decide) (by first | exact jm_rf0 | rfl) (by assumption) ?_ | refine jm_getE (Y := YX5_hasRiver) (pc := 4) dX5_hasRiver_4 fw_RX5_127 (by first | exact jm_obR ha | exact jm_obR hb | rfl) (by decide) (by first | exact jm_rf0 | rfl) (by exact hR.1.1) ?_ | refine jm_getE (Y := YX5_hasRiver) (pc := 4) dX5_hasRiver_4 fw_RX5_127 (by first | exact jm_obR ha | exact jm_obR hb | rfl) (by decide) (by first | exact jm_rf0 | rfl) (by exact hR.1.2.1) ?_ | refine jm_getE (Y := YX5_hasRiver) (pc := 4) dX5_hasRiver_4 fw_RX5_127 (by first | exact jm_obR ha | exact jm_obR hb | rfl) (by decide) (by first | exact jm_rf0 | rfl) (by exact hR.1.2.2.1) ?_ | refine jm_getE (Y := YX5_hasRiver) (pc := 4) dX5_hasRiver_4 fw_RX5_127 (by first | exact jm_obR ha | exact jm_obR hb | rfl) (by decide) (by first | exact jm_rf0 | rfl) (by exact hR.1.2.2.2.1) ?_ | refine jm_getE (Y := YX5_hasRiver) (pc := 4) dX5_hasRiver_4 fw_RX5_127 (by first | exact jm_obR ha | exact jm_obR hb | rfl) (by decide) (by first | exact jm_rf0 | rfl) (by exact hR.1.2.2.2.2) ?_ | refine jm_getE (Y := YX5_hasRiver) (pc := 4) dX5_hasRiver_4 fw_RX5_127 (by first | exact jm_obR ha | exact jm_obR hb | rfl) (by decide) (by first | exact jm_rf0 | rfl) (by exact hR.2.1 _ (by omega)) ?_ | refine jm_getE (Y := YX5_hasRiver) (pc := 4) dX5_hasRiver_4 fw_RX5_127 (by first | exact jm_obR ha | exact jm_obR hb | rfl) (by decide) (by first | exact jm_rf0 | rfl) (by exact (hR.2.2 _ (by omega)).1) ?_ | refine jm_getE (Y := YX5_hasRiver) (pc := 4) dX5_hasRiver_4 fw_RX5_127 (by first | exact jm_obR ha | exact jm_obR hb | rfl) (by decide) (by first | exact jm_rf0 | rfl) (by exact (hR.2.2 _ (by omega)).2) ?_ | refine jm_getI (Y := YX5_hasRiver) (pc := 4) dX5_hasRiver_4 fw_RX5_127.F (by first | exact jm_obR ha | exact jm_obR hb | rfl) (by decide) (by first | exact jm_rf0 | rfl) ?_ | fail
  refine jm_if_leN (Y := YX5_hasRiver) (pc := 7) dX5_hasRiver_7 rfl (by first | omega | exact jm_lt hb _) (fun h_7 => ?_) (fun h_7 => ?_)
  · refine jm_icN (Y := YX5_hasRiver) (pc := 14) 0 dX5_hasRiver_14 rfl ?_
    refine jm_ret (Y := YX5_hasRiver) (pc := 15) (st := []) dX5_hasRiver_15 rfl rfl ?_
    first | exact jm_bf (by omega) | exact jm_bt (by omega) | fail
  · refine jm_icN (Y := YX5_hasRiver) (pc := 10) 1 dX5_hasRiver_10 rfl ?_
    refine jm_goto (Y := YX5_hasRiver) (pc := 11) dX5_hasRiver_11 rfl ?_
    refine jm_ret (Y := YX5_hasRiver) (pc := 15) (st := []) dX5_hasRiver_15 rfl rfl ?_
    first | exact jm_bf (by omega) | exact jm_bt (by omega) | fail
theorem w_finding (f : Int32) (M : jm_M) : jm_J none YX5_finding 0 [some (.ref 0), some (.int f)] [] M (jm_is (some (.int (-1000010 - f))) (jm_sf M 0 (upd (M 0) 9 f))) := by
  refine jm_ald_n (Y := YX5_finding) (pc := 0) (i := 0) dX5_finding_0 rfl rfl ?_
  refine jm_ild_n (Y := YX5_finding) (pc := 1) (i := 1) dX5_finding_1 rfl rfl ?_
  refine jm_put (Y := YX5_finding) (pc := 2) dX5_finding_2 fw_RX5_54 rfl (by decide) rfl ?_
  refine jm_ldcw (Y := YX5_finding) (pc := 5) (v := -1000010) dX5_finding_5 kc_RX5_288 ?_
  refine jm_ild_n (Y := YX5_finding) (pc := 8) (i := 1) dX5_finding_8 rfl rfl ?_
  refine jm_isub (Y := YX5_finding) (pc := 9) dX5_finding_9 ?_
  refine jm_ret (Y := YX5_finding) (pc := 10) (st := []) dX5_finding_10 rfl rfl ?_
  exact ⟨rfl, rfl⟩
theorem w_unfound (v : Int32) (M : jm_M) : jm_J none YX5_unfound 0 [some (.ref 0), some (.int v)] [] M (jm_is (some (.int v)) (jm_sf M 0 (upd (M 0) 9 (nI 0)))) := by
  refine jm_ald_n (Y := YX5_unfound) (pc := 0) (i := 0) dX5_unfound_0 rfl rfl ?_
  refine jm_icN (Y := YX5_unfound) (pc := 1) 0 dX5_unfound_1 rfl ?_
  refine jm_put (Y := YX5_unfound) (pc := 2) dX5_unfound_2 fw_RX5_54 rfl (by decide) rfl ?_
  refine jm_ild_n (Y := YX5_unfound) (pc := 5) (i := 1) dX5_unfound_5 rfl rfl ?_
  refine jm_ret (Y := YX5_unfound) (pc := 6) (st := []) dX5_unfound_6 rfl rfl ?_
  exact ⟨rfl, rfl⟩
theorem w_cellOrNone (b c : Nat) (hb : b < 64) (hc : c < 16) (M : jm_M) : jm_J none YX5_cellOrNone 0 [some (.int (nI (16 * b + c)))] [] M (jm_is (some (.int (if b = 0 then -1000000 else nI c))) M) := by
  refine jm_ild_n (Y := YX5_cellOrNone) (pc := 0) (i := 0) dX5_cellOrNone_0 rfl rfl ?_
  refine jm_S1ie (Y := YX5_cellOrNone) (pc := 1) dX5_cellOrNone_1 lk_RX5_179 ⟨_, rfl⟩ rfl (by decide) (Nat.le_of_ble_eq_true rfl) ⟨by decide, by decide⟩ (m_isGone _ _ _ (by omega) (by omega)) ?_
  refine jm_if_eqB (Y := YX5_cellOrNone) (pc := 4) dX5_cellOrNone_4 rfl (fun h_4 => ?_) (fun h_4 => ?_)
  · refine jm_ild_n (Y := YX5_cellOrNone) (pc := 12) (i := 0) dX5_cellOrNone_12 rfl rfl ?_
    refine jm_S1ie (Y := YX5_cellOrNone) (pc := 13) dX5_cellOrNone_13 lk_RX5_182 ⟨_, rfl⟩ rfl (by decide) (Nat.le_of_ble_eq_true rfl) ⟨by decide, by decide⟩ (m_cellIn _ _ _ (by omega) (by omega)) ?_
    refine jm_ret (Y := YX5_cellOrNone) (pc := 16) (st := []) dX5_cellOrNone_16 rfl rfl ?_
    first | exact jm_eq (by rw [if_pos h_4]) | exact jm_eq (by rw [if_neg h_4]) | fail
  · refine jm_ldc (Y := YX5_cellOrNone) (pc := 7) (v := -1000000) dX5_cellOrNone_7 kc_RX5_210 ?_
    refine jm_goto (Y := YX5_cellOrNone) (pc := 9) dX5_cellOrNone_9 rfl ?_
    refine jm_ret (Y := YX5_cellOrNone) (pc := 16) (st := []) dX5_cellOrNone_16 rfl rfl ?_
    first | exact jm_eq (by rw [if_pos h_4]) | exact jm_eq (by rw [if_neg h_4]) | fail
theorem i_z {a : Int32} : a = 0 ↔ a.toInt = 0 := ⟨fun h => by rw [h]; rfl, fun h => Int32.toInt_inj.mp (h.trans (by rfl))⟩
theorem w_wh {w : Nat → Nat} (hg : rG w) {k : Nat} (hk : k < w 3) : (if w (17 + 4 * k + 1) = 0 then (-1000000 : Int32) else nI (w (17 + 4 * k + 2))) = p_wh w k := by
  have h := m_gone hg hk
  have e : (m_st w k).1 = w (17 + 4 * k + 1) := rfl
  rw [e] at h
  unfold p_wh
  by_cases z : w (17 + 4 * k + 1) = 0
  · rw [if_pos z, if_pos (h.mpr z)]
  · rw [if_neg z, if_neg (fun y => z (h.mp y))]
theorem w_word (w : Nat → Nat) (M : jm_M) (hR : RV M 0 w) (hg : rG w) (hm : w 4 ≤ 9999) (v a : Int32) : jm_J none YX5_word 0 [some (.ref 0), some (.int v), some (.int a), none] [] M (jm_t M (q_word w v a)) := by
  have hb := hg.hb
  have g0 := hg.1.1
  have g1 := hg.1.2.1
  have g2 := hg.1.2.2.1
  have g3 := hg.1.2.2.2.1
  have g4 := hg.1.2.2.2.2
  refine jm_ald_n (Y := YX5_word) (pc := 0) (i := 0) dX5_word_0 rfl rfl ?_
  refine jm_getR (Y := YX5_word) (pc := 1) dX5_word_1 fr_RX5_33 rfl (by decide) rfl ?_
  refine jm_ild_n (Y := YX5_word) (pc := 4) (i := 1) dX5_word_4 rfl rfl ?_
  refine jm_V1ie (Y := YX5_word) (pc := 5) dX5_word_5 lk_RX5_150 ⟨_, rfl⟩ (by first | exact jm_obR ha | exact jm_obR hb | rfl) rfl (by decide) (Nat.le_of_ble_eq_true rfl) ⟨by decide, by decide⟩ (m_hasWord 0 (by decide) w _ hR hg _) ?_
  refine jm_if_neB (Y := YX5_word) (pc := 8) dX5_word_8 rfl (fun h_8 => ?_) (fun h_8 => ?_)
  · obtain ⟨k, h_k, rfl, t_k, n_k⟩ := jm_ofL (v := v) (n := w 3) (by omega) (by omega)
    have q0 := hg.2.2.1 k (by omega)
    have q1 := hg.2.2.2.2 k (by omega)
    have q2 := m_gone hg h_k
    have e2 : (m_st w k).1 = w (17 + 4 * k + 1) := rfl
    refine jm_ald_n (Y := YX5_word) (pc := 14) (i := 0) dX5_word_14 rfl rfl ?_
    refine jm_getR (Y := YX5_word) (pc := 15) dX5_word_15 fr_RX5_33 rfl (by decide) rfl ?_
    refine jm_getR (Y := YX5_word) (pc := 18) dX5_word_18 fr_RX5_159 (by first | exact jm_obR ha | exact jm_obR hb | rfl) (by decide) (by first | exact jm_rf7 | rfl) ?_
    refine jm_ild_n (Y := YX5_word) (pc := 21) (i := 1) dX5_word_21 rfl rfl ?_
    refine jm_ialN (Y := YX5_word) (pc := 22) dX5_word_22 (by first | assumption | exact jm_arR1 ha | exact jm_arR2 ha | exact jm_arR3 ha | exact jm_arR1 hb | exact jm_arR2 hb | exact jm_arR3 hb | rfl) (by first | omega | exact jm_lt hb _) (by first | assumption | exact hR.1.1 | exact hR.1.2.1 | exact hR.1.2.2.1 | exact hR.1.2.2.2.1 | exact hR.1.2.2.2.2 | exact hR.2.1 _ (by omega) | exact (hR.2.2 _ (by omega)).1 | exact (hR.2.2 _ (by omega)).2 | rfl) ?_
    refine jm_ist_n (Y := YX5_word) (pc := 23) (i := 3) (ls' := [_, _, _, _]) dX5_word_23 rfl (Nat.le_of_ble_eq_true rfl) rfl rfl ?_
    refine jm_ild_n (Y := YX5_word) (pc := 24) (i := 2) dX5_word_24 rfl rfl ?_
    by_cases e_25_0 : Int32.toInt a = 0
    · refine jm_tin dX5_word_25 (by rw [e_25_0]; decide) (by rw [e_25_0]; decide) (by rw [e_25_0]; rfl) rfl ?_
      refine jm_ild_n (Y := YX5_word) (pc := 56) (i := 3) dX5_word_56 rfl rfl ?_
      refine jm_S1ie (Y := YX5_word) (pc := 57) dX5_word_57 lk_RX5_173 ⟨_, rfl⟩ rfl (by decide) (Nat.le_of_ble_eq_true rfl) ⟨by decide, by decide⟩ (m_sizeIn _ _ _ (by omega) (by omega)) ?_
      refine jm_ret (Y := YX5_word) (pc := 60) (st := []) dX5_word_60 rfl rfl ?_
      unfold q_word
      first | exact jm_ti (Eq.symm (by rw [if_neg (by omega)])) (RF_0 1 M) | exact jm_ti (Eq.symm (by rw [if_pos (by omega), if_pos (by omega), n_k])) (RF_0 1 M) | exact jm_ti (Eq.symm (by rw [if_pos (by omega), if_neg (by omega), if_pos (by omega), n_k]; exact (w_wh hg h_k).symm)) (RF_0 1 M) | exact jm_ti (Eq.symm (by rw [if_pos (by omega), if_neg (by omega), if_neg (by omega), if_pos (by omega), n_k]; exact congrArg nI (by omega))) (RF_0 1 M) | exact jm_ti (Eq.symm (by rw [if_pos (by omega), if_neg (by omega), if_neg (by omega), if_neg (by omega), if_pos (by omega), n_k])) (RF_0 1 M) | exact jm_ti (Eq.symm (by rw [if_pos (by omega), if_neg (by omega), if_neg (by omega), if_neg (by omega), if_neg (by omega)])) (RF_0 1 M) | fail
    by_cases e_25_1 : Int32.toInt a = 1
    · refine jm_tin dX5_word_25 (by rw [e_25_1]; decide) (by rw [e_25_1]; decide) (by rw [e_25_1]; rfl) rfl ?_
      refine jm_ild_n (Y := YX5_word) (pc := 61) (i := 3) dX5_word_61 rfl rfl ?_
      refine jm_S1ie (Y := YX5_word) (pc := 62) dX5_word_62 lk_RX5_176 ⟨_, rfl⟩ rfl (by decide) (Nat.le_of_ble_eq_true rfl) ⟨by decide, by decide⟩ (w_cellOrNone _ _ (by omega) (by omega) _) ?_
      refine jm_ret (Y := YX5_word) (pc := 65) (st := []) dX5_word_65 rfl rfl ?_
      unfold q_word
      first | exact jm_ti (Eq.symm (by rw [if_neg (by omega)])) (RF_0 1 M) | exact jm_ti (Eq.symm (by rw [if_pos (by omega), if_pos (by omega), n_k])) (RF_0 1 M) | exact jm_ti (Eq.symm (by rw [if_pos (by omega), if_neg (by omega), if_pos (by omega), n_k]; exact (w_wh hg h_k).symm)) (RF_0 1 M) | exact jm_ti (Eq.symm (by rw [if_pos (by omega), if_neg (by omega), if_neg (by omega), if_pos (by omega), n_k]; exact congrArg nI (by omega))) (RF_0 1 M) | exact jm_ti (Eq.symm (by rw [if_pos (by omega), if_neg (by omega), if_neg (by omega), if_neg (by omega), if_pos (by omega), n_k])) (RF_0 1 M) | exact jm_ti (Eq.symm (by rw [if_pos (by omega), if_neg (by omega), if_neg (by omega), if_neg (by omega), if_neg (by omega)])) (RF_0 1 M) | fail
    by_cases e_25_2 : Int32.toInt a = 2
    · refine jm_tin dX5_word_25 (by rw [e_25_2]; decide) (by rw [e_25_2]; decide) (by rw [e_25_2]; rfl) rfl ?_
      refine jm_ild_n (Y := YX5_word) (pc := 66) (i := 3) dX5_word_66 rfl rfl ?_
      refine jm_S1ie (Y := YX5_word) (pc := 67) dX5_word_67 lk_RX5_179 ⟨_, rfl⟩ rfl (by decide) (Nat.le_of_ble_eq_true rfl) ⟨by decide, by decide⟩ (m_isGone _ _ _ (by omega) (by omega)) ?_
      refine jm_if_eqB (Y := YX5_word) (pc := 70) dX5_word_70 rfl (fun h_70 => ?_) (fun h_70 => ?_)
      · refine jm_icN (Y := YX5_word) (pc := 77) 0 dX5_word_77 rfl ?_
        refine jm_ret (Y := YX5_word) (pc := 78) (st := []) dX5_word_78 rfl rfl ?_
        unfold q_word
        first | exact jm_ti (Eq.symm (by rw [if_neg (by omega)])) (RF_0 1 M) | exact jm_ti (Eq.symm (by rw [if_pos (by omega), if_pos (by omega), n_k])) (RF_0 1 M) | exact jm_ti (Eq.symm (by rw [if_pos (by omega), if_neg (by omega), if_pos (by omega), n_k]; exact (w_wh hg h_k).symm)) (RF_0 1 M) | exact jm_ti (Eq.symm (by rw [if_pos (by omega), if_neg (by omega), if_neg (by omega), if_pos (by omega), n_k]; exact congrArg nI (by omega))) (RF_0 1 M) | exact jm_ti (Eq.symm (by rw [if_pos (by omega), if_neg (by omega), if_neg (by omega), if_neg (by omega), if_pos (by omega), n_k])) (RF_0 1 M) | exact jm_ti (Eq.symm (by rw [if_pos (by omega), if_neg (by omega), if_neg (by omega), if_neg (by omega), if_neg (by omega)])) (RF_0 1 M) | fail
      · refine jm_icN (Y := YX5_word) (pc := 73) 1 dX5_word_73 rfl ?_
        refine jm_goto (Y := YX5_word) (pc := 74) dX5_word_74 rfl ?_
        refine jm_ret (Y := YX5_word) (pc := 78) (st := []) dX5_word_78 rfl rfl ?_
        unfold q_word
        first | exact jm_ti (Eq.symm (by rw [if_neg (by omega)])) (RF_0 1 M) | exact jm_ti (Eq.symm (by rw [if_pos (by omega), if_pos (by omega), n_k])) (RF_0 1 M) | exact jm_ti (Eq.symm (by rw [if_pos (by omega), if_neg (by omega), if_pos (by omega), n_k]; exact (w_wh hg h_k).symm)) (RF_0 1 M) | exact jm_ti (Eq.symm (by rw [if_pos (by omega), if_neg (by omega), if_neg (by omega), if_pos (by omega), n_k]; exact congrArg nI (by omega))) (RF_0 1 M) | exact jm_ti (Eq.symm (by rw [if_pos (by omega), if_neg (by omega), if_neg (by omega), if_neg (by omega), if_pos (by omega), n_k])) (RF_0 1 M) | exact jm_ti (Eq.symm (by rw [if_pos (by omega), if_neg (by omega), if_neg (by omega), if_neg (by omega), if_neg (by omega)])) (RF_0 1 M) | fail
    by_cases e_25_3 : Int32.toInt a = 3
    · refine jm_tin dX5_word_25 (by rw [e_25_3]; decide) (by rw [e_25_3]; decide) (by rw [e_25_3]; rfl) rfl ?_
      refine jm_ild_n (Y := YX5_word) (pc := 79) (i := 3) dX5_word_79 rfl rfl ?_
      refine jm_S1ie (Y := YX5_word) (pc := 80) dX5_word_80 lk_RX5_182 ⟨_, rfl⟩ rfl (by decide) (Nat.le_of_ble_eq_true rfl) ⟨by decide, by decide⟩ (m_cellIn _ _ _ (by omega) (by omega)) ?_
      refine jm_ret (Y := YX5_word) (pc := 83) (st := []) dX5_word_83 rfl rfl ?_
      unfold q_word
      first | exact jm_ti (Eq.symm (by rw [if_neg (by omega)])) (RF_0 1 M) | exact jm_ti (Eq.symm (by rw [if_pos (by omega), if_pos (by omega), n_k])) (RF_0 1 M) | exact jm_ti (Eq.symm (by rw [if_pos (by omega), if_neg (by omega), if_pos (by omega), n_k]; exact (w_wh hg h_k).symm)) (RF_0 1 M) | exact jm_ti (Eq.symm (by rw [if_pos (by omega), if_neg (by omega), if_neg (by omega), if_pos (by omega), n_k]; exact congrArg nI (by omega))) (RF_0 1 M) | exact jm_ti (Eq.symm (by rw [if_pos (by omega), if_neg (by omega), if_neg (by omega), if_neg (by omega), if_pos (by omega), n_k])) (RF_0 1 M) | exact jm_ti (Eq.symm (by rw [if_pos (by omega), if_neg (by omega), if_neg (by omega), if_neg (by omega), if_neg (by omega)])) (RF_0 1 M) | fail
    refine jm_tout (Y := YX5_word) (pc := 25) dX5_word_25 (by omega) rfl ?_
    refine jm_ldc (Y := YX5_word) (pc := 84) (v := -1000001) dX5_word_84 kc_RX5_64 ?_
    refine jm_ret (Y := YX5_word) (pc := 86) (st := []) dX5_word_86 rfl rfl ?_
    unfold q_word
    first | exact jm_ti (Eq.symm (by rw [if_neg (by omega)])) (RF_0 1 M) | exact jm_ti (Eq.symm (by rw [if_pos (by omega), if_pos (by omega), n_k])) (RF_0 1 M) | exact jm_ti (Eq.symm (by rw [if_pos (by omega), if_neg (by omega), if_pos (by omega), n_k]; exact (w_wh hg h_k).symm)) (RF_0 1 M) | exact jm_ti (Eq.symm (by rw [if_pos (by omega), if_neg (by omega), if_neg (by omega), if_pos (by omega), n_k]; exact congrArg nI (by omega))) (RF_0 1 M) | exact jm_ti (Eq.symm (by rw [if_pos (by omega), if_neg (by omega), if_neg (by omega), if_neg (by omega), if_pos (by omega), n_k])) (RF_0 1 M) | exact jm_ti (Eq.symm (by rw [if_pos (by omega), if_neg (by omega), if_neg (by omega), if_neg (by omega), if_neg (by omega)])) (RF_0 1 M) | fail
  · refine jm_ldc (Y := YX5_word) (pc := 11) (v := -1000001) dX5_word_11 kc_RX5_64 ?_
    refine jm_ret (Y := YX5_word) (pc := 13) (st := []) dX5_word_13 rfl rfl ?_
    unfold q_word
    first | exact jm_ti (Eq.symm (by rw [if_neg (by omega)])) (RF_0 1 M) | exact jm_ti (Eq.symm (by rw [if_pos (by omega), if_pos (by omega), n_k])) (RF_0 1 M) | exact jm_ti (Eq.symm (by rw [if_pos (by omega), if_neg (by omega), if_pos (by omega), n_k]; exact (w_wh hg h_k).symm)) (RF_0 1 M) | exact jm_ti (Eq.symm (by rw [if_pos (by omega), if_neg (by omega), if_neg (by omega), if_pos (by omega), n_k]; exact congrArg nI (by omega))) (RF_0 1 M) | exact jm_ti (Eq.symm (by rw [if_pos (by omega), if_neg (by omega), if_neg (by omega), if_neg (by omega), if_pos (by omega), n_k])) (RF_0 1 M) | exact jm_ti (Eq.symm (by rw [if_pos (by omega), if_neg (by omega), if_neg (by omega), if_neg (by omega), if_neg (by omega)])) (RF_0 1 M) | fail
theorem w_cell (w : Nat → Nat) (M : jm_M) (hR : RV M 0 w) (hg : rG w) (hm : w 4 ≤ 9999) (v a : Int32) : jm_J none YX5_cell 0 [some (.ref 0), some (.int v), some (.int a)] [] M (jm_t M (q_cell w v a)) := by
  have hb := hg.hb
  have g0 := hg.1.1
  have g1 := hg.1.2.1
  have g2 := hg.1.2.2.1
  have g3 := hg.1.2.2.2.1
  have g4 := hg.1.2.2.2.2
  refine jm_ald_n (Y := YX5_cell) (pc := 0) (i := 0) dX5_cell_0 rfl rfl ?_
  refine jm_getR (Y := YX5_cell) (pc := 1) dX5_cell_1 fr_RX5_33 rfl (by decide) rfl ?_
  refine jm_ild_n (Y := YX5_cell) (pc := 4) (i := 1) dX5_cell_4 rfl rfl ?_
  refine jm_V1ie (Y := YX5_cell) (pc := 5) dX5_cell_5 lk_RX5_153 ⟨_, rfl⟩ (by first | exact jm_obR ha | exact jm_obR hb | rfl) rfl (by decide) (Nat.le_of_ble_eq_true rfl) ⟨by decide, by decide⟩ (m_hasCell 0 (by decide) w _ hR hg _) ?_
  refine jm_if_neB (Y := YX5_cell) (pc := 8) dX5_cell_8 rfl (fun h_8 => ?_) (fun h_8 => ?_)
  · obtain ⟨k, h_k, rfl, t_k, n_k⟩ := jm_ofL (v := v) (n := w 2) (by omega) (by omega)
    refine jm_ild_n (Y := YX5_cell) (pc := 14) (i := 2) dX5_cell_14 rfl rfl ?_
    by_cases e_15_0 : Int32.toInt a = 0
    · refine jm_tin dX5_cell_15 (by rw [e_15_0]; decide) (by rw [e_15_0]; decide) (by rw [e_15_0]; rfl) rfl ?_
      refine jm_ald_n (Y := YX5_cell) (pc := 40) (i := 0) dX5_cell_40 rfl rfl ?_
      refine jm_getR (Y := YX5_cell) (pc := 41) dX5_cell_41 fr_RX5_33 rfl (by decide) rfl ?_
      refine jm_getR (Y := YX5_cell) (pc := 44) dX5_cell_44 fr_RX5_167 (by first | exact jm_obR ha | exact jm_obR hb | rfl) (by decide) (by first | exact jm_rf5 | rfl) ?_
      refine jm_ild_n (Y := YX5_cell) (pc := 47) (i := 1) dX5_cell_47 rfl rfl ?_
      refine jm_ialN (Y := YX5_cell) (pc := 48) dX5_cell_48 (by first | assumption | exact jm_arR1 ha | exact jm_arR2 ha | exact jm_arR3 ha | exact jm_arR1 hb | exact jm_arR2 hb | exact jm_arR3 hb | rfl) (by first | omega | exact jm_lt hb _) (by first | assumption | exact hR.1.1 | exact hR.1.2.1 | exact hR.1.2.2.1 | exact hR.1.2.2.2.1 | exact hR.1.2.2.2.2 | exact hR.2.1 _ (by omega) | exact (hR.2.2 _ (by omega)).1 | exact (hR.2.2 _ (by omega)).2 | rfl) ?_
      refine jm_ret (Y := YX5_cell) (pc := 49) (st := []) dX5_cell_49 rfl rfl ?_
      unfold q_cell
      first | exact jm_ti (Eq.symm (by rw [if_neg (by omega)])) (RF_0 1 M) | exact jm_ti (Eq.symm (by rw [if_pos (by omega), if_pos (by omega), n_k])) (RF_0 1 M) | exact jm_ti (Eq.symm (by rw [if_pos (by omega), if_neg (by omega), if_pos (by omega), n_k]; rfl)) (RF_0 1 M) | exact jm_ti (Eq.symm (by rw [if_pos (by omega), if_neg (by omega), if_neg (by omega), if_pos (by omega), n_k])) (RF_0 1 M) | exact jm_ti (Eq.symm (by rw [if_pos (by omega), if_neg (by omega), if_neg (by omega), if_neg (by omega)])) (RF_0 1 M) | fail
    by_cases e_15_1 : Int32.toInt a = 1
    · refine jm_tin dX5_cell_15 (by rw [e_15_1]; decide) (by rw [e_15_1]; decide) (by rw [e_15_1]; rfl) rfl ?_
      refine jm_ald_n (Y := YX5_cell) (pc := 50) (i := 0) dX5_cell_50 rfl rfl ?_
      refine jm_getR (Y := YX5_cell) (pc := 51) dX5_cell_51 fr_RX5_33 rfl (by decide) rfl ?_
      refine jm_ild_n (Y := YX5_cell) (pc := 54) (i := 1) dX5_cell_54 rfl rfl ?_
      refine jm_ald_n (Y := YX5_cell) (pc := 55) (i := 0) dX5_cell_55 rfl rfl ?_
      refine jm_getR (Y := YX5_cell) (pc := 56) dX5_cell_56 fr_RX5_33 rfl (by decide) rfl ?_
      refine jm_ald_n (Y := YX5_cell) (pc := 59) (i := 0) dX5_cell_59 rfl rfl ?_
      refine jm_getR (Y := YX5_cell) (pc := 60) dX5_cell_60 fr_RX5_33 rfl (by decide) rfl ?_
      first | refine jm_getE (Y := YX5_cell) (pc := 63) dX5_cell_63 fw_RX5_137 (by first | exact jm_obR ha | exact jm_obR hb | rfl) (by decide) (by first | exact jm_rf4 | rfl) (by assumption) ?_ | refine jm_getE (Y := YX5_cell) (pc := 63) dX5_cell_63 fw_RX5_137 (by first | exact jm_obR ha | exact jm_obR hb | rfl) (by decide) (by first | exact jm_rf4 | rfl) (by exact hR.1.1) ?_ | refine jm_getE (Y := YX5_cell) (pc := 63) dX5_cell_63 fw_RX5_137 (by first | exact jm_obR ha | exact jm_obR hb | rfl) (by decide) (by first | exact jm_rf4 | rfl) (by exact hR.1.2.1) ?_ | refine jm_getE (Y := YX5_cell) (pc := 63) dX5_cell_63 fw_RX5_137 (by first | exact jm_obR ha | exact jm_obR hb | rfl) (by decide) (by first | exact jm_rf4 | rfl) (by exact hR.1.2.2.1) ?_ | refine jm_getE (Y := YX5_cell) (pc := 63) dX5_cell_63 fw_RX5_137 (by first | exact jm_obR ha | exact jm_obR hb | rfl) (by decide) (by first | exact jm_rf4 | rfl) (by exact hR.1.2.2.2.1) ?_ | refine jm_getE (Y := YX5_cell) (pc := 63) dX5_cell_63 fw_RX5_137 (by first | exact jm_obR ha | exact jm_obR hb | rfl) (by decide) (by first | exact jm_rf4 | rfl) (by exact hR.1.2.2.2.2) ?_ | refine jm_getE (Y := YX5_cell) (pc := 63) dX5_cell_63 fw_RX5_137 (by first | exact jm_obR ha | exact jm_obR hb | rfl) (by decide) (by first | exact jm_rf4 | rfl) (by exact hR.2.1 _ (by omega)) ?_ | refine jm_getE (Y := YX5_cell) (pc := 63) dX5_cell_63 fw_RX5_137 (by first | exact jm_obR ha | exact jm_obR hb | rfl) (by decide) (by first | exact jm_rf4 | rfl) (by exact (hR.2.2 _ (by omega)).1) ?_ | refine jm_getE (Y := YX5_cell) (pc := 63) dX5_cell_63 fw_RX5_137 (by first | exact jm_obR ha | exact jm_obR hb | rfl) (by decide) (by first | exact jm_rf4 | rfl) (by exact (hR.2.2 _ (by omega)).2) ?_ | refine jm_getI (Y := YX5_cell) (pc := 63) dX5_cell_63 fw_RX5_137.F (by first | exact jm_obR ha | exact jm_obR hb | rfl) (by decide) (by first | exact jm_rf4 | rfl) ?_ | fail
      refine jm_V1ie (Y := YX5_cell) (pc := 66) dX5_cell_66 lk_RX5_185 ⟨_, rfl⟩ (by first | exact jm_obR ha | exact jm_obR hb | rfl) rfl (by decide) (Nat.le_of_ble_eq_true rfl) ⟨by decide, by decide⟩ (m_isWet 0 (by decide) w _ hR hg _ (by omega)) ?_
      refine jm_V2ie (Y := YX5_cell) (pc := 69) dX5_cell_69 lk_RX5_188 ⟨_, rfl⟩ (by first | exact jm_obR ha | exact jm_obR hb | rfl) rfl rfl (by decide) (Nat.le_of_ble_eq_true rfl) ⟨by decide, by decide⟩ (m_paceOf 0 (by decide) w _ hR hg _ (by omega) _) ?_
      refine jm_ret (Y := YX5_cell) (pc := 72) (st := []) dX5_cell_72 rfl rfl ?_
      unfold q_cell
      first | exact jm_ti (Eq.symm (by rw [if_neg (by omega)])) (RF_0 1 M) | exact jm_ti (Eq.symm (by rw [if_pos (by omega), if_pos (by omega), n_k])) (RF_0 1 M) | exact jm_ti (Eq.symm (by rw [if_pos (by omega), if_neg (by omega), if_pos (by omega), n_k]; rfl)) (RF_0 1 M) | exact jm_ti (Eq.symm (by rw [if_pos (by omega), if_neg (by omega), if_neg (by omega), if_pos (by omega), n_k])) (RF_0 1 M) | exact jm_ti (Eq.symm (by rw [if_pos (by omega), if_neg (by omega), if_neg (by omega), if_neg (by omega)])) (RF_0 1 M) | fail
    by_cases e_15_2 : Int32.toInt a = 2
    · refine jm_tin dX5_cell_15 (by rw [e_15_2]; decide) (by rw [e_15_2]; decide) (by rw [e_15_2]; rfl) rfl ?_
      refine jm_ald_n (Y := YX5_cell) (pc := 73) (i := 0) dX5_cell_73 rfl rfl ?_
      refine jm_getR (Y := YX5_cell) (pc := 74) dX5_cell_74 fr_RX5_33 rfl (by decide) rfl ?_
      refine jm_ild_n (Y := YX5_cell) (pc := 77) (i := 1) dX5_cell_77 rfl rfl ?_
      refine jm_V1ie (Y := YX5_cell) (pc := 78) dX5_cell_78 lk_RX5_192 ⟨_, rfl⟩ (by first | exact jm_obR ha | exact jm_obR hb | rfl) rfl (by decide) (Nat.le_of_ble_eq_true rfl) ⟨by decide, by decide⟩ (m_wordsIn 0 (by decide) w _ hR hg _ (by omega)) ?_
      refine jm_ret (Y := YX5_cell) (pc := 81) (st := []) dX5_cell_81 rfl rfl ?_
      unfold q_cell
      first | exact jm_ti (Eq.symm (by rw [if_neg (by omega)])) (RF_0 1 M) | exact jm_ti (Eq.symm (by rw [if_pos (by omega), if_pos (by omega), n_k])) (RF_0 1 M) | exact jm_ti (Eq.symm (by rw [if_pos (by omega), if_neg (by omega), if_pos (by omega), n_k]; rfl)) (RF_0 1 M) | exact jm_ti (Eq.symm (by rw [if_pos (by omega), if_neg (by omega), if_neg (by omega), if_pos (by omega), n_k])) (RF_0 1 M) | exact jm_ti (Eq.symm (by rw [if_pos (by omega), if_neg (by omega), if_neg (by omega), if_neg (by omega)])) (RF_0 1 M) | fail
    refine jm_tout (Y := YX5_cell) (pc := 15) dX5_cell_15 (by omega) rfl ?_
    refine jm_ldc (Y := YX5_cell) (pc := 82) (v := -1000001) dX5_cell_82 kc_RX5_64 ?_
    refine jm_ret (Y := YX5_cell) (pc := 84) (st := []) dX5_cell_84 rfl rfl ?_
    unfold q_cell
    first | exact jm_ti (Eq.symm (by rw [if_neg (by omega)])) (RF_0 1 M) | exact jm_ti (Eq.symm (by rw [if_pos (by omega), if_pos (by omega), n_k])) (RF_0 1 M) | exact jm_ti (Eq.symm (by rw [if_pos (by omega), if_neg (by omega), if_pos (by omega), n_k]; rfl)) (RF_0 1 M) | exact jm_ti (Eq.symm (by rw [if_pos (by omega), if_neg (by omega), if_neg (by omega), if_pos (by omega), n_k])) (RF_0 1 M) | exact jm_ti (Eq.symm (by rw [if_pos (by omega), if_neg (by omega), if_neg (by omega), if_neg (by omega)])) (RF_0 1 M) | fail
  · refine jm_ldc (Y := YX5_cell) (pc := 11) (v := -1000001) dX5_cell_11 kc_RX5_64 ?_
    refine jm_ret (Y := YX5_cell) (pc := 13) (st := []) dX5_cell_13 rfl rfl ?_
    unfold q_cell
    first | exact jm_ti (Eq.symm (by rw [if_neg (by omega)])) (RF_0 1 M) | exact jm_ti (Eq.symm (by rw [if_pos (by omega), if_pos (by omega), n_k])) (RF_0 1 M) | exact jm_ti (Eq.symm (by rw [if_pos (by omega), if_neg (by omega), if_pos (by omega), n_k]; rfl)) (RF_0 1 M) | exact jm_ti (Eq.symm (by rw [if_pos (by omega), if_neg (by omega), if_neg (by omega), if_pos (by omega), n_k])) (RF_0 1 M) | exact jm_ti (Eq.symm (by rw [if_pos (by omega), if_neg (by omega), if_neg (by omega), if_neg (by omega)])) (RF_0 1 M) | fail
theorem w_ahead (w : Nat → Nat) (M : jm_M) (hR : RV M 0 w) (hg : rG w) (hm : w 4 ≤ 9999) (v d a : Int32) : jm_J none YX5_ahead 0 [some (.ref 0), some (.int v), some (.int d), some (.int a), none] [] M (jm_t M (q_ahead w v d a)) := by
  have hb := hg.hb
  have g0 := hg.1.1
  have g1 := hg.1.2.1
  have g2 := hg.1.2.2.1
  have g3 := hg.1.2.2.2.1
  have g4 := hg.1.2.2.2.2
  refine jm_ald_n (Y := YX5_ahead) (pc := 0) (i := 0) dX5_ahead_0 rfl rfl ?_
  refine jm_getR (Y := YX5_ahead) (pc := 1) dX5_ahead_1 fr_RX5_33 rfl (by decide) rfl ?_
  refine jm_ild_n (Y := YX5_ahead) (pc := 4) (i := 1) dX5_ahead_4 rfl rfl ?_
  refine jm_V1ie (Y := YX5_ahead) (pc := 5) dX5_ahead_5 lk_RX5_150 ⟨_, rfl⟩ (by first | exact jm_obR ha | exact jm_obR hb | rfl) rfl (by decide) (Nat.le_of_ble_eq_true rfl) ⟨by decide, by decide⟩ (m_hasWord 0 (by decide) w _ hR hg _) ?_
  refine jm_if_eqB (Y := YX5_ahead) (pc := 8) dX5_ahead_8 rfl (fun h_8 => ?_) (fun h_8 => ?_)
  · refine jm_ldc (Y := YX5_ahead) (pc := 30) (v := -1000001) dX5_ahead_30 kc_RX5_64 ?_
    refine jm_ret (Y := YX5_ahead) (pc := 32) (st := []) dX5_ahead_32 rfl rfl ?_
    unfold q_ahead
    first | exact jm_ti (Eq.symm (by rw [if_neg (by omega)])) (RF_0 1 M) | (have hz := i_z.mp h_45; exact jm_ti (Eq.symm (by rw [if_pos (by omega), n_k, n_N, if_pos hz, m_wd_1 hg h_k (by omega), m_wd_2 hg h_k (by omega)]; exact (w_wh (p_on_rG hg N (by omega)) (by rw [p_on_hd w (by decide) (by decide)]; exact h_k)).symm)) (RF_0 1 M)) | (have hz : ¬ a.toInt = 0 := (fun z => h_45 (i_z.mpr z)); exact jm_ti (Eq.symm (by rw [if_pos (by omega), n_k, n_N, if_neg hz, m_wd_1 hg h_k (by omega)])) (RF_0 1 M)) | fail
  · refine jm_ild_n (Y := YX5_ahead) (pc := 11) (i := 2) dX5_ahead_11 rfl rfl ?_
    refine jm_icN (Y := YX5_ahead) (pc := 12) 0 dX5_ahead_12 rfl ?_
    refine jm_bpN (Y := YX5_ahead) (pc := 13) 60 dX5_ahead_13 rfl ?_
    refine jm_S3ie (Y := YX5_ahead) (pc := 15) dX5_ahead_15 lk_RX5_98 ⟨_, rfl⟩ rfl rfl rfl (by decide) (Nat.le_of_ble_eq_true rfl) ⟨by decide, by decide⟩ (w_wiN _ _ _ _ (by decide) (by decide)) ?_
    refine jm_if_eqB (Y := YX5_ahead) (pc := 18) dX5_ahead_18 rfl (fun h_18 => ?_) (fun h_18 => ?_)
    · refine jm_ldc (Y := YX5_ahead) (pc := 30) (v := -1000001) dX5_ahead_30 kc_RX5_64 ?_
      refine jm_ret (Y := YX5_ahead) (pc := 32) (st := []) dX5_ahead_32 rfl rfl ?_
      unfold q_ahead
      first | exact jm_ti (Eq.symm (by rw [if_neg (by omega)])) (RF_0 1 M) | (have hz := i_z.mp h_45; exact jm_ti (Eq.symm (by rw [if_pos (by omega), n_k, n_N, if_pos hz, m_wd_1 hg h_k (by omega), m_wd_2 hg h_k (by omega)]; exact (w_wh (p_on_rG hg N (by omega)) (by rw [p_on_hd w (by decide) (by decide)]; exact h_k)).symm)) (RF_0 1 M)) | (have hz : ¬ a.toInt = 0 := (fun z => h_45 (i_z.mpr z)); exact jm_ti (Eq.symm (by rw [if_pos (by omega), n_k, n_N, if_neg hz, m_wd_1 hg h_k (by omega)])) (RF_0 1 M)) | fail
    · refine jm_ild_n (Y := YX5_ahead) (pc := 21) (i := 3) dX5_ahead_21 rfl rfl ?_
      refine jm_icN (Y := YX5_ahead) (pc := 22) 0 dX5_ahead_22 rfl ?_
      refine jm_icN (Y := YX5_ahead) (pc := 23) 1 dX5_ahead_23 rfl ?_
      refine jm_S3ie (Y := YX5_ahead) (pc := 24) dX5_ahead_24 lk_RX5_98 ⟨_, rfl⟩ rfl rfl rfl (by decide) (Nat.le_of_ble_eq_true rfl) ⟨by decide, by decide⟩ (w_wiN _ _ _ _ (by decide) (by decide)) ?_
      refine jm_if_neB (Y := YX5_ahead) (pc := 27) dX5_ahead_27 rfl (fun h_27 => ?_) (fun h_27 => ?_)
      · obtain ⟨k, h_k, rfl, t_k, n_k⟩ := jm_ofL (v := v) (n := w 3) (by omega) (by omega)
        obtain ⟨N, h_N, rfl, t_N, n_N⟩ := jm_ofL (v := d) (n := 61) (by omega) (by omega)
        have wb := m_wd_b hg h_k N
        refine jm_ald_n (Y := YX5_ahead) (pc := 33) (i := 0) dX5_ahead_33 rfl rfl ?_
        refine jm_getR (Y := YX5_ahead) (pc := 34) dX5_ahead_34 fr_RX5_33 rfl (by decide) rfl ?_
        refine jm_ild_n (Y := YX5_ahead) (pc := 37) (i := 1) dX5_ahead_37 rfl rfl ?_
        refine jm_ild_n (Y := YX5_ahead) (pc := 38) (i := 2) dX5_ahead_38 rfl rfl ?_
        refine jm_V2ie (Y := YX5_ahead) (pc := 39) dX5_ahead_39 lk_RX5_195 ⟨_, rfl⟩ (by first | exact jm_obR ha | exact jm_obR hb | rfl) rfl rfl (by decide) (Nat.le_of_ble_eq_true rfl) ⟨by decide, by decide⟩ (m_foretold 0 (by decide) w _ hR hg _ (by omega) _ (by omega)) ?_
        refine jm_ist (Y := YX5_ahead) (pc := 42) (ls' := [_, _, _, _, _]) dX5_ahead_42 (Nat.le_of_ble_eq_true rfl) rfl rfl ?_
        refine jm_ild_n (Y := YX5_ahead) (pc := 44) (i := 3) dX5_ahead_44 rfl rfl ?_
        refine jm_if_ne (Y := YX5_ahead) (pc := 45) dX5_ahead_45 rfl (fun h_45 => ?_) (fun h_45 => ?_)
        · refine jm_iload (Y := YX5_ahead) (pc := 56) dX5_ahead_56 rfl ?_
          refine jm_S1ie (Y := YX5_ahead) (pc := 58) dX5_ahead_58 lk_RX5_173 ⟨_, rfl⟩ rfl (by decide) (Nat.le_of_ble_eq_true rfl) ⟨by decide, by decide⟩ (m_sizeIn _ _ _ (by omega) (by omega)) ?_
          refine jm_ret (Y := YX5_ahead) (pc := 61) (st := []) dX5_ahead_61 rfl rfl ?_
          unfold q_ahead
          first | exact jm_ti (Eq.symm (by rw [if_neg (by omega)])) (RF_0 1 M) | (have hz := i_z.mp h_45; exact jm_ti (Eq.symm (by rw [if_pos (by omega), n_k, n_N, if_pos hz, m_wd_1 hg h_k (by omega), m_wd_2 hg h_k (by omega)]; exact (w_wh (p_on_rG hg N (by omega)) (by rw [p_on_hd w (by decide) (by decide)]; exact h_k)).symm)) (RF_0 1 M)) | (have hz : ¬ a.toInt = 0 := (fun z => h_45 (i_z.mpr z)); exact jm_ti (Eq.symm (by rw [if_pos (by omega), n_k, n_N, if_neg hz, m_wd_1 hg h_k (by omega)])) (RF_0 1 M)) | fail
        · refine jm_iload (Y := YX5_ahead) (pc := 48) dX5_ahead_48 rfl ?_
          refine jm_S1ie (Y := YX5_ahead) (pc := 50) dX5_ahead_50 lk_RX5_176 ⟨_, rfl⟩ rfl (by decide) (Nat.le_of_ble_eq_true rfl) ⟨by decide, by decide⟩ (w_cellOrNone _ _ (by omega) (by omega) _) ?_
          refine jm_goto (Y := YX5_ahead) (pc := 53) dX5_ahead_53 rfl ?_
          refine jm_ret (Y := YX5_ahead) (pc := 61) (st := []) dX5_ahead_61 rfl rfl ?_
          unfold q_ahead
          first | exact jm_ti (Eq.symm (by rw [if_neg (by omega)])) (RF_0 1 M) | (have hz := i_z.mp h_45; exact jm_ti (Eq.symm (by rw [if_pos (by omega), n_k, n_N, if_pos hz, m_wd_1 hg h_k (by omega), m_wd_2 hg h_k (by omega)]; exact (w_wh (p_on_rG hg N (by omega)) (by rw [p_on_hd w (by decide) (by decide)]; exact h_k)).symm)) (RF_0 1 M)) | (have hz : ¬ a.toInt = 0 := (fun z => h_45 (i_z.mpr z)); exact jm_ti (Eq.symm (by rw [if_pos (by omega), n_k, n_N, if_neg hz, m_wd_1 hg h_k (by omega)])) (RF_0 1 M)) | fail
      · refine jm_ldc (Y := YX5_ahead) (pc := 30) (v := -1000001) dX5_ahead_30 kc_RX5_64 ?_
        refine jm_ret (Y := YX5_ahead) (pc := 32) (st := []) dX5_ahead_32 rfl rfl ?_
        unfold q_ahead
        first | exact jm_ti (Eq.symm (by rw [if_neg (by omega)])) (RF_0 1 M) | (have hz := i_z.mp h_45; exact jm_ti (Eq.symm (by rw [if_pos (by omega), n_k, n_N, if_pos hz, m_wd_1 hg h_k (by omega), m_wd_2 hg h_k (by omega)]; exact (w_wh (p_on_rG hg N (by omega)) (by rw [p_on_hd w (by decide) (by decide)]; exact h_k)).symm)) (RF_0 1 M)) | (have hz : ¬ a.toInt = 0 := (fun z => h_45 (i_z.mpr z)); exact jm_ti (Eq.symm (by rw [if_pos (by omega), n_k, n_N, if_neg hz, m_wd_1 hg h_k (by omega)])) (RF_0 1 M)) | fail
theorem w_quarrel (w : Nat → Nat) (M : jm_M) (hR : RV M 0 w) (hg : rG w) (hm : w 4 ≤ 9999) (d : Int32) : jm_J none YX5_quarrel 0 [some (.ref 0), some (.int d)] [] M (jm_t M (q_quarrel w d)) := by
  have hb := hg.hb
  have g0 := hg.1.1
  have g1 := hg.1.2.1
  have g2 := hg.1.2.2.1
  have g3 := hg.1.2.2.2.1
  have g4 := hg.1.2.2.2.2
  refine jm_ald_n (Y := YX5_quarrel) (pc := 0) (i := 0) dX5_quarrel_0 rfl rfl ?_
  refine jm_V0ie (Y := YX5_quarrel) (pc := 1) dX5_quarrel_1 lk_RX5_133 ⟨_, rfl⟩ rfl (by decide) (Nat.le_of_ble_eq_true rfl) ⟨by decide, by decide⟩ (w_hasRiver w _ hR hg hm) ?_
  refine jm_if_neB (Y := YX5_quarrel) (pc := 4) dX5_quarrel_4 rfl (fun h_4 => ?_) (fun h_4 => ?_)
  · refine jm_ild_n (Y := YX5_quarrel) (pc := 10) (i := 1) dX5_quarrel_10 rfl rfl ?_
    refine jm_icN (Y := YX5_quarrel) (pc := 11) 0 dX5_quarrel_11 rfl ?_
    refine jm_bpN (Y := YX5_quarrel) (pc := 12) 60 dX5_quarrel_12 rfl ?_
    refine jm_S3ie (Y := YX5_quarrel) (pc := 14) dX5_quarrel_14 lk_RX5_98 ⟨_, rfl⟩ rfl rfl rfl (by decide) (Nat.le_of_ble_eq_true rfl) ⟨by decide, by decide⟩ (w_wiN _ _ _ _ (by decide) (by decide)) ?_
    refine jm_if_neB (Y := YX5_quarrel) (pc := 17) dX5_quarrel_17 rfl (fun h_17 => ?_) (fun h_17 => ?_)
    · obtain ⟨N, h_N, rfl, t_N, n_N⟩ := jm_ofL (v := d) (n := 61) (by omega) (by omega)
      refine jm_ald_n (Y := YX5_quarrel) (pc := 23) (i := 0) dX5_quarrel_23 rfl rfl ?_
      refine jm_getR (Y := YX5_quarrel) (pc := 24) dX5_quarrel_24 fr_RX5_33 rfl (by decide) rfl ?_
      refine jm_ild_n (Y := YX5_quarrel) (pc := 27) (i := 1) dX5_quarrel_27 rfl rfl ?_
      refine jm_V1ie (Y := YX5_quarrel) (pc := 28) dX5_quarrel_28 lk_RX5_198 ⟨_, rfl⟩ (by first | exact jm_obR ha | exact jm_obR hb | rfl) rfl (by decide) (Nat.le_of_ble_eq_true rfl) ⟨by decide, by decide⟩ (m_quarrel 0 (by decide) w _ hR hg _ (by omega)) ?_
      refine jm_ret (Y := YX5_quarrel) (pc := 31) (st := []) dX5_quarrel_31 rfl rfl ?_
      unfold q_quarrel
      first | exact jm_ti (Eq.symm (by rw [if_pos (by omega)])) (RF_0 1 M) | exact jm_ti (Eq.symm (by rw [if_neg (by omega), if_neg (by omega)])) (RF_0 1 M) | exact jm_ti (Eq.symm (by rw [if_neg (by omega), if_pos (by omega), n_N])) (RF_0 1 M) | fail
    · refine jm_ldc (Y := YX5_quarrel) (pc := 20) (v := -1000001) dX5_quarrel_20 kc_RX5_64 ?_
      refine jm_ret (Y := YX5_quarrel) (pc := 22) (st := []) dX5_quarrel_22 rfl rfl ?_
      unfold q_quarrel
      first | exact jm_ti (Eq.symm (by rw [if_pos (by omega)])) (RF_0 1 M) | exact jm_ti (Eq.symm (by rw [if_neg (by omega), if_neg (by omega)])) (RF_0 1 M) | exact jm_ti (Eq.symm (by rw [if_neg (by omega), if_pos (by omega), n_N])) (RF_0 1 M) | fail
  · refine jm_ldc (Y := YX5_quarrel) (pc := 7) (v := -1000002) dX5_quarrel_7 kc_RX5_136 ?_
    refine jm_ret (Y := YX5_quarrel) (pc := 9) (st := []) dX5_quarrel_9 rfl rfl ?_
    unfold q_quarrel
    first | exact jm_ti (Eq.symm (by rw [if_pos (by omega)])) (RF_0 1 M) | exact jm_ti (Eq.symm (by rw [if_neg (by omega), if_neg (by omega)])) (RF_0 1 M) | exact jm_ti (Eq.symm (by rw [if_neg (by omega), if_pos (by omega), n_N])) (RF_0 1 M) | fail
theorem w_over (w : Nat → Nat) (M : jm_M) (hR : RV M 0 w) (hg : rG w) (hm : w 4 ≤ 9999) (v : Int32) : jm_J none YX5_over 0 [some (.ref 0), some (.int v)] [] M (jm_t M (q_over w v)) := by
  have hb := hg.hb
  have g0 := hg.1.1
  have g1 := hg.1.2.1
  have g2 := hg.1.2.2.1
  have g3 := hg.1.2.2.2.1
  have g4 := hg.1.2.2.2.2
  refine jm_ald_n (Y := YX5_over) (pc := 0) (i := 0) dX5_over_0 rfl rfl ?_
  refine jm_getR (Y := YX5_over) (pc := 1) dX5_over_1 fr_RX5_33 rfl (by decide) rfl ?_
  refine jm_ild_n (Y := YX5_over) (pc := 4) (i := 1) dX5_over_4 rfl rfl ?_
  refine jm_V1ie (Y := YX5_over) (pc := 5) dX5_over_5 lk_RX5_150 ⟨_, rfl⟩ (by first | exact jm_obR ha | exact jm_obR hb | rfl) rfl (by decide) (Nat.le_of_ble_eq_true rfl) ⟨by decide, by decide⟩ (m_hasWord 0 (by decide) w _ hR hg _) ?_
  refine jm_if_neB (Y := YX5_over) (pc := 8) dX5_over_8 rfl (fun h_8 => ?_) (fun h_8 => ?_)
  · obtain ⟨k, h_k, rfl, t_k, n_k⟩ := jm_ofL (v := v) (n := w 3) (by omega) (by omega)
    refine jm_ald_n (Y := YX5_over) (pc := 14) (i := 0) dX5_over_14 rfl rfl ?_
    refine jm_getR (Y := YX5_over) (pc := 15) dX5_over_15 fr_RX5_33 rfl (by decide) rfl ?_
    refine jm_ild_n (Y := YX5_over) (pc := 18) (i := 1) dX5_over_18 rfl rfl ?_
    refine jm_bpN (Y := YX5_over) (pc := 19) 60 dX5_over_19 rfl ?_
    refine jm_V2ie (Y := YX5_over) (pc := 21) dX5_over_21 lk_RX5_201 ⟨_, rfl⟩ (by first | exact jm_obR ha | exact jm_obR hb | rfl) rfl rfl (by decide) (Nat.le_of_ble_eq_true rfl) ⟨by decide, by decide⟩ (m_goneBehind 0 (by decide) w _ hR hg _ (by omega) hm) ?_
    refine jm_ret (Y := YX5_over) (pc := 24) (st := []) dX5_over_24 rfl rfl ?_
    unfold q_over
    first | exact jm_ti (Eq.symm (by rw [if_neg (by omega)])) (RF_0 1 M) | exact jm_ti (Eq.symm (by rw [if_pos (by omega), n_k])) (RF_0 1 M) | fail
  · refine jm_ldc (Y := YX5_over) (pc := 11) (v := -1000001) dX5_over_11 kc_RX5_64 ?_
    refine jm_ret (Y := YX5_over) (pc := 13) (st := []) dX5_over_13 rfl rfl ?_
    unfold q_over
    first | exact jm_ti (Eq.symm (by rw [if_neg (by omega)])) (RF_0 1 M) | exact jm_ti (Eq.symm (by rw [if_pos (by omega), n_k])) (RF_0 1 M) | fail
def p_kb (w : Nat → Nat) (n : Nat) : Nat → Nat
  | 0 => 0
  | a + 1 => p_kb w n a ||| (if p_on w n (17 + 4 * a + 3) = 1 then 0 else 2 ^ a)
theorem p_kb_e {w : Nat → Nat} (hg : rG w) {n : Nat} (hn : w 4 + n ≤ 19000) : ∀ a, a ≤ w 3 → ∀ i, (p_kb w n a).testBit i = (decide (i < a) && !(p_gn (p_on w n) a).testBit i) ∧ ((p_gn (p_on w n) a).testBit i = true → i < a)
  | 0, _, i => by
    have e1 : p_kb w n 0 = 0 := rfl
    have e2 : p_gn (p_on w n) 0 = 0 := rfl
    rw [e1, e2, Nat.zero_testBit]
    simp
  | a + 1, ha, i => by
    obtain ⟨h1, h2⟩ := p_kb_e hg hn a (by omega) i
    have q := (p_on_rG hg n hn).2.2.1 a (by have := hg.1.2.2.2.1; omega)
    have e1 : p_kb w n (a + 1) = p_kb w n a ||| (if p_on w n (17 + 4 * a + 3) = 1 then 0 else 2 ^ a) := rfl
    have e2 : p_gn (p_on w n) (a + 1) = p_gn (p_on w n) a ||| (p_on w n (17 + 4 * a + 3) * 2 ^ a) := rfl
    rw [e1, e2, Nat.testBit_or, Nat.testBit_or, h1]
    rcases (show p_on w n (17 + 4 * a + 3) = 0 ∨ p_on w n (17 + 4 * a + 3) = 1 by omega) with z | z
    · rw [z, if_neg (by decide), Nat.zero_mul, Nat.zero_testBit, Nat.testBit_two_pow]
      by_cases e : a = i
      · subst e
        have : (p_gn (p_on w n) a).testBit a = false := by
          cases t : (p_gn (p_on w n) a).testBit a
          · rfl
          · exact absurd (h2 t) (by omega)
        simp [this]
      · have e3 : decide (i < a + 1) = decide (i < a) := by
          by_cases l : i < a
          · rw [decide_eq_true l, decide_eq_true (by omega)]
          · rw [decide_eq_false l, decide_eq_false (by omega)]
        rw [e3]
        refine ⟨by simp [e], fun t => ?_⟩
        have := h2 (by simpa using t)
        omega
    · rw [z, if_pos rfl, Nat.one_mul, Nat.zero_testBit, Nat.testBit_two_pow]
      by_cases e : a = i
      · subst e
        simp
      · have e3 : decide (i < a + 1) = decide (i < a) := by
          by_cases l : i < a
          · rw [decide_eq_true l, decide_eq_true (by omega)]
          · rw [decide_eq_false l, decide_eq_false (by omega)]
        rw [e3]
        refine ⟨by simp [e], fun t => ?_⟩
        have := h2 (by simpa [e] using t)
        omega
theorem p_kb_lt (w : Nat → Nat) (n : Nat) : ∀ a, p_kb w n a < 2 ^ a
  | 0 => (show 0 < 1 by decide)
  | a + 1 => by
    have h := p_kb_lt w n a
    have e : (2 : Nat) ^ (a + 1) = 2 ^ a * 2 := Nat.pow_succ ..
    refine Nat.or_lt_two_pow (by omega) ?_
    split
    · omega
    · have : 0 < 2 ^ a := Nat.two_pow_pos a
      omega
theorem q_kept_e {w : Nat → Nat} (hg : rG w) (hm : w 4 ≤ 9999) (h2 : ¬ w 2 = 0) : nI (p_kb w 60 (w 3)) = q_kept w := by
  unfold q_kept
  rw [if_neg h2]
  have h3 := hg.1.2.2.2.1
  apply Int32.toBitVec_inj.mp
  have e1 : (nI (2 ^ w 3 - 1) &&& (nI (p_gn (p_on w 60) (w 3)) ^^^ -1)).toBitVec = BitVec.ofNat 32 (2 ^ w 3 - 1) &&& (BitVec.ofNat 32 (p_gn (p_on w 60) (w 3)) ^^^ BitVec.allOnes 32) := rfl
  rw [e1]
  have e2 : (nI (p_kb w 60 (w 3))).toBitVec = BitVec.ofNat 32 (p_kb w 60 (w 3)) := rfl
  rw [e2]
  apply BitVec.eq_of_getLsbD_eq
  intro i hi
  rw [BitVec.getLsbD_and, BitVec.getLsbD_xor, BitVec.getLsbD_allOnes, BitVec.getLsbD_ofNat, BitVec.getLsbD_ofNat, BitVec.getLsbD_ofNat, Nat.testBit_two_pow_sub_one, (p_kb_e hg (by omega) (w 3) (Nat.le_refl _) i).1]
  simp [hi]
theorem w_kept0 (w : Nat → Nat) (M : jm_M) (hR : RV M 0 w) (hg : rG w) (hm : w 4 ≤ 9999) : ∀ (m : Nat) (b : Nat), b ≤ w 3 → w 3 - b < m → jm_J none YX5_kept 14 [some (.ref 0), some (.int (nI (p_kb w 60 b))), some (.int (nI b))] [] M (jm_is (some (.int (nI (p_kb w 60 (w 3))))) M) := by
  intro m
  induction m with
  | zero => intros; omega
  | succ m ih =>
    intro b hb0 hmm
    have hb := hg.hb
    have g0 := hg.1.1
    have g1 := hg.1.2.1
    have g2 := hg.1.2.2.1
    have g3 := hg.1.2.2.2.1
    have g4 := hg.1.2.2.2.2
    refine jm_ild_n (Y := YX5_kept) (pc := 14) (i := 2) dX5_kept_14 rfl rfl ?_
    refine jm_ald_n (Y := YX5_kept) (pc := 15) (i := 0) dX5_kept_15 rfl rfl ?_
    refine jm_getR (Y := YX5_kept) (pc := 16) dX5_kept_16 fr_RX5_33 rfl (by decide) rfl ?_
    first | refine jm_getE (Y := YX5_kept) (pc := 19) dX5_kept_19 fw_RX5_204 (by first | exact jm_obR ha | exact jm_obR hb | rfl) (by decide) (by first | exact jm_rf1 | rfl) (by assumption) ?_ | refine jm_getE (Y := YX5_kept) (pc := 19) dX5_kept_19 fw_RX5_204 (by first | exact jm_obR ha | exact jm_obR hb | rfl) (by decide) (by first | exact jm_rf1 | rfl) (by exact hR.1.1) ?_ | refine jm_getE (Y := YX5_kept) (pc := 19) dX5_kept_19 fw_RX5_204 (by first | exact jm_obR ha | exact jm_obR hb | rfl) (by decide) (by first | exact jm_rf1 | rfl) (by exact hR.1.2.1) ?_ | refine jm_getE (Y := YX5_kept) (pc := 19) dX5_kept_19 fw_RX5_204 (by first | exact jm_obR ha | exact jm_obR hb | rfl) (by decide) (by first | exact jm_rf1 | rfl) (by exact hR.1.2.2.1) ?_ | refine jm_getE (Y := YX5_kept) (pc := 19) dX5_kept_19 fw_RX5_204 (by first | exact jm_obR ha | exact jm_obR hb | rfl) (by decide) (by first | exact jm_rf1 | rfl) (by exact hR.1.2.2.2.1) ?_ | refine jm_getE (Y := YX5_kept) (pc := 19) dX5_kept_19 fw_RX5_204 (by first | exact jm_obR ha | exact jm_obR hb | rfl) (by decide) (by first | exact jm_rf1 | rfl) (by exact hR.1.2.2.2.2) ?_ | refine jm_getE (Y := YX5_kept) (pc := 19) dX5_kept_19 fw_RX5_204 (by first | exact jm_obR ha | exact jm_obR hb | rfl) (by decide) (by first | exact jm_rf1 | rfl) (by exact hR.2.1 _ (by omega)) ?_ | refine jm_getE (Y := YX5_kept) (pc := 19) dX5_kept_19 fw_RX5_204 (by first | exact jm_obR ha | exact jm_obR hb | rfl) (by decide) (by first | exact jm_rf1 | rfl) (by exact (hR.2.2 _ (by omega)).1) ?_ | refine jm_getE (Y := YX5_kept) (pc := 19) dX5_kept_19 fw_RX5_204 (by first | exact jm_obR ha | exact jm_obR hb | rfl) (by decide) (by first | exact jm_rf1 | rfl) (by exact (hR.2.2 _ (by omega)).2) ?_ | refine jm_getI (Y := YX5_kept) (pc := 19) dX5_kept_19 fw_RX5_204.F (by first | exact jm_obR ha | exact jm_obR hb | rfl) (by decide) (by first | exact jm_rf1 | rfl) ?_ | fail
    refine jm_icmp_geN (Y := YX5_kept) (pc := 22) dX5_kept_22 rfl (by first | omega | exact jm_lt hb _) (by first | omega | exact jm_lt hb _) (fun h_22 => ?_) (fun h_22 => ?_)
    · refine jm_ild_n (Y := YX5_kept) (pc := 53) (i := 1) dX5_kept_53 rfl rfl ?_
      refine jm_ret (Y := YX5_kept) (pc := 54) (st := []) dX5_kept_54 rfl rfl ?_
      have e : b = w 3 := by omega
      rw [e]
      exact ⟨rfl, rfl⟩
    · refine jm_ald_n (Y := YX5_kept) (pc := 25) (i := 0) dX5_kept_25 rfl rfl ?_
      refine jm_getR (Y := YX5_kept) (pc := 26) dX5_kept_26 fr_RX5_33 rfl (by decide) rfl ?_
      refine jm_ild_n (Y := YX5_kept) (pc := 29) (i := 2) dX5_kept_29 rfl rfl ?_
      have wb := m_wd_b hg (show b < w 3 by omega) 60
      have wg := m_wd_g hg (show b < w 3 by omega) (n := 60) (by omega)
      refine jm_bpN (Y := YX5_kept) (pc := 30) 60 dX5_kept_30 rfl ?_
      refine jm_V2ie (Y := YX5_kept) (pc := 32) dX5_kept_32 lk_RX5_195 ⟨_, rfl⟩ (by first | exact jm_obR ha | exact jm_obR hb | rfl) rfl rfl (by decide) (Nat.le_of_ble_eq_true rfl) ⟨by decide, by decide⟩ (m_foretold 0 (by decide) w _ hR hg _ (by omega) _ (by omega)) ?_
      refine jm_S1ie (Y := YX5_kept) (pc := 35) dX5_kept_35 lk_RX5_179 ⟨_, rfl⟩ rfl (by decide) (Nat.le_of_ble_eq_true rfl) ⟨by decide, by decide⟩ (m_isGone _ _ _ (by omega) (by omega)) ?_
      refine jm_if_neB (Y := YX5_kept) (pc := 38) dX5_kept_38 rfl (fun h_38 => ?_) (fun h_38 => ?_)
      · refine jm_incN (Y := YX5_kept) (pc := 47) (m := 1) (ls' := [_, _, _]) dX5_kept_47 rfl rfl rfl rfl ?_
        refine jm_goto (Y := YX5_kept) (pc := 50) dX5_kept_50 rfl ?_
        have e9 : p_kb w 60 (b + 1) = p_kb w 60 b ||| (if p_on w 60 (17 + 4 * b + 3) = 1 then 0 else 2 ^ b) := rfl
        first
          | (rw [if_pos (wg.mp h_38)] at e9; have e8 : p_kb w 60 (b + 1) = p_kb w 60 b := (by rw [e9, Nat.or_zero]); rw [← e8]; exact ih (b + 1) (by omega) (by omega))
          | (rw [if_neg (fun z => absurd (wg.mpr z) h_38)] at e9; rw [Nat.one_mul, ← e9]; exact ih (b + 1) (by omega) (by omega))
          | fail
      · refine jm_ild_n (Y := YX5_kept) (pc := 41) (i := 1) dX5_kept_41 rfl rfl ?_
        refine jm_icN (Y := YX5_kept) (pc := 42) 1 dX5_kept_42 rfl ?_
        refine jm_ild_n (Y := YX5_kept) (pc := 43) (i := 2) dX5_kept_43 rfl rfl ?_
        refine jm_shlN (Y := YX5_kept) (pc := 44) dX5_kept_44 (by omega) (by rw [Nat.one_mul]; exact Nat.lt_of_le_of_lt (Nat.pow_le_pow_right (by decide) (show b ≤ 7 by omega)) (by decide)) ?_
        refine jm_orN (Y := YX5_kept) (pc := 45) dX5_kept_45 ?_
        refine jm_ist_n (Y := YX5_kept) (pc := 46) (i := 1) (ls' := [_, _, _]) dX5_kept_46 rfl (Nat.le_of_ble_eq_true rfl) rfl rfl ?_
        refine jm_incN (Y := YX5_kept) (pc := 47) (m := 1) (ls' := [_, _, _]) dX5_kept_47 rfl rfl rfl rfl ?_
        refine jm_goto (Y := YX5_kept) (pc := 50) dX5_kept_50 rfl ?_
        have e9 : p_kb w 60 (b + 1) = p_kb w 60 b ||| (if p_on w 60 (17 + 4 * b + 3) = 1 then 0 else 2 ^ b) := rfl
        first
          | (rw [if_pos (wg.mp h_38)] at e9; have e8 : p_kb w 60 (b + 1) = p_kb w 60 b := (by rw [e9, Nat.or_zero]); rw [← e8]; exact ih (b + 1) (by omega) (by omega))
          | (rw [if_neg (fun z => absurd (wg.mpr z) h_38)] at e9; rw [Nat.one_mul, ← e9]; exact ih (b + 1) (by omega) (by omega))
          | fail
theorem w_kept (w : Nat → Nat) (M : jm_M) (hR : RV M 0 w) (hg : rG w) (hm : w 4 ≤ 9999)  : jm_J none YX5_kept 0 [some (.ref 0), none, none] [] M (jm_t M (q_kept w)) := by
  have hb := hg.hb
  have g0 := hg.1.1
  have g1 := hg.1.2.1
  have g2 := hg.1.2.2.1
  have g3 := hg.1.2.2.2.1
  have g4 := hg.1.2.2.2.2
  refine jm_ald_n (Y := YX5_kept) (pc := 0) (i := 0) dX5_kept_0 rfl rfl ?_
  refine jm_V0ie (Y := YX5_kept) (pc := 1) dX5_kept_1 lk_RX5_133 ⟨_, rfl⟩ rfl (by decide) (Nat.le_of_ble_eq_true rfl) ⟨by decide, by decide⟩ (w_hasRiver w _ hR hg hm) ?_
  refine jm_if_neB (Y := YX5_kept) (pc := 4) dX5_kept_4 rfl (fun h_4 => ?_) (fun h_4 => ?_)
  · refine jm_icN (Y := YX5_kept) (pc := 10) 0 dX5_kept_10 rfl ?_
    refine jm_ist_n (Y := YX5_kept) (pc := 11) (i := 1) (ls' := [_, _, _]) dX5_kept_11 rfl (Nat.le_of_ble_eq_true rfl) rfl rfl ?_
    refine jm_icN (Y := YX5_kept) (pc := 12) 0 dX5_kept_12 rfl ?_
    refine jm_ist_n (Y := YX5_kept) (pc := 13) (i := 2) (ls' := [_, _, _]) dX5_kept_13 rfl (Nat.le_of_ble_eq_true rfl) rfl rfl ?_
    apply jm_wk (w_kept0 w M hR hg hm (w 3 + 1) 0 (by omega) (by omega))
    intro o M1 q
    obtain ⟨rfl, rfl⟩ := q
    exact jm_ti (q_kept_e hg hm (by omega)) (RF_0 1 _)
  · refine jm_ldc (Y := YX5_kept) (pc := 7) (v := -1000002) dX5_kept_7 kc_RX5_136 ?_
    refine jm_ret (Y := YX5_kept) (pc := 9) (st := []) dX5_kept_9 rfl rfl ?_
    unfold q_kept
    exact jm_ti (by rw [if_pos (by omega)]) (RF_0 1 M)
theorem w_kind (w : Nat → Nat) (M : jm_M) (hR : RV M 0 w) (hg : rG w) (hm : w 4 ≤ 9999) (v : Int32) : jm_J none YX5_kind 0 [some (.ref 0), some (.int v)] [] M (jm_t M (q_kind w v)) := by
  have hb := hg.hb
  have g0 := hg.1.1
  have g1 := hg.1.2.1
  have g2 := hg.1.2.2.1
  have g3 := hg.1.2.2.2.1
  have g4 := hg.1.2.2.2.2
  refine jm_ald_n (Y := YX5_kind) (pc := 0) (i := 0) dX5_kind_0 rfl rfl ?_
  refine jm_getR (Y := YX5_kind) (pc := 1) dX5_kind_1 fr_RX5_33 rfl (by decide) rfl ?_
  refine jm_ild_n (Y := YX5_kind) (pc := 4) (i := 1) dX5_kind_4 rfl rfl ?_
  refine jm_V1ie (Y := YX5_kind) (pc := 5) dX5_kind_5 lk_RX5_150 ⟨_, rfl⟩ (by first | exact jm_obR ha | exact jm_obR hb | rfl) rfl (by decide) (Nat.le_of_ble_eq_true rfl) ⟨by decide, by decide⟩ (m_hasWord 0 (by decide) w _ hR hg _) ?_
  refine jm_if_eqB (Y := YX5_kind) (pc := 8) dX5_kind_8 rfl (fun h_8 => ?_) (fun h_8 => ?_)
  · refine jm_ldc (Y := YX5_kind) (pc := 23) (v := -1000001) dX5_kind_23 kc_RX5_64 ?_
    refine jm_ret (Y := YX5_kind) (pc := 25) (st := []) dX5_kind_25 rfl rfl ?_
    unfold q_kind
    first | exact jm_ti (Eq.symm (by rw [if_neg (by omega)])) (RF_0 1 M) | exact jm_ti (Eq.symm (by rw [if_pos (by omega), n_k])) (RF_0 1 M) | fail
  · obtain ⟨k, h_k, rfl, t_k, n_k⟩ := jm_ofL (v := v) (n := w 3) (by omega) (by omega)
    refine jm_ald_n (Y := YX5_kind) (pc := 11) (i := 0) dX5_kind_11 rfl rfl ?_
    refine jm_getR (Y := YX5_kind) (pc := 12) dX5_kind_12 fr_RX5_33 rfl (by decide) rfl ?_
    refine jm_getR (Y := YX5_kind) (pc := 15) dX5_kind_15 fr_RX5_255 (by first | exact jm_obR ha | exact jm_obR hb | rfl) (by decide) (by first | exact jm_rf6 | rfl) ?_
    refine jm_ild_n (Y := YX5_kind) (pc := 18) (i := 1) dX5_kind_18 rfl rfl ?_
    refine jm_ialN (Y := YX5_kind) (pc := 19) dX5_kind_19 (by first | assumption | exact jm_arR1 ha | exact jm_arR2 ha | exact jm_arR3 ha | exact jm_arR1 hb | exact jm_arR2 hb | exact jm_arR3 hb | rfl) (by first | omega | exact jm_lt hb _) (by first | assumption | exact hR.1.1 | exact hR.1.2.1 | exact hR.1.2.2.1 | exact hR.1.2.2.2.1 | exact hR.1.2.2.2.2 | exact hR.2.1 _ (by omega) | exact (hR.2.2 _ (by omega)).1 | exact (hR.2.2 _ (by omega)).2 | rfl) ?_
    refine jm_goto (Y := YX5_kind) (pc := 20) dX5_kind_20 rfl ?_
    refine jm_ret (Y := YX5_kind) (pc := 25) (st := []) dX5_kind_25 rfl rfl ?_
    unfold q_kind
    first | exact jm_ti (Eq.symm (by rw [if_neg (by omega)])) (RF_0 1 M) | exact jm_ti (Eq.symm (by rw [if_pos (by omega), n_k])) (RF_0 1 M) | fail
theorem w_status (M : jm_M) : jm_J none YX5_status 0 [some (.ref 0)] [] M (jm_is (some (.int (M 0 9))) M) := by
  refine jm_ald_n (Y := YX5_status) (pc := 0) (i := 0) dX5_status_0 rfl rfl ?_
  first | refine jm_getE (Y := YX5_status) (pc := 1) dX5_status_1 fw_RX5_54 rfl (by decide) rfl (by assumption) ?_ | refine jm_getI (Y := YX5_status) (pc := 1) dX5_status_1 fw_RX5_54.F rfl (by decide) rfl ?_ | fail
  refine jm_ret (Y := YX5_status) (pc := 4) (st := []) dX5_status_4 rfl rfl ?_
  exact ⟨rfl, rfl⟩
theorem w_fault (M : jm_M) : jm_J none YX5_fault 0 [some (.ref 0)] [] M (jm_is (some (.int (M 2 3))) M) := by
  refine jm_ald_n (Y := YX5_fault) (pc := 0) (i := 0) dX5_fault_0 rfl rfl ?_
  refine jm_getR (Y := YX5_fault) (pc := 1) dX5_fault_1 fr_RX5_19 rfl (by decide) rfl ?_
  first | refine jm_getE (Y := YX5_fault) (pc := 4) dX5_fault_4 fw_RX5_130 rfl (by decide) rfl (by assumption) ?_ | refine jm_getI (Y := YX5_fault) (pc := 4) dX5_fault_4 fw_RX5_130.F rfl (by decide) rfl ?_ | fail
  refine jm_ret (Y := YX5_fault) (pc := 7) (st := []) dX5_fault_7 rfl rfl ?_
  exact ⟨rfl, rfl⟩
theorem w_isa {kd b : Nat} (h1 : 1 ≤ kd) (h5 : kd ≤ 5) : (b = 0 ∨ b = kd ∨ b = m_ab kd) ↔ q_isa kd b := by
  unfold q_isa m_ab
  (repeat' split) <;> omega
theorem w_as (w : Nat → Nat) (M : jm_M) (hR : RV M 0 w) (hg : rG w) (hm : w 4 ≤ 9999) (v kd : Int32) : jm_J none YX5_as 0 [some (.ref 0), some (.int v), some (.int kd)] [] M ((fun o M1 => (q_as w v kd → (q_isa (w (17 + 4 * v.toInt.toNat)) kd.toInt.toNat → o = some (.int v) ∧ M1 = jm_sf M 0 (upd (M 0) 9 (nI 0))) ∧ (¬ q_isa (w (17 + 4 * v.toInt.toNat)) kd.toInt.toNat → o = some (.int (-1000013)) ∧ M1 = jm_sf M 0 (upd (M 0) 9 (nI 3)))) ∧ (¬ q_as w v kd → o = some (.int (-1000001)) ∧ M1 = M))) := by
  have hb := hg.hb
  have g0 := hg.1.1
  have g1 := hg.1.2.1
  have g2 := hg.1.2.2.1
  have g3 := hg.1.2.2.2.1
  have g4 := hg.1.2.2.2.2
  refine jm_ald_n (Y := YX5_as) (pc := 0) (i := 0) dX5_as_0 rfl rfl ?_
  refine jm_getR (Y := YX5_as) (pc := 1) dX5_as_1 fr_RX5_33 rfl (by decide) rfl ?_
  refine jm_ild_n (Y := YX5_as) (pc := 4) (i := 1) dX5_as_4 rfl rfl ?_
  refine jm_V1ie (Y := YX5_as) (pc := 5) dX5_as_5 lk_RX5_150 ⟨_, rfl⟩ (by first | exact jm_obR ha | exact jm_obR hb | rfl) rfl (by decide) (Nat.le_of_ble_eq_true rfl) ⟨by decide, by decide⟩ (m_hasWord 0 (by decide) w _ hR hg _) ?_
  refine jm_if_eqB (Y := YX5_as) (pc := 8) dX5_as_8 rfl (fun h_8 => ?_) (fun h_8 => ?_)
  · refine jm_ldc (Y := YX5_as) (pc := 20) (v := -1000001) dX5_as_20 kc_RX5_64 ?_
    refine jm_ret (Y := YX5_as) (pc := 22) (st := []) dX5_as_22 rfl rfl ?_
    first
      | exact ⟨fun z => absurd z (by unfold q_as; omega), fun _ => ⟨rfl, rfl⟩⟩
      | exact ⟨fun _ => ⟨fun z => absurd (ki.mpr (by rw [n_k, n_b] at z; exact z)) h_36, fun _ => ⟨rfl, rfl⟩⟩, fun z => absurd (by unfold q_as; omega) z⟩
      | exact ⟨fun _ => ⟨fun _ => ⟨rfl, rfl⟩, fun z => absurd (ki.mp h_36) (by rw [n_k, n_b] at z; exact z)⟩, fun z => absurd (by unfold q_as; omega) z⟩
      | fail
  · refine jm_ild_n (Y := YX5_as) (pc := 11) (i := 2) dX5_as_11 rfl rfl ?_
    refine jm_icN (Y := YX5_as) (pc := 12) 0 dX5_as_12 rfl ?_
    refine jm_icN (Y := YX5_as) (pc := 13) 5 dX5_as_13 rfl ?_
    refine jm_S3ie (Y := YX5_as) (pc := 14) dX5_as_14 lk_RX5_98 ⟨_, rfl⟩ rfl rfl rfl (by decide) (Nat.le_of_ble_eq_true rfl) ⟨by decide, by decide⟩ (w_wiN _ _ _ _ (by decide) (by decide)) ?_
    refine jm_if_neB (Y := YX5_as) (pc := 17) dX5_as_17 rfl (fun h_17 => ?_) (fun h_17 => ?_)
    · obtain ⟨k, h_k, rfl, t_k, n_k⟩ := jm_ofL (v := v) (n := w 3) (by omega) (by omega)
      obtain ⟨b, h_b, rfl, t_b, n_b⟩ := jm_ofL (v := kd) (n := 6) (by omega) (by omega)
      have k1 := (hg.2.2.2.2 k (by omega)).1
      have k5 := (hg.2.2.1 k (by omega)).1
      have ki := w_isa (b := b) k1 k5
      refine jm_ald_n (Y := YX5_as) (pc := 23) (i := 0) dX5_as_23 rfl rfl ?_
      refine jm_getR (Y := YX5_as) (pc := 24) dX5_as_24 fr_RX5_33 rfl (by decide) rfl ?_
      refine jm_getR (Y := YX5_as) (pc := 27) dX5_as_27 fr_RX5_255 (by first | exact jm_obR ha | exact jm_obR hb | rfl) (by decide) (by first | exact jm_rf6 | rfl) ?_
      refine jm_ild_n (Y := YX5_as) (pc := 30) (i := 1) dX5_as_30 rfl rfl ?_
      refine jm_ialN (Y := YX5_as) (pc := 31) dX5_as_31 (by first | assumption | exact jm_arR1 ha | exact jm_arR2 ha | exact jm_arR3 ha | exact jm_arR1 hb | exact jm_arR2 hb | exact jm_arR3 hb | rfl) (by first | omega | exact jm_lt hb _) (by first | assumption | exact hR.1.1 | exact hR.1.2.1 | exact hR.1.2.2.1 | exact hR.1.2.2.2.1 | exact hR.1.2.2.2.2 | exact hR.2.1 _ (by omega) | exact (hR.2.2 _ (by omega)).1 | exact (hR.2.2 _ (by omega)).2 | rfl) ?_
      refine jm_ild_n (Y := YX5_as) (pc := 32) (i := 2) dX5_as_32 rfl rfl ?_
      refine jm_S2ie (Y := YX5_as) (pc := 33) dX5_as_33 lk_RX5_260 ⟨_, rfl⟩ rfl rfl (by decide) (Nat.le_of_ble_eq_true rfl) ⟨by decide, by decide⟩ (m_isOne _ _ _ (by omega) (by omega) (by omega)) ?_
      refine jm_if_neB (Y := YX5_as) (pc := 36) dX5_as_36 rfl (fun h_36 => ?_) (fun h_36 => ?_)
      · refine jm_ald_n (Y := YX5_as) (pc := 45) (i := 0) dX5_as_45 rfl rfl ?_
        refine jm_ild_n (Y := YX5_as) (pc := 46) (i := 1) dX5_as_46 rfl rfl ?_
        refine jm_V1ie (Y := YX5_as) (pc := 47) dX5_as_47 lk_RX5_73 ⟨_, rfl⟩ rfl rfl (by decide) (Nat.le_of_ble_eq_true rfl) ⟨by decide, by decide⟩ (w_unfound _ _) ?_
        refine jm_ret (Y := YX5_as) (pc := 50) (st := []) dX5_as_50 rfl rfl ?_
        first
          | exact ⟨fun z => absurd z (by unfold q_as; omega), fun _ => ⟨rfl, rfl⟩⟩
          | exact ⟨fun _ => ⟨fun z => absurd (ki.mpr (by rw [n_k, n_b] at z; exact z)) h_36, fun _ => ⟨rfl, rfl⟩⟩, fun z => absurd (by unfold q_as; omega) z⟩
          | exact ⟨fun _ => ⟨fun _ => ⟨rfl, rfl⟩, fun z => absurd (ki.mp h_36) (by rw [n_k, n_b] at z; exact z)⟩, fun z => absurd (by unfold q_as; omega) z⟩
          | fail
      · refine jm_ald_n (Y := YX5_as) (pc := 39) (i := 0) dX5_as_39 rfl rfl ?_
        refine jm_icN (Y := YX5_as) (pc := 40) 3 dX5_as_40 rfl ?_
        refine jm_V1ie (Y := YX5_as) (pc := 41) dX5_as_41 lk_RX5_65 ⟨_, rfl⟩ rfl rfl (by decide) (Nat.le_of_ble_eq_true rfl) ⟨by decide, by decide⟩ (w_finding _ _) ?_
        refine jm_ret (Y := YX5_as) (pc := 44) (st := []) dX5_as_44 rfl rfl ?_
        first
          | exact ⟨fun z => absurd z (by unfold q_as; omega), fun _ => ⟨rfl, rfl⟩⟩
          | exact ⟨fun _ => ⟨fun z => absurd (ki.mpr (by rw [n_k, n_b] at z; exact z)) h_36, fun _ => ⟨rfl, rfl⟩⟩, fun z => absurd (by unfold q_as; omega) z⟩
          | exact ⟨fun _ => ⟨fun _ => ⟨rfl, rfl⟩, fun z => absurd (ki.mp h_36) (by rw [n_k, n_b] at z; exact z)⟩, fun z => absurd (by unfold q_as; omega) z⟩
          | fail
    · refine jm_ldc (Y := YX5_as) (pc := 20) (v := -1000001) dX5_as_20 kc_RX5_64 ?_
      refine jm_ret (Y := YX5_as) (pc := 22) (st := []) dX5_as_22 rfl rfl ?_
      first
        | exact ⟨fun z => absurd z (by unfold q_as; omega), fun _ => ⟨rfl, rfl⟩⟩
        | exact ⟨fun _ => ⟨fun z => absurd (ki.mpr (by rw [n_k, n_b] at z; exact z)) h_36, fun _ => ⟨rfl, rfl⟩⟩, fun z => absurd (by unfold q_as; omega) z⟩
        | exact ⟨fun _ => ⟨fun _ => ⟨rfl, rfl⟩, fun z => absurd (ki.mp h_36) (by rw [n_k, n_b] at z; exact z)⟩, fun z => absurd (by unfold q_as; omega) z⟩
        | fail
theorem w_trace (L : List Nat) (hl : L.length ≤ 16) (v : Int32) (M : jm_M) (hT : jm_tr 3 8 1 M L) : jm_J none YX5_trace 0 [some (.ref 0), some (.int v)] [] M (jm_is (some (.int (if 0 ≤ v.toInt ∧ v.toInt < L.length then nI (L.getD v.toInt.toNat 0) else -1000000))) M) := by
  refine jm_ald_n (Y := YX5_trace) (pc := 0) (i := 0) dX5_trace_0 rfl rfl ?_
  refine jm_getR (Y := YX5_trace) (pc := 1) dX5_trace_1 fr_RX5_26 rfl (by decide) rfl ?_
  refine jm_ild_n (Y := YX5_trace) (pc := 4) (i := 1) dX5_trace_4 rfl rfl ?_
  refine jm_V1ie (Y := YX5_trace) (pc := 5) dX5_trace_5 lk_RX5_273 ⟨_, rfl⟩ rfl rfl (by decide) (Nat.le_of_ble_eq_true rfl) ⟨by decide, by decide⟩ (a_hasLeft L.length hl v _ hT.1) ?_
  refine jm_if_eqB (Y := YX5_trace) (pc := 8) dX5_trace_8 rfl (fun h_8 => ?_) (fun h_8 => ?_)
  · refine jm_ldc (Y := YX5_trace) (pc := 23) (v := -1000000) dX5_trace_23 kc_RX5_210 ?_
    refine jm_ret (Y := YX5_trace) (pc := 25) (st := []) dX5_trace_25 rfl rfl ?_
    first | exact jm_eq (by rw [if_pos (by omega), n_k]) | exact jm_eq (by rw [if_neg (by omega)]) | fail
  · obtain ⟨k, h_k, rfl, t_k, n_k⟩ := jm_ofL (v := v) (n := L.length) (by omega) (by omega)
    refine jm_ald_n (Y := YX5_trace) (pc := 11) (i := 0) dX5_trace_11 rfl rfl ?_
    refine jm_getR (Y := YX5_trace) (pc := 12) dX5_trace_12 fr_RX5_26 rfl (by decide) rfl ?_
    refine jm_getR (Y := YX5_trace) (pc := 15) dX5_trace_15 fr_RX5_276 rfl (by decide) rfl ?_
    refine jm_ild_n (Y := YX5_trace) (pc := 18) (i := 1) dX5_trace_18 rfl rfl ?_
    refine jm_ialN (Y := YX5_trace) (pc := 19) dX5_trace_19 (by first | assumption | exact jm_arR1 ha | exact jm_arR2 ha | exact jm_arR3 ha | exact jm_arR1 hb | exact jm_arR2 hb | exact jm_arR3 hb | rfl) (by omega) (hT.2 k (by omega)) ?_
    refine jm_goto (Y := YX5_trace) (pc := 20) dX5_trace_20 rfl ?_
    refine jm_ret (Y := YX5_trace) (pc := 25) (st := []) dX5_trace_25 rfl rfl ?_
    first | exact jm_eq (by rw [if_pos (by omega), n_k]) | exact jm_eq (by rw [if_neg (by omega)]) | fail
theorem r_pr_e {ln : Nat → Int32} {mi : Nat → Bool} (h : ∀ k, k < 8 → (mi k = true ↔ ln k = -1000000)) : ∀ n, n ≤ 8 → r_pr mi n = p_pr ln n
  | 0, _ => rfl
  | n + 1, hn => by
    have e1 : r_pr mi (n + 1) = r_pr mi n + (if mi n = true then 0 else 1) := rfl
    have e2 : p_pr ln (n + 1) = p_pr ln n + (if ln n = -1000000 then 0 else 1) := rfl
    rw [e1, e2, r_pr_e h n (by omega)]
    by_cases z : ln n = -1000000
    · rw [if_pos z, if_pos ((h n (by omega)).mpr z)]
    · rw [if_neg z, if_neg (fun y => z ((h n (by omega)).mp y))]
theorem w_count (w : Nat → Nat) (M : jm_M) (hR : RV M 0 w) (hg : rG w) (hm : w 4 ≤ 9999) (ln : Nat → Int32) (mi : Nat → Bool) (hmi : ∀ k, k < 8 → (M 6 k = -1 ↔ mi k = true)) (hln : ∀ k, k < 8 → (mi k = true ↔ ln k = -1000000)) (n tn : Nat) (hn : M 0 8 = nI n) (ht : M 2 1 = nI tn) (v : Int32) : jm_J none YX5_count 0 [some (.ref 0), some (.int v)] [] M (jm_is (some (.int (q_count ln w n tn v))) M) := by
  have hb := hg.hb
  have g0 := hg.1.1
  have g1 := hg.1.2.1
  have g2 := hg.1.2.2.1
  have g3 := hg.1.2.2.2.1
  have g4 := hg.1.2.2.2.2
  refine jm_ild_n (Y := YX5_count) (pc := 0) (i := 1) dX5_count_0 rfl rfl ?_
  by_cases e_1_0 : Int32.toInt v = 0
  · refine jm_tin dX5_count_1 (by rw [e_1_0]; decide) (by rw [e_1_0]; decide) (by rw [e_1_0]; rfl) rfl ?_
    refine jm_ald_n (Y := YX5_count) (pc := 56) (i := 0) dX5_count_56 rfl rfl ?_
    refine jm_getR (Y := YX5_count) (pc := 57) dX5_count_57 fr_RX5_10 rfl (by decide) rfl ?_
    refine jm_V0ie (Y := YX5_count) (pc := 60) dX5_count_60 lk_RX5_279 ⟨_, rfl⟩ rfl (by decide) (Nat.le_of_ble_eq_true rfl) ⟨by decide, by decide⟩ (r_present _ mi hmi) ?_
    refine jm_ret (Y := YX5_count) (pc := 63) (st := []) dX5_count_63 rfl rfl ?_
    first | exact jm_eq (Eq.symm (by unfold q_count; rw [if_pos (by omega)]; exact congrArg nI (r_pr_e hln 8 (by decide)).symm)) | exact jm_eq (Eq.symm (by unfold q_count; rw [if_neg (by omega)]; rw [if_pos (by omega)]; try rfl)) | exact jm_eq (Eq.symm (by unfold q_count; rw [if_neg (by omega)]; rw [if_neg (by omega)]; rw [if_pos (by omega)]; try rfl)) | exact jm_eq (Eq.symm (by unfold q_count; rw [if_neg (by omega)]; rw [if_neg (by omega)]; rw [if_neg (by omega)]; rw [if_pos (by omega)]; try rfl)) | exact jm_eq (Eq.symm (by unfold q_count; rw [if_neg (by omega)]; rw [if_neg (by omega)]; rw [if_neg (by omega)]; rw [if_neg (by omega)]; rw [if_pos (by omega)]; try rfl)) | exact jm_eq (Eq.symm (by unfold q_count; rw [if_neg (by omega)]; rw [if_neg (by omega)]; rw [if_neg (by omega)]; rw [if_neg (by omega)]; rw [if_neg (by omega)]; rw [if_pos (by omega)]; try rfl)) | exact jm_eq (Eq.symm (by unfold q_count; rw [if_neg (by omega)]; rw [if_neg (by omega)]; rw [if_neg (by omega)]; rw [if_neg (by omega)]; rw [if_neg (by omega)]; rw [if_neg (by omega)]; rw [if_pos (by omega)]; try rfl)) | exact jm_eq (Eq.symm (by unfold q_count; rw [if_neg (by omega)]; rw [if_neg (by omega)]; rw [if_neg (by omega)]; rw [if_neg (by omega)]; rw [if_neg (by omega)]; rw [if_neg (by omega)]; rw [if_neg (by omega)]; rw [if_pos (by omega)]; try rfl)) | exact jm_eq (Eq.symm (by unfold q_count; rw [if_neg (by omega)]; rw [if_neg (by omega)]; rw [if_neg (by omega)]; rw [if_neg (by omega)]; rw [if_neg (by omega)]; rw [if_neg (by omega)]; rw [if_neg (by omega)]; rw [if_neg (by omega)]; rw [if_pos (by omega)]; try rfl)) | exact jm_eq (Eq.symm (by unfold q_count; rw [if_neg (by omega)]; rw [if_neg (by omega)]; rw [if_neg (by omega)]; rw [if_neg (by omega)]; rw [if_neg (by omega)]; rw [if_neg (by omega)]; rw [if_neg (by omega)]; rw [if_neg (by omega)]; rw [if_neg (by omega)]; rw [if_pos (by omega)]; try rfl)) | exact jm_eq (Eq.symm (by unfold q_count; rw [if_neg (by omega)]; rw [if_neg (by omega)]; rw [if_neg (by omega)]; rw [if_neg (by omega)]; rw [if_neg (by omega)]; rw [if_neg (by omega)]; rw [if_neg (by omega)]; rw [if_neg (by omega)]; rw [if_neg (by omega)]; rw [if_neg (by omega)]; try rfl)) | fail
  by_cases e_1_1 : Int32.toInt v = 1
  · refine jm_tin dX5_count_1 (by rw [e_1_1]; decide) (by rw [e_1_1]; decide) (by rw [e_1_1]; rfl) rfl ?_
    refine jm_ald_n (Y := YX5_count) (pc := 64) (i := 0) dX5_count_64 rfl rfl ?_
    refine jm_getR (Y := YX5_count) (pc := 65) dX5_count_65 fr_RX5_33 rfl (by decide) rfl ?_
    first | refine jm_getE (Y := YX5_count) (pc := 68) dX5_count_68 fw_RX5_127 (by first | exact jm_obR ha | exact jm_obR hb | rfl) (by decide) (by first | exact jm_rf0 | rfl) (by assumption) ?_ | refine jm_getE (Y := YX5_count) (pc := 68) dX5_count_68 fw_RX5_127 (by first | exact jm_obR ha | exact jm_obR hb | rfl) (by decide) (by first | exact jm_rf0 | rfl) (by exact hR.1.1) ?_ | refine jm_getE (Y := YX5_count) (pc := 68) dX5_count_68 fw_RX5_127 (by first | exact jm_obR ha | exact jm_obR hb | rfl) (by decide) (by first | exact jm_rf0 | rfl) (by exact hR.1.2.1) ?_ | refine jm_getE (Y := YX5_count) (pc := 68) dX5_count_68 fw_RX5_127 (by first | exact jm_obR ha | exact jm_obR hb | rfl) (by decide) (by first | exact jm_rf0 | rfl) (by exact hR.1.2.2.1) ?_ | refine jm_getE (Y := YX5_count) (pc := 68) dX5_count_68 fw_RX5_127 (by first | exact jm_obR ha | exact jm_obR hb | rfl) (by decide) (by first | exact jm_rf0 | rfl) (by exact hR.1.2.2.2.1) ?_ | refine jm_getE (Y := YX5_count) (pc := 68) dX5_count_68 fw_RX5_127 (by first | exact jm_obR ha | exact jm_obR hb | rfl) (by decide) (by first | exact jm_rf0 | rfl) (by exact hR.1.2.2.2.2) ?_ | refine jm_getE (Y := YX5_count) (pc := 68) dX5_count_68 fw_RX5_127 (by first | exact jm_obR ha | exact jm_obR hb | rfl) (by decide) (by first | exact jm_rf0 | rfl) (by exact hR.2.1 _ (by omega)) ?_ | refine jm_getE (Y := YX5_count) (pc := 68) dX5_count_68 fw_RX5_127 (by first | exact jm_obR ha | exact jm_obR hb | rfl) (by decide) (by first | exact jm_rf0 | rfl) (by exact (hR.2.2 _ (by omega)).1) ?_ | refine jm_getE (Y := YX5_count) (pc := 68) dX5_count_68 fw_RX5_127 (by first | exact jm_obR ha | exact jm_obR hb | rfl) (by decide) (by first | exact jm_rf0 | rfl) (by exact (hR.2.2 _ (by omega)).2) ?_ | refine jm_getI (Y := YX5_count) (pc := 68) dX5_count_68 fw_RX5_127.F (by first | exact jm_obR ha | exact jm_obR hb | rfl) (by decide) (by first | exact jm_rf0 | rfl) ?_ | fail
    refine jm_ret (Y := YX5_count) (pc := 71) (st := []) dX5_count_71 rfl rfl ?_
    first | exact jm_eq (Eq.symm (by unfold q_count; rw [if_pos (by omega)]; exact congrArg nI (r_pr_e hln 8 (by decide)).symm)) | exact jm_eq (Eq.symm (by unfold q_count; rw [if_neg (by omega)]; rw [if_pos (by omega)]; try rfl)) | exact jm_eq (Eq.symm (by unfold q_count; rw [if_neg (by omega)]; rw [if_neg (by omega)]; rw [if_pos (by omega)]; try rfl)) | exact jm_eq (Eq.symm (by unfold q_count; rw [if_neg (by omega)]; rw [if_neg (by omega)]; rw [if_neg (by omega)]; rw [if_pos (by omega)]; try rfl)) | exact jm_eq (Eq.symm (by unfold q_count; rw [if_neg (by omega)]; rw [if_neg (by omega)]; rw [if_neg (by omega)]; rw [if_neg (by omega)]; rw [if_pos (by omega)]; try rfl)) | exact jm_eq (Eq.symm (by unfold q_count; rw [if_neg (by omega)]; rw [if_neg (by omega)]; rw [if_neg (by omega)]; rw [if_neg (by omega)]; rw [if_neg (by omega)]; rw [if_pos (by omega)]; try rfl)) | exact jm_eq (Eq.symm (by unfold q_count; rw [if_neg (by omega)]; rw [if_neg (by omega)]; rw [if_neg (by omega)]; rw [if_neg (by omega)]; rw [if_neg (by omega)]; rw [if_neg (by omega)]; rw [if_pos (by omega)]; try rfl)) | exact jm_eq (Eq.symm (by unfold q_count; rw [if_neg (by omega)]; rw [if_neg (by omega)]; rw [if_neg (by omega)]; rw [if_neg (by omega)]; rw [if_neg (by omega)]; rw [if_neg (by omega)]; rw [if_neg (by omega)]; rw [if_pos (by omega)]; try rfl)) | exact jm_eq (Eq.symm (by unfold q_count; rw [if_neg (by omega)]; rw [if_neg (by omega)]; rw [if_neg (by omega)]; rw [if_neg (by omega)]; rw [if_neg (by omega)]; rw [if_neg (by omega)]; rw [if_neg (by omega)]; rw [if_neg (by omega)]; rw [if_pos (by omega)]; try rfl)) | exact jm_eq (Eq.symm (by unfold q_count; rw [if_neg (by omega)]; rw [if_neg (by omega)]; rw [if_neg (by omega)]; rw [if_neg (by omega)]; rw [if_neg (by omega)]; rw [if_neg (by omega)]; rw [if_neg (by omega)]; rw [if_neg (by omega)]; rw [if_neg (by omega)]; rw [if_pos (by omega)]; try rfl)) | exact jm_eq (Eq.symm (by unfold q_count; rw [if_neg (by omega)]; rw [if_neg (by omega)]; rw [if_neg (by omega)]; rw [if_neg (by omega)]; rw [if_neg (by omega)]; rw [if_neg (by omega)]; rw [if_neg (by omega)]; rw [if_neg (by omega)]; rw [if_neg (by omega)]; rw [if_neg (by omega)]; try rfl)) | fail
  by_cases e_1_2 : Int32.toInt v = 2
  · refine jm_tin dX5_count_1 (by rw [e_1_2]; decide) (by rw [e_1_2]; decide) (by rw [e_1_2]; rfl) rfl ?_
    refine jm_ald_n (Y := YX5_count) (pc := 72) (i := 0) dX5_count_72 rfl rfl ?_
    refine jm_getR (Y := YX5_count) (pc := 73) dX5_count_73 fr_RX5_33 rfl (by decide) rfl ?_
    first | refine jm_getE (Y := YX5_count) (pc := 76) dX5_count_76 fw_RX5_204 (by first | exact jm_obR ha | exact jm_obR hb | rfl) (by decide) (by first | exact jm_rf1 | rfl) (by assumption) ?_ | refine jm_getE (Y := YX5_count) (pc := 76) dX5_count_76 fw_RX5_204 (by first | exact jm_obR ha | exact jm_obR hb | rfl) (by decide) (by first | exact jm_rf1 | rfl) (by exact hR.1.1) ?_ | refine jm_getE (Y := YX5_count) (pc := 76) dX5_count_76 fw_RX5_204 (by first | exact jm_obR ha | exact jm_obR hb | rfl) (by decide) (by first | exact jm_rf1 | rfl) (by exact hR.1.2.1) ?_ | refine jm_getE (Y := YX5_count) (pc := 76) dX5_count_76 fw_RX5_204 (by first | exact jm_obR ha | exact jm_obR hb | rfl) (by decide) (by first | exact jm_rf1 | rfl) (by exact hR.1.2.2.1) ?_ | refine jm_getE (Y := YX5_count) (pc := 76) dX5_count_76 fw_RX5_204 (by first | exact jm_obR ha | exact jm_obR hb | rfl) (by decide) (by first | exact jm_rf1 | rfl) (by exact hR.1.2.2.2.1) ?_ | refine jm_getE (Y := YX5_count) (pc := 76) dX5_count_76 fw_RX5_204 (by first | exact jm_obR ha | exact jm_obR hb | rfl) (by decide) (by first | exact jm_rf1 | rfl) (by exact hR.1.2.2.2.2) ?_ | refine jm_getE (Y := YX5_count) (pc := 76) dX5_count_76 fw_RX5_204 (by first | exact jm_obR ha | exact jm_obR hb | rfl) (by decide) (by first | exact jm_rf1 | rfl) (by exact hR.2.1 _ (by omega)) ?_ | refine jm_getE (Y := YX5_count) (pc := 76) dX5_count_76 fw_RX5_204 (by first | exact jm_obR ha | exact jm_obR hb | rfl) (by decide) (by first | exact jm_rf1 | rfl) (by exact (hR.2.2 _ (by omega)).1) ?_ | refine jm_getE (Y := YX5_count) (pc := 76) dX5_count_76 fw_RX5_204 (by first | exact jm_obR ha | exact jm_obR hb | rfl) (by decide) (by first | exact jm_rf1 | rfl) (by exact (hR.2.2 _ (by omega)).2) ?_ | refine jm_getI (Y := YX5_count) (pc := 76) dX5_count_76 fw_RX5_204.F (by first | exact jm_obR ha | exact jm_obR hb | rfl) (by decide) (by first | exact jm_rf1 | rfl) ?_ | fail
    refine jm_ret (Y := YX5_count) (pc := 79) (st := []) dX5_count_79 rfl rfl ?_
    first | exact jm_eq (Eq.symm (by unfold q_count; rw [if_pos (by omega)]; exact congrArg nI (r_pr_e hln 8 (by decide)).symm)) | exact jm_eq (Eq.symm (by unfold q_count; rw [if_neg (by omega)]; rw [if_pos (by omega)]; try rfl)) | exact jm_eq (Eq.symm (by unfold q_count; rw [if_neg (by omega)]; rw [if_neg (by omega)]; rw [if_pos (by omega)]; try rfl)) | exact jm_eq (Eq.symm (by unfold q_count; rw [if_neg (by omega)]; rw [if_neg (by omega)]; rw [if_neg (by omega)]; rw [if_pos (by omega)]; try rfl)) | exact jm_eq (Eq.symm (by unfold q_count; rw [if_neg (by omega)]; rw [if_neg (by omega)]; rw [if_neg (by omega)]; rw [if_neg (by omega)]; rw [if_pos (by omega)]; try rfl)) | exact jm_eq (Eq.symm (by unfold q_count; rw [if_neg (by omega)]; rw [if_neg (by omega)]; rw [if_neg (by omega)]; rw [if_neg (by omega)]; rw [if_neg (by omega)]; rw [if_pos (by omega)]; try rfl)) | exact jm_eq (Eq.symm (by unfold q_count; rw [if_neg (by omega)]; rw [if_neg (by omega)]; rw [if_neg (by omega)]; rw [if_neg (by omega)]; rw [if_neg (by omega)]; rw [if_neg (by omega)]; rw [if_pos (by omega)]; try rfl)) | exact jm_eq (Eq.symm (by unfold q_count; rw [if_neg (by omega)]; rw [if_neg (by omega)]; rw [if_neg (by omega)]; rw [if_neg (by omega)]; rw [if_neg (by omega)]; rw [if_neg (by omega)]; rw [if_neg (by omega)]; rw [if_pos (by omega)]; try rfl)) | exact jm_eq (Eq.symm (by unfold q_count; rw [if_neg (by omega)]; rw [if_neg (by omega)]; rw [if_neg (by omega)]; rw [if_neg (by omega)]; rw [if_neg (by omega)]; rw [if_neg (by omega)]; rw [if_neg (by omega)]; rw [if_neg (by omega)]; rw [if_pos (by omega)]; try rfl)) | exact jm_eq (Eq.symm (by unfold q_count; rw [if_neg (by omega)]; rw [if_neg (by omega)]; rw [if_neg (by omega)]; rw [if_neg (by omega)]; rw [if_neg (by omega)]; rw [if_neg (by omega)]; rw [if_neg (by omega)]; rw [if_neg (by omega)]; rw [if_neg (by omega)]; rw [if_pos (by omega)]; try rfl)) | exact jm_eq (Eq.symm (by unfold q_count; rw [if_neg (by omega)]; rw [if_neg (by omega)]; rw [if_neg (by omega)]; rw [if_neg (by omega)]; rw [if_neg (by omega)]; rw [if_neg (by omega)]; rw [if_neg (by omega)]; rw [if_neg (by omega)]; rw [if_neg (by omega)]; rw [if_neg (by omega)]; try rfl)) | fail
  by_cases e_1_3 : Int32.toInt v = 3
  · refine jm_tin dX5_count_1 (by rw [e_1_3]; decide) (by rw [e_1_3]; decide) (by rw [e_1_3]; rfl) rfl ?_
    refine jm_ald_n (Y := YX5_count) (pc := 80) (i := 0) dX5_count_80 rfl rfl ?_
    refine jm_getR (Y := YX5_count) (pc := 81) dX5_count_81 fr_RX5_33 rfl (by decide) rfl ?_
    first | refine jm_getE (Y := YX5_count) (pc := 84) dX5_count_84 fw_RX5_137 (by first | exact jm_obR ha | exact jm_obR hb | rfl) (by decide) (by first | exact jm_rf4 | rfl) (by assumption) ?_ | refine jm_getE (Y := YX5_count) (pc := 84) dX5_count_84 fw_RX5_137 (by first | exact jm_obR ha | exact jm_obR hb | rfl) (by decide) (by first | exact jm_rf4 | rfl) (by exact hR.1.1) ?_ | refine jm_getE (Y := YX5_count) (pc := 84) dX5_count_84 fw_RX5_137 (by first | exact jm_obR ha | exact jm_obR hb | rfl) (by decide) (by first | exact jm_rf4 | rfl) (by exact hR.1.2.1) ?_ | refine jm_getE (Y := YX5_count) (pc := 84) dX5_count_84 fw_RX5_137 (by first | exact jm_obR ha | exact jm_obR hb | rfl) (by decide) (by first | exact jm_rf4 | rfl) (by exact hR.1.2.2.1) ?_ | refine jm_getE (Y := YX5_count) (pc := 84) dX5_count_84 fw_RX5_137 (by first | exact jm_obR ha | exact jm_obR hb | rfl) (by decide) (by first | exact jm_rf4 | rfl) (by exact hR.1.2.2.2.1) ?_ | refine jm_getE (Y := YX5_count) (pc := 84) dX5_count_84 fw_RX5_137 (by first | exact jm_obR ha | exact jm_obR hb | rfl) (by decide) (by first | exact jm_rf4 | rfl) (by exact hR.1.2.2.2.2) ?_ | refine jm_getE (Y := YX5_count) (pc := 84) dX5_count_84 fw_RX5_137 (by first | exact jm_obR ha | exact jm_obR hb | rfl) (by decide) (by first | exact jm_rf4 | rfl) (by exact hR.2.1 _ (by omega)) ?_ | refine jm_getE (Y := YX5_count) (pc := 84) dX5_count_84 fw_RX5_137 (by first | exact jm_obR ha | exact jm_obR hb | rfl) (by decide) (by first | exact jm_rf4 | rfl) (by exact (hR.2.2 _ (by omega)).1) ?_ | refine jm_getE (Y := YX5_count) (pc := 84) dX5_count_84 fw_RX5_137 (by first | exact jm_obR ha | exact jm_obR hb | rfl) (by decide) (by first | exact jm_rf4 | rfl) (by exact (hR.2.2 _ (by omega)).2) ?_ | refine jm_getI (Y := YX5_count) (pc := 84) dX5_count_84 fw_RX5_137.F (by first | exact jm_obR ha | exact jm_obR hb | rfl) (by decide) (by first | exact jm_rf4 | rfl) ?_ | fail
    refine jm_ret (Y := YX5_count) (pc := 87) (st := []) dX5_count_87 rfl rfl ?_
    first | exact jm_eq (Eq.symm (by unfold q_count; rw [if_pos (by omega)]; exact congrArg nI (r_pr_e hln 8 (by decide)).symm)) | exact jm_eq (Eq.symm (by unfold q_count; rw [if_neg (by omega)]; rw [if_pos (by omega)]; try rfl)) | exact jm_eq (Eq.symm (by unfold q_count; rw [if_neg (by omega)]; rw [if_neg (by omega)]; rw [if_pos (by omega)]; try rfl)) | exact jm_eq (Eq.symm (by unfold q_count; rw [if_neg (by omega)]; rw [if_neg (by omega)]; rw [if_neg (by omega)]; rw [if_pos (by omega)]; try rfl)) | exact jm_eq (Eq.symm (by unfold q_count; rw [if_neg (by omega)]; rw [if_neg (by omega)]; rw [if_neg (by omega)]; rw [if_neg (by omega)]; rw [if_pos (by omega)]; try rfl)) | exact jm_eq (Eq.symm (by unfold q_count; rw [if_neg (by omega)]; rw [if_neg (by omega)]; rw [if_neg (by omega)]; rw [if_neg (by omega)]; rw [if_neg (by omega)]; rw [if_pos (by omega)]; try rfl)) | exact jm_eq (Eq.symm (by unfold q_count; rw [if_neg (by omega)]; rw [if_neg (by omega)]; rw [if_neg (by omega)]; rw [if_neg (by omega)]; rw [if_neg (by omega)]; rw [if_neg (by omega)]; rw [if_pos (by omega)]; try rfl)) | exact jm_eq (Eq.symm (by unfold q_count; rw [if_neg (by omega)]; rw [if_neg (by omega)]; rw [if_neg (by omega)]; rw [if_neg (by omega)]; rw [if_neg (by omega)]; rw [if_neg (by omega)]; rw [if_neg (by omega)]; rw [if_pos (by omega)]; try rfl)) | exact jm_eq (Eq.symm (by unfold q_count; rw [if_neg (by omega)]; rw [if_neg (by omega)]; rw [if_neg (by omega)]; rw [if_neg (by omega)]; rw [if_neg (by omega)]; rw [if_neg (by omega)]; rw [if_neg (by omega)]; rw [if_neg (by omega)]; rw [if_pos (by omega)]; try rfl)) | exact jm_eq (Eq.symm (by unfold q_count; rw [if_neg (by omega)]; rw [if_neg (by omega)]; rw [if_neg (by omega)]; rw [if_neg (by omega)]; rw [if_neg (by omega)]; rw [if_neg (by omega)]; rw [if_neg (by omega)]; rw [if_neg (by omega)]; rw [if_neg (by omega)]; rw [if_pos (by omega)]; try rfl)) | exact jm_eq (Eq.symm (by unfold q_count; rw [if_neg (by omega)]; rw [if_neg (by omega)]; rw [if_neg (by omega)]; rw [if_neg (by omega)]; rw [if_neg (by omega)]; rw [if_neg (by omega)]; rw [if_neg (by omega)]; rw [if_neg (by omega)]; rw [if_neg (by omega)]; rw [if_neg (by omega)]; try rfl)) | fail
  by_cases e_1_4 : Int32.toInt v = 4
  · refine jm_tin dX5_count_1 (by rw [e_1_4]; decide) (by rw [e_1_4]; decide) (by rw [e_1_4]; rfl) rfl ?_
    refine jm_ald_n (Y := YX5_count) (pc := 88) (i := 0) dX5_count_88 rfl rfl ?_
    refine jm_getR (Y := YX5_count) (pc := 89) dX5_count_89 fr_RX5_33 rfl (by decide) rfl ?_
    first | refine jm_getE (Y := YX5_count) (pc := 92) dX5_count_92 fw_RX5_170 (by first | exact jm_obR ha | exact jm_obR hb | rfl) (by decide) (by first | exact jm_rf3 | rfl) (by assumption) ?_ | refine jm_getE (Y := YX5_count) (pc := 92) dX5_count_92 fw_RX5_170 (by first | exact jm_obR ha | exact jm_obR hb | rfl) (by decide) (by first | exact jm_rf3 | rfl) (by exact hR.1.1) ?_ | refine jm_getE (Y := YX5_count) (pc := 92) dX5_count_92 fw_RX5_170 (by first | exact jm_obR ha | exact jm_obR hb | rfl) (by decide) (by first | exact jm_rf3 | rfl) (by exact hR.1.2.1) ?_ | refine jm_getE (Y := YX5_count) (pc := 92) dX5_count_92 fw_RX5_170 (by first | exact jm_obR ha | exact jm_obR hb | rfl) (by decide) (by first | exact jm_rf3 | rfl) (by exact hR.1.2.2.1) ?_ | refine jm_getE (Y := YX5_count) (pc := 92) dX5_count_92 fw_RX5_170 (by first | exact jm_obR ha | exact jm_obR hb | rfl) (by decide) (by first | exact jm_rf3 | rfl) (by exact hR.1.2.2.2.1) ?_ | refine jm_getE (Y := YX5_count) (pc := 92) dX5_count_92 fw_RX5_170 (by first | exact jm_obR ha | exact jm_obR hb | rfl) (by decide) (by first | exact jm_rf3 | rfl) (by exact hR.1.2.2.2.2) ?_ | refine jm_getE (Y := YX5_count) (pc := 92) dX5_count_92 fw_RX5_170 (by first | exact jm_obR ha | exact jm_obR hb | rfl) (by decide) (by first | exact jm_rf3 | rfl) (by exact hR.2.1 _ (by omega)) ?_ | refine jm_getE (Y := YX5_count) (pc := 92) dX5_count_92 fw_RX5_170 (by first | exact jm_obR ha | exact jm_obR hb | rfl) (by decide) (by first | exact jm_rf3 | rfl) (by exact (hR.2.2 _ (by omega)).1) ?_ | refine jm_getE (Y := YX5_count) (pc := 92) dX5_count_92 fw_RX5_170 (by first | exact jm_obR ha | exact jm_obR hb | rfl) (by decide) (by first | exact jm_rf3 | rfl) (by exact (hR.2.2 _ (by omega)).2) ?_ | refine jm_getI (Y := YX5_count) (pc := 92) dX5_count_92 fw_RX5_170.F (by first | exact jm_obR ha | exact jm_obR hb | rfl) (by decide) (by first | exact jm_rf3 | rfl) ?_ | fail
    refine jm_ret (Y := YX5_count) (pc := 95) (st := []) dX5_count_95 rfl rfl ?_
    first | exact jm_eq (Eq.symm (by unfold q_count; rw [if_pos (by omega)]; exact congrArg nI (r_pr_e hln 8 (by decide)).symm)) | exact jm_eq (Eq.symm (by unfold q_count; rw [if_neg (by omega)]; rw [if_pos (by omega)]; try rfl)) | exact jm_eq (Eq.symm (by unfold q_count; rw [if_neg (by omega)]; rw [if_neg (by omega)]; rw [if_pos (by omega)]; try rfl)) | exact jm_eq (Eq.symm (by unfold q_count; rw [if_neg (by omega)]; rw [if_neg (by omega)]; rw [if_neg (by omega)]; rw [if_pos (by omega)]; try rfl)) | exact jm_eq (Eq.symm (by unfold q_count; rw [if_neg (by omega)]; rw [if_neg (by omega)]; rw [if_neg (by omega)]; rw [if_neg (by omega)]; rw [if_pos (by omega)]; try rfl)) | exact jm_eq (Eq.symm (by unfold q_count; rw [if_neg (by omega)]; rw [if_neg (by omega)]; rw [if_neg (by omega)]; rw [if_neg (by omega)]; rw [if_neg (by omega)]; rw [if_pos (by omega)]; try rfl)) | exact jm_eq (Eq.symm (by unfold q_count; rw [if_neg (by omega)]; rw [if_neg (by omega)]; rw [if_neg (by omega)]; rw [if_neg (by omega)]; rw [if_neg (by omega)]; rw [if_neg (by omega)]; rw [if_pos (by omega)]; try rfl)) | exact jm_eq (Eq.symm (by unfold q_count; rw [if_neg (by omega)]; rw [if_neg (by omega)]; rw [if_neg (by omega)]; rw [if_neg (by omega)]; rw [if_neg (by omega)]; rw [if_neg (by omega)]; rw [if_neg (by omega)]; rw [if_pos (by omega)]; try rfl)) | exact jm_eq (Eq.symm (by unfold q_count; rw [if_neg (by omega)]; rw [if_neg (by omega)]; rw [if_neg (by omega)]; rw [if_neg (by omega)]; rw [if_neg (by omega)]; rw [if_neg (by omega)]; rw [if_neg (by omega)]; rw [if_neg (by omega)]; rw [if_pos (by omega)]; try rfl)) | exact jm_eq (Eq.symm (by unfold q_count; rw [if_neg (by omega)]; rw [if_neg (by omega)]; rw [if_neg (by omega)]; rw [if_neg (by omega)]; rw [if_neg (by omega)]; rw [if_neg (by omega)]; rw [if_neg (by omega)]; rw [if_neg (by omega)]; rw [if_neg (by omega)]; rw [if_pos (by omega)]; try rfl)) | exact jm_eq (Eq.symm (by unfold q_count; rw [if_neg (by omega)]; rw [if_neg (by omega)]; rw [if_neg (by omega)]; rw [if_neg (by omega)]; rw [if_neg (by omega)]; rw [if_neg (by omega)]; rw [if_neg (by omega)]; rw [if_neg (by omega)]; rw [if_neg (by omega)]; rw [if_neg (by omega)]; try rfl)) | fail
  by_cases e_1_5 : Int32.toInt v = 5
  · refine jm_tin dX5_count_1 (by rw [e_1_5]; decide) (by rw [e_1_5]; decide) (by rw [e_1_5]; rfl) rfl ?_
    refine jm_ald_n (Y := YX5_count) (pc := 96) (i := 0) dX5_count_96 rfl rfl ?_
    refine jm_getR (Y := YX5_count) (pc := 97) dX5_count_97 fr_RX5_33 rfl (by decide) rfl ?_
    first | refine jm_getE (Y := YX5_count) (pc := 100) dX5_count_100 fw_RX5_282 (by first | exact jm_obR ha | exact jm_obR hb | rfl) (by decide) (by first | exact jm_rf2 | rfl) (by assumption) ?_ | refine jm_getE (Y := YX5_count) (pc := 100) dX5_count_100 fw_RX5_282 (by first | exact jm_obR ha | exact jm_obR hb | rfl) (by decide) (by first | exact jm_rf2 | rfl) (by exact hR.1.1) ?_ | refine jm_getE (Y := YX5_count) (pc := 100) dX5_count_100 fw_RX5_282 (by first | exact jm_obR ha | exact jm_obR hb | rfl) (by decide) (by first | exact jm_rf2 | rfl) (by exact hR.1.2.1) ?_ | refine jm_getE (Y := YX5_count) (pc := 100) dX5_count_100 fw_RX5_282 (by first | exact jm_obR ha | exact jm_obR hb | rfl) (by decide) (by first | exact jm_rf2 | rfl) (by exact hR.1.2.2.1) ?_ | refine jm_getE (Y := YX5_count) (pc := 100) dX5_count_100 fw_RX5_282 (by first | exact jm_obR ha | exact jm_obR hb | rfl) (by decide) (by first | exact jm_rf2 | rfl) (by exact hR.1.2.2.2.1) ?_ | refine jm_getE (Y := YX5_count) (pc := 100) dX5_count_100 fw_RX5_282 (by first | exact jm_obR ha | exact jm_obR hb | rfl) (by decide) (by first | exact jm_rf2 | rfl) (by exact hR.1.2.2.2.2) ?_ | refine jm_getE (Y := YX5_count) (pc := 100) dX5_count_100 fw_RX5_282 (by first | exact jm_obR ha | exact jm_obR hb | rfl) (by decide) (by first | exact jm_rf2 | rfl) (by exact hR.2.1 _ (by omega)) ?_ | refine jm_getE (Y := YX5_count) (pc := 100) dX5_count_100 fw_RX5_282 (by first | exact jm_obR ha | exact jm_obR hb | rfl) (by decide) (by first | exact jm_rf2 | rfl) (by exact (hR.2.2 _ (by omega)).1) ?_ | refine jm_getE (Y := YX5_count) (pc := 100) dX5_count_100 fw_RX5_282 (by first | exact jm_obR ha | exact jm_obR hb | rfl) (by decide) (by first | exact jm_rf2 | rfl) (by exact (hR.2.2 _ (by omega)).2) ?_ | refine jm_getI (Y := YX5_count) (pc := 100) dX5_count_100 fw_RX5_282.F (by first | exact jm_obR ha | exact jm_obR hb | rfl) (by decide) (by first | exact jm_rf2 | rfl) ?_ | fail
    refine jm_ret (Y := YX5_count) (pc := 103) (st := []) dX5_count_103 rfl rfl ?_
    first | exact jm_eq (Eq.symm (by unfold q_count; rw [if_pos (by omega)]; exact congrArg nI (r_pr_e hln 8 (by decide)).symm)) | exact jm_eq (Eq.symm (by unfold q_count; rw [if_neg (by omega)]; rw [if_pos (by omega)]; try rfl)) | exact jm_eq (Eq.symm (by unfold q_count; rw [if_neg (by omega)]; rw [if_neg (by omega)]; rw [if_pos (by omega)]; try rfl)) | exact jm_eq (Eq.symm (by unfold q_count; rw [if_neg (by omega)]; rw [if_neg (by omega)]; rw [if_neg (by omega)]; rw [if_pos (by omega)]; try rfl)) | exact jm_eq (Eq.symm (by unfold q_count; rw [if_neg (by omega)]; rw [if_neg (by omega)]; rw [if_neg (by omega)]; rw [if_neg (by omega)]; rw [if_pos (by omega)]; try rfl)) | exact jm_eq (Eq.symm (by unfold q_count; rw [if_neg (by omega)]; rw [if_neg (by omega)]; rw [if_neg (by omega)]; rw [if_neg (by omega)]; rw [if_neg (by omega)]; rw [if_pos (by omega)]; try rfl)) | exact jm_eq (Eq.symm (by unfold q_count; rw [if_neg (by omega)]; rw [if_neg (by omega)]; rw [if_neg (by omega)]; rw [if_neg (by omega)]; rw [if_neg (by omega)]; rw [if_neg (by omega)]; rw [if_pos (by omega)]; try rfl)) | exact jm_eq (Eq.symm (by unfold q_count; rw [if_neg (by omega)]; rw [if_neg (by omega)]; rw [if_neg (by omega)]; rw [if_neg (by omega)]; rw [if_neg (by omega)]; rw [if_neg (by omega)]; rw [if_neg (by omega)]; rw [if_pos (by omega)]; try rfl)) | exact jm_eq (Eq.symm (by unfold q_count; rw [if_neg (by omega)]; rw [if_neg (by omega)]; rw [if_neg (by omega)]; rw [if_neg (by omega)]; rw [if_neg (by omega)]; rw [if_neg (by omega)]; rw [if_neg (by omega)]; rw [if_neg (by omega)]; rw [if_pos (by omega)]; try rfl)) | exact jm_eq (Eq.symm (by unfold q_count; rw [if_neg (by omega)]; rw [if_neg (by omega)]; rw [if_neg (by omega)]; rw [if_neg (by omega)]; rw [if_neg (by omega)]; rw [if_neg (by omega)]; rw [if_neg (by omega)]; rw [if_neg (by omega)]; rw [if_neg (by omega)]; rw [if_pos (by omega)]; try rfl)) | exact jm_eq (Eq.symm (by unfold q_count; rw [if_neg (by omega)]; rw [if_neg (by omega)]; rw [if_neg (by omega)]; rw [if_neg (by omega)]; rw [if_neg (by omega)]; rw [if_neg (by omega)]; rw [if_neg (by omega)]; rw [if_neg (by omega)]; rw [if_neg (by omega)]; rw [if_neg (by omega)]; try rfl)) | fail
  by_cases e_1_6 : Int32.toInt v = 6
  · refine jm_tin dX5_count_1 (by rw [e_1_6]; decide) (by rw [e_1_6]; decide) (by rw [e_1_6]; rfl) rfl ?_
    refine jm_ald_n (Y := YX5_count) (pc := 104) (i := 0) dX5_count_104 rfl rfl ?_
    refine jm_getR (Y := YX5_count) (pc := 105) dX5_count_105 fr_RX5_33 rfl (by decide) rfl ?_
    refine jm_icN (Y := YX5_count) (pc := 108) 0 dX5_count_108 rfl ?_
    refine jm_V1ie (Y := YX5_count) (pc := 109) dX5_count_109 lk_RX5_198 ⟨_, rfl⟩ (by first | exact jm_obR ha | exact jm_obR hb | rfl) rfl (by decide) (Nat.le_of_ble_eq_true rfl) ⟨by decide, by decide⟩ (m_quarrel 0 (by decide) w _ hR hg _ (by omega)) ?_
    refine jm_ret (Y := YX5_count) (pc := 112) (st := []) dX5_count_112 rfl rfl ?_
    first | exact jm_eq (Eq.symm (by unfold q_count; rw [if_pos (by omega)]; exact congrArg nI (r_pr_e hln 8 (by decide)).symm)) | exact jm_eq (Eq.symm (by unfold q_count; rw [if_neg (by omega)]; rw [if_pos (by omega)]; try rfl)) | exact jm_eq (Eq.symm (by unfold q_count; rw [if_neg (by omega)]; rw [if_neg (by omega)]; rw [if_pos (by omega)]; try rfl)) | exact jm_eq (Eq.symm (by unfold q_count; rw [if_neg (by omega)]; rw [if_neg (by omega)]; rw [if_neg (by omega)]; rw [if_pos (by omega)]; try rfl)) | exact jm_eq (Eq.symm (by unfold q_count; rw [if_neg (by omega)]; rw [if_neg (by omega)]; rw [if_neg (by omega)]; rw [if_neg (by omega)]; rw [if_pos (by omega)]; try rfl)) | exact jm_eq (Eq.symm (by unfold q_count; rw [if_neg (by omega)]; rw [if_neg (by omega)]; rw [if_neg (by omega)]; rw [if_neg (by omega)]; rw [if_neg (by omega)]; rw [if_pos (by omega)]; try rfl)) | exact jm_eq (Eq.symm (by unfold q_count; rw [if_neg (by omega)]; rw [if_neg (by omega)]; rw [if_neg (by omega)]; rw [if_neg (by omega)]; rw [if_neg (by omega)]; rw [if_neg (by omega)]; rw [if_pos (by omega)]; try rfl)) | exact jm_eq (Eq.symm (by unfold q_count; rw [if_neg (by omega)]; rw [if_neg (by omega)]; rw [if_neg (by omega)]; rw [if_neg (by omega)]; rw [if_neg (by omega)]; rw [if_neg (by omega)]; rw [if_neg (by omega)]; rw [if_pos (by omega)]; try rfl)) | exact jm_eq (Eq.symm (by unfold q_count; rw [if_neg (by omega)]; rw [if_neg (by omega)]; rw [if_neg (by omega)]; rw [if_neg (by omega)]; rw [if_neg (by omega)]; rw [if_neg (by omega)]; rw [if_neg (by omega)]; rw [if_neg (by omega)]; rw [if_pos (by omega)]; try rfl)) | exact jm_eq (Eq.symm (by unfold q_count; rw [if_neg (by omega)]; rw [if_neg (by omega)]; rw [if_neg (by omega)]; rw [if_neg (by omega)]; rw [if_neg (by omega)]; rw [if_neg (by omega)]; rw [if_neg (by omega)]; rw [if_neg (by omega)]; rw [if_neg (by omega)]; rw [if_pos (by omega)]; try rfl)) | exact jm_eq (Eq.symm (by unfold q_count; rw [if_neg (by omega)]; rw [if_neg (by omega)]; rw [if_neg (by omega)]; rw [if_neg (by omega)]; rw [if_neg (by omega)]; rw [if_neg (by omega)]; rw [if_neg (by omega)]; rw [if_neg (by omega)]; rw [if_neg (by omega)]; rw [if_neg (by omega)]; try rfl)) | fail
  by_cases e_1_7 : Int32.toInt v = 7
  · refine jm_tin dX5_count_1 (by rw [e_1_7]; decide) (by rw [e_1_7]; decide) (by rw [e_1_7]; rfl) rfl ?_
    refine jm_ald_n (Y := YX5_count) (pc := 113) (i := 0) dX5_count_113 rfl rfl ?_
    refine jm_getR (Y := YX5_count) (pc := 114) dX5_count_114 fr_RX5_33 rfl (by decide) rfl ?_
    refine jm_V0ie (Y := YX5_count) (pc := 117) dX5_count_117 lk_RX5_146 ⟨_, rfl⟩ (by first | exact jm_obR ha | exact jm_obR hb | rfl) (by decide) (Nat.le_of_ble_eq_true rfl) ⟨by decide, by decide⟩ (m_goneBits 0 (by decide) w _ hR hg ) ?_
    refine jm_ret (Y := YX5_count) (pc := 120) (st := []) dX5_count_120 rfl rfl ?_
    first | exact jm_eq (Eq.symm (by unfold q_count; rw [if_pos (by omega)]; exact congrArg nI (r_pr_e hln 8 (by decide)).symm)) | exact jm_eq (Eq.symm (by unfold q_count; rw [if_neg (by omega)]; rw [if_pos (by omega)]; try rfl)) | exact jm_eq (Eq.symm (by unfold q_count; rw [if_neg (by omega)]; rw [if_neg (by omega)]; rw [if_pos (by omega)]; try rfl)) | exact jm_eq (Eq.symm (by unfold q_count; rw [if_neg (by omega)]; rw [if_neg (by omega)]; rw [if_neg (by omega)]; rw [if_pos (by omega)]; try rfl)) | exact jm_eq (Eq.symm (by unfold q_count; rw [if_neg (by omega)]; rw [if_neg (by omega)]; rw [if_neg (by omega)]; rw [if_neg (by omega)]; rw [if_pos (by omega)]; try rfl)) | exact jm_eq (Eq.symm (by unfold q_count; rw [if_neg (by omega)]; rw [if_neg (by omega)]; rw [if_neg (by omega)]; rw [if_neg (by omega)]; rw [if_neg (by omega)]; rw [if_pos (by omega)]; try rfl)) | exact jm_eq (Eq.symm (by unfold q_count; rw [if_neg (by omega)]; rw [if_neg (by omega)]; rw [if_neg (by omega)]; rw [if_neg (by omega)]; rw [if_neg (by omega)]; rw [if_neg (by omega)]; rw [if_pos (by omega)]; try rfl)) | exact jm_eq (Eq.symm (by unfold q_count; rw [if_neg (by omega)]; rw [if_neg (by omega)]; rw [if_neg (by omega)]; rw [if_neg (by omega)]; rw [if_neg (by omega)]; rw [if_neg (by omega)]; rw [if_neg (by omega)]; rw [if_pos (by omega)]; try rfl)) | exact jm_eq (Eq.symm (by unfold q_count; rw [if_neg (by omega)]; rw [if_neg (by omega)]; rw [if_neg (by omega)]; rw [if_neg (by omega)]; rw [if_neg (by omega)]; rw [if_neg (by omega)]; rw [if_neg (by omega)]; rw [if_neg (by omega)]; rw [if_pos (by omega)]; try rfl)) | exact jm_eq (Eq.symm (by unfold q_count; rw [if_neg (by omega)]; rw [if_neg (by omega)]; rw [if_neg (by omega)]; rw [if_neg (by omega)]; rw [if_neg (by omega)]; rw [if_neg (by omega)]; rw [if_neg (by omega)]; rw [if_neg (by omega)]; rw [if_neg (by omega)]; rw [if_pos (by omega)]; try rfl)) | exact jm_eq (Eq.symm (by unfold q_count; rw [if_neg (by omega)]; rw [if_neg (by omega)]; rw [if_neg (by omega)]; rw [if_neg (by omega)]; rw [if_neg (by omega)]; rw [if_neg (by omega)]; rw [if_neg (by omega)]; rw [if_neg (by omega)]; rw [if_neg (by omega)]; rw [if_neg (by omega)]; try rfl)) | fail
  by_cases e_1_8 : Int32.toInt v = 8
  · refine jm_tin dX5_count_1 (by rw [e_1_8]; decide) (by rw [e_1_8]; decide) (by rw [e_1_8]; rfl) rfl ?_
    refine jm_ald_n (Y := YX5_count) (pc := 121) (i := 0) dX5_count_121 rfl rfl ?_
    refine jm_getE (Y := YX5_count) (pc := 122) dX5_count_122 fw_RX5_51 rfl (by decide) rfl (hn) ?_
    refine jm_ret (Y := YX5_count) (pc := 125) (st := []) dX5_count_125 rfl rfl ?_
    first | exact jm_eq (Eq.symm (by unfold q_count; rw [if_pos (by omega)]; exact congrArg nI (r_pr_e hln 8 (by decide)).symm)) | exact jm_eq (Eq.symm (by unfold q_count; rw [if_neg (by omega)]; rw [if_pos (by omega)]; try rfl)) | exact jm_eq (Eq.symm (by unfold q_count; rw [if_neg (by omega)]; rw [if_neg (by omega)]; rw [if_pos (by omega)]; try rfl)) | exact jm_eq (Eq.symm (by unfold q_count; rw [if_neg (by omega)]; rw [if_neg (by omega)]; rw [if_neg (by omega)]; rw [if_pos (by omega)]; try rfl)) | exact jm_eq (Eq.symm (by unfold q_count; rw [if_neg (by omega)]; rw [if_neg (by omega)]; rw [if_neg (by omega)]; rw [if_neg (by omega)]; rw [if_pos (by omega)]; try rfl)) | exact jm_eq (Eq.symm (by unfold q_count; rw [if_neg (by omega)]; rw [if_neg (by omega)]; rw [if_neg (by omega)]; rw [if_neg (by omega)]; rw [if_neg (by omega)]; rw [if_pos (by omega)]; try rfl)) | exact jm_eq (Eq.symm (by unfold q_count; rw [if_neg (by omega)]; rw [if_neg (by omega)]; rw [if_neg (by omega)]; rw [if_neg (by omega)]; rw [if_neg (by omega)]; rw [if_neg (by omega)]; rw [if_pos (by omega)]; try rfl)) | exact jm_eq (Eq.symm (by unfold q_count; rw [if_neg (by omega)]; rw [if_neg (by omega)]; rw [if_neg (by omega)]; rw [if_neg (by omega)]; rw [if_neg (by omega)]; rw [if_neg (by omega)]; rw [if_neg (by omega)]; rw [if_pos (by omega)]; try rfl)) | exact jm_eq (Eq.symm (by unfold q_count; rw [if_neg (by omega)]; rw [if_neg (by omega)]; rw [if_neg (by omega)]; rw [if_neg (by omega)]; rw [if_neg (by omega)]; rw [if_neg (by omega)]; rw [if_neg (by omega)]; rw [if_neg (by omega)]; rw [if_pos (by omega)]; try rfl)) | exact jm_eq (Eq.symm (by unfold q_count; rw [if_neg (by omega)]; rw [if_neg (by omega)]; rw [if_neg (by omega)]; rw [if_neg (by omega)]; rw [if_neg (by omega)]; rw [if_neg (by omega)]; rw [if_neg (by omega)]; rw [if_neg (by omega)]; rw [if_neg (by omega)]; rw [if_pos (by omega)]; try rfl)) | exact jm_eq (Eq.symm (by unfold q_count; rw [if_neg (by omega)]; rw [if_neg (by omega)]; rw [if_neg (by omega)]; rw [if_neg (by omega)]; rw [if_neg (by omega)]; rw [if_neg (by omega)]; rw [if_neg (by omega)]; rw [if_neg (by omega)]; rw [if_neg (by omega)]; rw [if_neg (by omega)]; try rfl)) | fail
  by_cases e_1_9 : Int32.toInt v = 9
  · refine jm_tin dX5_count_1 (by rw [e_1_9]; decide) (by rw [e_1_9]; decide) (by rw [e_1_9]; rfl) rfl ?_
    refine jm_ald_n (Y := YX5_count) (pc := 126) (i := 0) dX5_count_126 rfl rfl ?_
    refine jm_getR (Y := YX5_count) (pc := 127) dX5_count_127 fr_RX5_19 rfl (by decide) rfl ?_
    refine jm_getE (Y := YX5_count) (pc := 130) dX5_count_130 fw_RX5_285 rfl (by decide) rfl (ht) ?_
    refine jm_ret (Y := YX5_count) (pc := 133) (st := []) dX5_count_133 rfl rfl ?_
    first | exact jm_eq (Eq.symm (by unfold q_count; rw [if_pos (by omega)]; exact congrArg nI (r_pr_e hln 8 (by decide)).symm)) | exact jm_eq (Eq.symm (by unfold q_count; rw [if_neg (by omega)]; rw [if_pos (by omega)]; try rfl)) | exact jm_eq (Eq.symm (by unfold q_count; rw [if_neg (by omega)]; rw [if_neg (by omega)]; rw [if_pos (by omega)]; try rfl)) | exact jm_eq (Eq.symm (by unfold q_count; rw [if_neg (by omega)]; rw [if_neg (by omega)]; rw [if_neg (by omega)]; rw [if_pos (by omega)]; try rfl)) | exact jm_eq (Eq.symm (by unfold q_count; rw [if_neg (by omega)]; rw [if_neg (by omega)]; rw [if_neg (by omega)]; rw [if_neg (by omega)]; rw [if_pos (by omega)]; try rfl)) | exact jm_eq (Eq.symm (by unfold q_count; rw [if_neg (by omega)]; rw [if_neg (by omega)]; rw [if_neg (by omega)]; rw [if_neg (by omega)]; rw [if_neg (by omega)]; rw [if_pos (by omega)]; try rfl)) | exact jm_eq (Eq.symm (by unfold q_count; rw [if_neg (by omega)]; rw [if_neg (by omega)]; rw [if_neg (by omega)]; rw [if_neg (by omega)]; rw [if_neg (by omega)]; rw [if_neg (by omega)]; rw [if_pos (by omega)]; try rfl)) | exact jm_eq (Eq.symm (by unfold q_count; rw [if_neg (by omega)]; rw [if_neg (by omega)]; rw [if_neg (by omega)]; rw [if_neg (by omega)]; rw [if_neg (by omega)]; rw [if_neg (by omega)]; rw [if_neg (by omega)]; rw [if_pos (by omega)]; try rfl)) | exact jm_eq (Eq.symm (by unfold q_count; rw [if_neg (by omega)]; rw [if_neg (by omega)]; rw [if_neg (by omega)]; rw [if_neg (by omega)]; rw [if_neg (by omega)]; rw [if_neg (by omega)]; rw [if_neg (by omega)]; rw [if_neg (by omega)]; rw [if_pos (by omega)]; try rfl)) | exact jm_eq (Eq.symm (by unfold q_count; rw [if_neg (by omega)]; rw [if_neg (by omega)]; rw [if_neg (by omega)]; rw [if_neg (by omega)]; rw [if_neg (by omega)]; rw [if_neg (by omega)]; rw [if_neg (by omega)]; rw [if_neg (by omega)]; rw [if_neg (by omega)]; rw [if_pos (by omega)]; try rfl)) | exact jm_eq (Eq.symm (by unfold q_count; rw [if_neg (by omega)]; rw [if_neg (by omega)]; rw [if_neg (by omega)]; rw [if_neg (by omega)]; rw [if_neg (by omega)]; rw [if_neg (by omega)]; rw [if_neg (by omega)]; rw [if_neg (by omega)]; rw [if_neg (by omega)]; rw [if_neg (by omega)]; try rfl)) | fail
  refine jm_tout (Y := YX5_count) (pc := 1) dX5_count_1 (by omega) rfl ?_
  refine jm_ldc (Y := YX5_count) (pc := 134) (v := -1000001) dX5_count_134 kc_RX5_64 ?_
  refine jm_ret (Y := YX5_count) (pc := 136) (st := []) dX5_count_136 rfl rfl ?_
  first | exact jm_eq (Eq.symm (by unfold q_count; rw [if_pos (by omega)]; exact congrArg nI (r_pr_e hln 8 (by decide)).symm)) | exact jm_eq (Eq.symm (by unfold q_count; rw [if_neg (by omega)]; rw [if_pos (by omega)]; try rfl)) | exact jm_eq (Eq.symm (by unfold q_count; rw [if_neg (by omega)]; rw [if_neg (by omega)]; rw [if_pos (by omega)]; try rfl)) | exact jm_eq (Eq.symm (by unfold q_count; rw [if_neg (by omega)]; rw [if_neg (by omega)]; rw [if_neg (by omega)]; rw [if_pos (by omega)]; try rfl)) | exact jm_eq (Eq.symm (by unfold q_count; rw [if_neg (by omega)]; rw [if_neg (by omega)]; rw [if_neg (by omega)]; rw [if_neg (by omega)]; rw [if_pos (by omega)]; try rfl)) | exact jm_eq (Eq.symm (by unfold q_count; rw [if_neg (by omega)]; rw [if_neg (by omega)]; rw [if_neg (by omega)]; rw [if_neg (by omega)]; rw [if_neg (by omega)]; rw [if_pos (by omega)]; try rfl)) | exact jm_eq (Eq.symm (by unfold q_count; rw [if_neg (by omega)]; rw [if_neg (by omega)]; rw [if_neg (by omega)]; rw [if_neg (by omega)]; rw [if_neg (by omega)]; rw [if_neg (by omega)]; rw [if_pos (by omega)]; try rfl)) | exact jm_eq (Eq.symm (by unfold q_count; rw [if_neg (by omega)]; rw [if_neg (by omega)]; rw [if_neg (by omega)]; rw [if_neg (by omega)]; rw [if_neg (by omega)]; rw [if_neg (by omega)]; rw [if_neg (by omega)]; rw [if_pos (by omega)]; try rfl)) | exact jm_eq (Eq.symm (by unfold q_count; rw [if_neg (by omega)]; rw [if_neg (by omega)]; rw [if_neg (by omega)]; rw [if_neg (by omega)]; rw [if_neg (by omega)]; rw [if_neg (by omega)]; rw [if_neg (by omega)]; rw [if_neg (by omega)]; rw [if_pos (by omega)]; try rfl)) | exact jm_eq (Eq.symm (by unfold q_count; rw [if_neg (by omega)]; rw [if_neg (by omega)]; rw [if_neg (by omega)]; rw [if_neg (by omega)]; rw [if_neg (by omega)]; rw [if_neg (by omega)]; rw [if_neg (by omega)]; rw [if_neg (by omega)]; rw [if_neg (by omega)]; rw [if_pos (by omega)]; try rfl)) | exact jm_eq (Eq.symm (by unfold q_count; rw [if_neg (by omega)]; rw [if_neg (by omega)]; rw [if_neg (by omega)]; rw [if_neg (by omega)]; rw [if_neg (by omega)]; rw [if_neg (by omega)]; rw [if_neg (by omega)]; rw [if_neg (by omega)]; rw [if_neg (by omega)]; rw [if_neg (by omega)]; try rfl)) | fail
