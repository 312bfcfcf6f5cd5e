/-! the class: what it tries out -/
theorem wU_wU (w : Nat → Nat) (k a b : Nat) : wU (wU w k a) k b = wU w k b := by
  funext j
  by_cases h : j = k
  · subst h; rw [wU_s, wU_s]
  · rw [wU_n _ _ h, wU_n _ _ h, wU_n _ _ h]
theorem wU_bk (w : Nat → Nat) (k : Nat) : wU w k (w k) = w := by
  funext j
  by_cases h : j = k
  · subst h; rw [wU_s]
  · rw [wU_n _ _ h]
theorem RF_R0 {M M1 : jm_M} {w : Nat → Nat} (h : RF 1 M M1) (hR : RV M 0 w) : RV M1 0 w := RV_fr (fun i a b => h i (by omega)) hR
theorem RF_sf {M0 M : jm_M} (h : RF 1 M0 M) {i : Nat} (f : Nat → Int32) (hi : 36 ≤ i ∧ i < 40) : RF 1 M0 (jm_sf M i f) := fun j hj => by rw [jm_sf_n _ _ (by omega)]; exact h j hj
theorem w_stir0 (w : Nat → Nat) (M0 : jm_M) (hR0 : RV M0 0 w) (hg : rG w) (hm : w 4 ≤ 9999) (k c N : Nat) (hk : k < w 3) (hc : c < w 2) (hN : N ≤ 30) : ∀ (m : Nat) (v x : Nat) (M : jm_M), v ≤ 4 → x ≤ 3 → RV M 1 (wU w (5 + c) x) → RF 1 M0 M → 4 - v < m → jm_J none YX5_stir 49 [some (.ref 0), some (.int (nI k)), some (.int (nI c)), some (.int (nI N)), some (.int (nI v))] [] M (jm_t M0 (p_st w k c N (4 - v) v)) := by
  intro m
  induction m with
  | zero => intros; omega
  | succ m ih =>
    intro v x M hv hx hT hF hmm
    have hb := hg.hb
    have g0 := hg.1.1
    have g1 := hg.1.2.1
    have g2 := hg.1.2.2.1
    have g3 := hg.1.2.2.2.1
    have g4 := hg.1.2.2.2.2
    have hR := RF_R0 hF hR0
    refine jm_iload (Y := YX5_stir) (pc := 49) dX5_stir_49 rfl ?_
    refine jm_icN (Y := YX5_stir) (pc := 51) 3 dX5_stir_51 rfl ?_
    refine jm_icmp_gtN (Y := YX5_stir) (pc := 52) dX5_stir_52 rfl (by first | omega | exact jm_lt hb _) (by first | omega | exact jm_lt hb _) (fun h_52 => ?_) (fun h_52 => ?_)
    · refine jm_ldc (Y := YX5_stir) (pc := 90) (v := -1000000) dX5_stir_90 kc_RX5_210 ?_
      refine jm_ret (Y := YX5_stir) (pc := 92) (st := []) dX5_stir_92 rfl rfl ?_
      first | (rw [es, if_pos (wg.mp h_78)]; exact jm_ti rfl (RF_sf hF _ (by omega))) | (have e4 : v = 4 := (by omega); rw [e4]; exact jm_ti rfl hF) | fail
    · refine jm_ald_n (Y := YX5_stir) (pc := 55) (i := 0) dX5_stir_55 rfl rfl ?_
      refine jm_getR (Y := YX5_stir) (pc := 56) dX5_stir_56 fr_RX5_37 rfl (by decide) rfl ?_
      refine jm_getR (Y := YX5_stir) (pc := 59) dX5_stir_59 fr_RX5_167 (by first | exact jm_obR ha | exact jm_obR hb | rfl) (by decide) (by first | exact jm_rf5 | rfl) ?_
      refine jm_ild_n (Y := YX5_stir) (pc := 62) (i := 2) dX5_stir_62 rfl rfl ?_
      refine jm_iload (Y := YX5_stir) (pc := 63) dX5_stir_63 rfl ?_
      refine jm_iasN (Y := YX5_stir) (pc := 65) dX5_stir_65 rfl (by omega) ?_
      have hT2 : RV (jm_sf M 37 (upd (M 37) c (nI v))) 1 (wU w (5 + c) v) := by
        have h9 := RV_sp hT (c := c) v (by omega)
        rw [wU_wU] at h9
        exact h9
      have hG := hg.sp (c := c) (v := v) (by omega) (by omega)
      have u2 : wU w (5 + c) v 2 = w 2 := wU_n _ _ (by omega)
      have u3 : wU w (5 + c) v 3 = w 3 := wU_n _ _ (by omega)
      have u4 : wU w (5 + c) v 4 = w 4 := wU_n _ _ (by omega)
      have wb := m_wd_b hG (show k < wU w (5 + c) v 3 by omega) N
      have wg := m_wd_g hG (show k < wU w (5 + c) v 3 by omega) (n := N) (by omega)
      have es : p_st w k c N (4 - v) v = if p_on (wU w (5 + c) v) N (17 + 4 * k + 3) = 1 then nI v else p_st w k c N (4 - (v + 1)) (v + 1) := by
        rw [show 4 - v = 4 - (v + 1) + 1 by omega]
        rfl
      refine jm_ald_n (Y := YX5_stir) (pc := 66) (i := 0) dX5_stir_66 rfl rfl ?_
      refine jm_getR (Y := YX5_stir) (pc := 67) dX5_stir_67 fr_RX5_37 rfl (by decide) rfl ?_
      refine jm_ild_n (Y := YX5_stir) (pc := 70) (i := 1) dX5_stir_70 rfl rfl ?_
      refine jm_ild_n (Y := YX5_stir) (pc := 71) (i := 3) dX5_stir_71 rfl rfl ?_
      refine jm_V2ie (Y := YX5_stir) (pc := 72) dX5_stir_72 lk_RX5_195 ⟨_, rfl⟩ (by first | exact jm_obR ha | exact jm_obR hb | rfl) rfl rfl (by decide) (Nat.le_of_ble_eq_true rfl) ⟨by decide, by decide⟩ (m_foretold 1 (by decide) (wU w (5 + c) v) _ hT2 hG k (by omega) N (by omega)) ?_
      refine jm_S1ie (Y := YX5_stir) (pc := 75) dX5_stir_75 lk_RX5_179 ⟨_, rfl⟩ rfl (by decide) (Nat.le_of_ble_eq_true rfl) ⟨by decide, by decide⟩ (m_isGone _ _ _ (by omega) (by omega)) ?_
      refine jm_if_eqB (Y := YX5_stir) (pc := 78) dX5_stir_78 rfl (fun h_78 => ?_) (fun h_78 => ?_)
      · refine jm_incN (Y := YX5_stir) (pc := 84) (m := 1) (ls' := [_, _, _, _, _]) dX5_stir_84 rfl rfl rfl rfl ?_
        refine jm_goto (Y := YX5_stir) (pc := 87) dX5_stir_87 rfl ?_
        rw [es, if_neg (fun z => h_78 (wg.mpr z))]
        exact ih (v + 1) v _ (by omega) (by omega) hT2 (RF_sf hF _ (by omega)) (by omega)
      · refine jm_iload (Y := YX5_stir) (pc := 81) dX5_stir_81 rfl ?_
        refine jm_ret (Y := YX5_stir) (pc := 83) (st := []) dX5_stir_83 rfl rfl ?_
        first | (rw [es, if_pos (wg.mp h_78)]; exact jm_ti rfl (RF_sf hF _ (by omega))) | (have e4 : v = 4 := (by omega); rw [e4]; exact jm_ti rfl hF) | fail
theorem w_stir (w : Nat → Nat) (M : jm_M) (hR : RV M 0 w) (hg : rG w) (hm : w 4 ≤ 9999) (v c n : Int32) : jm_J none YX5_stir 0 [some (.ref 0), some (.int v), some (.int c), some (.int n), none] [] M (jm_t M (q_stir w v c n)) := by
  have hb := hg.hb
  have g0 := hg.1.1
  have g1 := hg.1.2.1
  have g2 := hg.1.2.2.1
  have g3 := hg.1.2.2.2.1
  have g4 := hg.1.2.2.2.2
  refine jm_ald_n (Y := YX5_stir) (pc := 0) (i := 0) dX5_stir_0 rfl rfl ?_
  refine jm_getR (Y := YX5_stir) (pc := 1) dX5_stir_1 fr_RX5_33 rfl (by decide) rfl ?_
  refine jm_ild_n (Y := YX5_stir) (pc := 4) (i := 1) dX5_stir_4 rfl rfl ?_
  refine jm_V1ie (Y := YX5_stir) (pc := 5) dX5_stir_5 lk_RX5_150 ⟨_, rfl⟩ (by first | exact jm_obR ha | exact jm_obR hb | rfl) rfl (by decide) (Nat.le_of_ble_eq_true rfl) ⟨by decide, by decide⟩ (m_hasWord 0 (by decide) w _ hR hg _) ?_
  refine jm_if_eqB (Y := YX5_stir) (pc := 8) dX5_stir_8 rfl (fun h_8 => ?_) (fun h_8 => ?_)
  · refine jm_ldc (Y := YX5_stir) (pc := 32) (v := -1000001) dX5_stir_32 kc_RX5_64 ?_
    refine jm_ret (Y := YX5_stir) (pc := 34) (st := []) dX5_stir_34 rfl rfl ?_
    unfold q_stir
    first | exact jm_ti (Eq.symm (by rw [if_neg (by omega)])) (RF_0 1 M) | fail
  · refine jm_ald_n (Y := YX5_stir) (pc := 11) (i := 0) dX5_stir_11 rfl rfl ?_
    refine jm_getR (Y := YX5_stir) (pc := 12) dX5_stir_12 fr_RX5_33 rfl (by decide) rfl ?_
    refine jm_ild_n (Y := YX5_stir) (pc := 15) (i := 2) dX5_stir_15 rfl rfl ?_
    refine jm_V1ie (Y := YX5_stir) (pc := 16) dX5_stir_16 lk_RX5_153 ⟨_, rfl⟩ (by first | exact jm_obR ha | exact jm_obR hb | rfl) rfl (by decide) (Nat.le_of_ble_eq_true rfl) ⟨by decide, by decide⟩ (m_hasCell 0 (by decide) w _ hR hg _) ?_
    refine jm_if_eqB (Y := YX5_stir) (pc := 19) dX5_stir_19 rfl (fun h_19 => ?_) (fun h_19 => ?_)
    · refine jm_ldc (Y := YX5_stir) (pc := 32) (v := -1000001) dX5_stir_32 kc_RX5_64 ?_
      refine jm_ret (Y := YX5_stir) (pc := 34) (st := []) dX5_stir_34 rfl rfl ?_
      unfold q_stir
      first | exact jm_ti (Eq.symm (by rw [if_neg (by omega)])) (RF_0 1 M) | fail
    · refine jm_ild_n (Y := YX5_stir) (pc := 22) (i := 3) dX5_stir_22 rfl rfl ?_
      refine jm_icN (Y := YX5_stir) (pc := 23) 1 dX5_stir_23 rfl ?_
      refine jm_bpN (Y := YX5_stir) (pc := 24) 30 dX5_stir_24 rfl ?_
      refine jm_S3ie (Y := YX5_stir) (pc := 26) dX5_stir_26 lk_RX5_98 ⟨_, rfl⟩ rfl rfl rfl (by decide) (Nat.le_of_ble_eq_true rfl) ⟨by decide, by decide⟩ (w_wiN _ _ _ _ (by decide) (by decide)) ?_
      refine jm_if_neB (Y := YX5_stir) (pc := 29) dX5_stir_29 rfl (fun h_29 => ?_) (fun h_29 => ?_)
      · obtain ⟨k, h_k, rfl, t_k, n_k⟩ := jm_ofL (v := v) (n := w 3) (by omega) (by omega)
        obtain ⟨cc, h_cc, rfl, t_cc, n_cc⟩ := jm_ofL (v := c) (n := w 2) (by omega) (by omega)
        obtain ⟨N, h_N, rfl, t_N, n_N⟩ := jm_ofL (v := n) (n := 31) (by omega) (by omega)
        refine jm_ald_n (Y := YX5_stir) (pc := 35) (i := 0) dX5_stir_35 rfl rfl ?_
        refine jm_getR (Y := YX5_stir) (pc := 36) dX5_stir_36 fr_RX5_37 rfl (by decide) rfl ?_
        refine jm_ald_n (Y := YX5_stir) (pc := 39) (i := 0) dX5_stir_39 rfl rfl ?_
        refine jm_getR (Y := YX5_stir) (pc := 40) dX5_stir_40 fr_RX5_33 rfl (by decide) rfl ?_
        refine jm_V1v (Y := YX5_stir) (pc := 43) dX5_stir_43 lk_RX5_120 rfl (by first | exact jm_obR ha | exact jm_obR hb | rfl) rfl (by decide) (Nat.le_of_ble_eq_true rfl) ⟨by decide, by decide⟩ (m_become 1 0 (by decide) (by decide) (by decide) w M hR (by omega) (by omega)) (fun M_43 q_43 => ?_)
        refine jm_icN (Y := YX5_stir) (pc := 46) 0 dX5_stir_46 rfl ?_
        refine jm_ist (Y := YX5_stir) (pc := 47) (ls' := [_, _, _, _, _]) dX5_stir_47 (Nat.le_of_ble_eq_true rfl) rfl rfl ?_
        have e : q_stir w (nI k) (nI cc) (nI N) = p_st w k cc N (4 - 0) 0 := (by unfold q_stir; rw [if_pos (by omega), n_k, n_cc, n_N])
        rw [e]
        obtain ⟨-, hV, hF⟩ := q_43
        have s3 := hg.2.1 cc (by omega)
        exact w_stir0 w M hR hg hm k cc N (by omega) (by omega) (by omega) 5 0 (w (5 + cc)) M_43 (by omega) (by omega) (by rw [wU_bk]; exact hV) hF (by omega)
      · refine jm_ldc (Y := YX5_stir) (pc := 32) (v := -1000001) dX5_stir_32 kc_RX5_64 ?_
        refine jm_ret (Y := YX5_stir) (pc := 34) (st := []) dX5_stir_34 rfl rfl ?_
        unfold q_stir
        first | exact jm_ti (Eq.symm (by rw [if_neg (by omega)])) (RF_0 1 M) | fail
theorem w_share0 (w : Nat → Nat) (M : jm_M) (hR : RV M 0 w) (hg : rG w) (hm : w 4 ≤ 9999) (v N : Nat) (hv : v < w 3) (hN : N ≤ 999) (h0 : 0 < w (17 + 4 * v + 1)) : ∀ (m : Nat) (k : Nat), k ≤ w 3 → w 3 - k < m → jm_J none YX5_share 60 [some (.ref 0), some (.int (nI v)), some (.int (nI N)), some (.int (nI (p_sm w (w 3)))), some (.int (p_sho w N k)), some (.int (nI (p_sha w v k))), some (.int (nI k))] [] M (jm_t M (p_shr w v N)) := by
  intro m
  induction m with
  | zero => intros; omega
  | succ m ih =>
    intro k hk hmm
    have hb := hg.hb
    have g0 := hg.1.1
    have g1 := hg.1.2.1
    have g2 := hg.1.2.2.1
    have g3 := hg.1.2.2.2.1
    have g4 := hg.1.2.2.2.2
    have hmul : ∀ k, N * w (17 + 4 * k + 1) ≤ 999 * 20000 := fun k => Nat.mul_le_mul (by omega) (hb _)
    have s1 := p_sm_ge w v (w 3) hv
    have s2 := p_sm_le hg (w 3) (by omega)
    have mk := hmul k
    have mv := hmul v
    refine jm_iload (Y := YX5_share) (pc := 60) dX5_share_60 rfl ?_
    refine jm_ald_n (Y := YX5_share) (pc := 62) (i := 0) dX5_share_62 rfl rfl ?_
    refine jm_getR (Y := YX5_share) (pc := 63) dX5_share_63 fr_RX5_33 rfl (by decide) rfl ?_
    first | refine jm_getE (Y := YX5_share) (pc := 66) dX5_share_66 fw_RX5_204 (by first | exact jm_obR ha | exact jm_obR hb | rfl) (by decide) (by first | exact jm_rf1 | rfl) (by assumption) ?_ | refine jm_getE (Y := YX5_share) (pc := 66) dX5_share_66 fw_RX5_204 (by first | exact jm_obR ha | exact jm_obR hb | rfl) (by decide) (by first | exact jm_rf1 | rfl) (by exact hR.1.1) ?_ | refine jm_getE (Y := YX5_share) (pc := 66) dX5_share_66 fw_RX5_204 (by first | exact jm_obR ha | exact jm_obR hb | rfl) (by decide) (by first | exact jm_rf1 | rfl) (by exact hR.1.2.1) ?_ | refine jm_getE (Y := YX5_share) (pc := 66) dX5_share_66 fw_RX5_204 (by first | exact jm_obR ha | exact jm_obR hb | rfl) (by decide) (by first | exact jm_rf1 | rfl) (by exact hR.1.2.2.1) ?_ | refine jm_getE (Y := YX5_share) (pc := 66) dX5_share_66 fw_RX5_204 (by first | exact jm_obR ha | exact jm_obR hb | rfl) (by decide) (by first | exact jm_rf1 | rfl) (by exact hR.1.2.2.2.1) ?_ | refine jm_getE (Y := YX5_share) (pc := 66) dX5_share_66 fw_RX5_204 (by first | exact jm_obR ha | exact jm_obR hb | rfl) (by decide) (by first | exact jm_rf1 | rfl) (by exact hR.1.2.2.2.2) ?_ | refine jm_getE (Y := YX5_share) (pc := 66) dX5_share_66 fw_RX5_204 (by first | exact jm_obR ha | exact jm_obR hb | rfl) (by decide) (by first | exact jm_rf1 | rfl) (by exact hR.2.1 _ (by omega)) ?_ | refine jm_getE (Y := YX5_share) (pc := 66) dX5_share_66 fw_RX5_204 (by first | exact jm_obR ha | exact jm_obR hb | rfl) (by decide) (by first | exact jm_rf1 | rfl) (by exact (hR.2.2 _ (by omega)).1) ?_ | refine jm_getE (Y := YX5_share) (pc := 66) dX5_share_66 fw_RX5_204 (by first | exact jm_obR ha | exact jm_obR hb | rfl) (by decide) (by first | exact jm_rf1 | rfl) (by exact (hR.2.2 _ (by omega)).2) ?_ | refine jm_getI (Y := YX5_share) (pc := 66) dX5_share_66 fw_RX5_204.F (by first | exact jm_obR ha | exact jm_obR hb | rfl) (by decide) (by first | exact jm_rf1 | rfl) ?_ | fail
    refine jm_icmp_geN (Y := YX5_share) (pc := 69) dX5_share_69 rfl (by first | omega | exact jm_lt hb _) (by first | omega | exact jm_lt hb _) (fun h_69 => ?_) (fun h_69 => ?_)
    · refine jm_ild_n (Y := YX5_share) (pc := 117) (i := 2) dX5_share_117 rfl rfl ?_
      refine jm_ald_n (Y := YX5_share) (pc := 118) (i := 0) dX5_share_118 rfl rfl ?_
      refine jm_getR (Y := YX5_share) (pc := 119) dX5_share_119 fr_RX5_33 rfl (by decide) rfl ?_
      refine jm_ild_n (Y := YX5_share) (pc := 122) (i := 1) dX5_share_122 rfl rfl ?_
      refine jm_V1ie (Y := YX5_share) (pc := 123) dX5_share_123 lk_RX5_156 ⟨_, rfl⟩ (by first | exact jm_obR ha | exact jm_obR hb | rfl) rfl (by decide) (Nat.le_of_ble_eq_true rfl) ⟨by decide, by decide⟩ (m_sizeOf 0 (by decide) w _ hR hg _ (by omega)) ?_
      refine jm_mulN (Y := YX5_share) (pc := 126) dX5_share_126 ?_
      refine jm_ild_n (Y := YX5_share) (pc := 127) (i := 3) dX5_share_127 rfl rfl ?_
      refine jm_divN (Y := YX5_share) (pc := 128) dX5_share_128 (by first | omega | exact jm_lt hb _) (by first | omega | exact jm_lt hb _) (by first | omega | exact jm_lt hb _) ?_
      refine jm_iload (Y := YX5_share) (pc := 129) dX5_share_129 rfl ?_
      refine jm_iload (Y := YX5_share) (pc := 131) dX5_share_131 rfl ?_
      refine jm_icmp_ge (Y := YX5_share) (pc := 133) dX5_share_133 rfl (fun h_133 => ?_) (fun h_133 => ?_)
      · refine jm_icN (Y := YX5_share) (pc := 140) 0 dX5_share_140 rfl ?_
        refine jm_iadd (Y := YX5_share) (pc := 141) dX5_share_141 ?_
        refine jm_ret (Y := YX5_share) (pc := 142) (st := []) dX5_share_142 rfl rfl ?_
        have ek : k = w 3 := by omega
        rw [ek] at h_133
        unfold p_shr
        first | exact jm_ti (Eq.symm (by rw [if_pos (i_lt h_133)])) (RF_0 1 M) | exact jm_ti (Eq.symm (by rw [if_neg (Int32.not_lt.mpr h_133)])) (RF_0 1 M) | fail
      · refine jm_icN (Y := YX5_share) (pc := 136) 1 dX5_share_136 rfl ?_
        refine jm_goto (Y := YX5_share) (pc := 137) dX5_share_137 rfl ?_
        refine jm_iadd (Y := YX5_share) (pc := 141) dX5_share_141 ?_
        refine jm_ret (Y := YX5_share) (pc := 142) (st := []) dX5_share_142 rfl rfl ?_
        have ek : k = w 3 := by omega
        rw [ek] at h_133
        unfold p_shr
        first | exact jm_ti (Eq.symm (by rw [if_pos (i_lt h_133)])) (RF_0 1 M) | exact jm_ti (Eq.symm (by rw [if_neg (Int32.not_lt.mpr h_133)])) (RF_0 1 M) | fail
    · refine jm_iload (Y := YX5_share) (pc := 72) dX5_share_72 rfl ?_
      refine jm_ild_n (Y := YX5_share) (pc := 74) (i := 2) dX5_share_74 rfl rfl ?_
      refine jm_ald_n (Y := YX5_share) (pc := 75) (i := 0) dX5_share_75 rfl rfl ?_
      refine jm_getR (Y := YX5_share) (pc := 76) dX5_share_76 fr_RX5_33 rfl (by decide) rfl ?_
      refine jm_iload (Y := YX5_share) (pc := 79) dX5_share_79 rfl ?_
      refine jm_V1ie (Y := YX5_share) (pc := 81) dX5_share_81 lk_RX5_156 ⟨_, rfl⟩ (by first | exact jm_obR ha | exact jm_obR hb | rfl) rfl (by decide) (Nat.le_of_ble_eq_true rfl) ⟨by decide, by decide⟩ (m_sizeOf 0 (by decide) w _ hR hg _ (by omega)) ?_
      refine jm_mulN (Y := YX5_share) (pc := 84) dX5_share_84 ?_
      refine jm_ild_n (Y := YX5_share) (pc := 85) (i := 3) dX5_share_85 rfl rfl ?_
      refine jm_divN (Y := YX5_share) (pc := 86) dX5_share_86 (by first | omega | exact jm_lt hb _) (by first | omega | exact jm_lt hb _) (by first | omega | exact jm_lt hb _) ?_
      refine jm_isub (Y := YX5_share) (pc := 87) dX5_share_87 ?_
      refine jm_ist (Y := YX5_share) (pc := 88) (ls' := [_, _, _, _, _, _, _]) dX5_share_88 (Nat.le_of_ble_eq_true rfl) rfl rfl ?_
      refine jm_iload (Y := YX5_share) (pc := 90) dX5_share_90 rfl ?_
      refine jm_ild_n (Y := YX5_share) (pc := 92) (i := 1) dX5_share_92 rfl rfl ?_
      refine jm_icmp_geN (Y := YX5_share) (pc := 93) dX5_share_93 rfl (by first | omega | exact jm_lt hb _) (by first | omega | exact jm_lt hb _) (fun h_93 => ?_) (fun h_93 => ?_)
      · refine jm_incN (Y := YX5_share) (pc := 111) (m := 1) (ls' := [_, _, _, _, _, _, _]) dX5_share_111 rfl rfl rfl rfl ?_
        refine jm_goto (Y := YX5_share) (pc := 114) dX5_share_114 rfl ?_
        first | (have e : p_sha w v (k + 1) = p_sha w v k + 1 := (by show p_sha w v k + _ = _; rw [if_pos (by omega)]); rw [← e]; exact ih (k + 1) (by omega) (by omega)) | (have e : p_sha w v (k + 1) = p_sha w v k := (by show p_sha w v k + _ = _; rw [if_neg (by omega), Nat.add_zero]); rw [← e]; exact ih (k + 1) (by omega) (by omega)) | fail
      · refine jm_ald_n (Y := YX5_share) (pc := 96) (i := 0) dX5_share_96 rfl rfl ?_
        refine jm_getR (Y := YX5_share) (pc := 97) dX5_share_97 fr_RX5_33 rfl (by decide) rfl ?_
        refine jm_iload (Y := YX5_share) (pc := 100) dX5_share_100 rfl ?_
        refine jm_V1ie (Y := YX5_share) (pc := 102) dX5_share_102 lk_RX5_156 ⟨_, rfl⟩ (by first | exact jm_obR ha | exact jm_obR hb | rfl) rfl (by decide) (Nat.le_of_ble_eq_true rfl) ⟨by decide, by decide⟩ (m_sizeOf 0 (by decide) w _ hR hg _ (by omega)) ?_
        refine jm_if_leN (Y := YX5_share) (pc := 105) dX5_share_105 rfl (by first | omega | exact jm_lt hb _) (fun h_105 => ?_) (fun h_105 => ?_)
        · refine jm_incN (Y := YX5_share) (pc := 111) (m := 1) (ls' := [_, _, _, _, _, _, _]) dX5_share_111 rfl rfl rfl rfl ?_
          refine jm_goto (Y := YX5_share) (pc := 114) dX5_share_114 rfl ?_
          first | (have e : p_sha w v (k + 1) = p_sha w v k + 1 := (by show p_sha w v k + _ = _; rw [if_pos (by omega)]); rw [← e]; exact ih (k + 1) (by omega) (by omega)) | (have e : p_sha w v (k + 1) = p_sha w v k := (by show p_sha w v k + _ = _; rw [if_neg (by omega), Nat.add_zero]); rw [← e]; exact ih (k + 1) (by omega) (by omega)) | fail
        · refine jm_incN (Y := YX5_share) (pc := 108) (m := 1) (ls' := [_, _, _, _, _, _, _]) dX5_share_108 rfl rfl rfl rfl ?_
          refine jm_incN (Y := YX5_share) (pc := 111) (m := 1) (ls' := [_, _, _, _, _, _, _]) dX5_share_111 rfl rfl rfl rfl ?_
          refine jm_goto (Y := YX5_share) (pc := 114) dX5_share_114 rfl ?_
          first | (have e : p_sha w v (k + 1) = p_sha w v k + 1 := (by show p_sha w v k + _ = _; rw [if_pos (by omega)]); rw [← e]; exact ih (k + 1) (by omega) (by omega)) | (have e : p_sha w v (k + 1) = p_sha w v k := (by show p_sha w v k + _ = _; rw [if_neg (by omega), Nat.add_zero]); rw [← e]; exact ih (k + 1) (by omega) (by omega)) | fail
theorem w_share (w : Nat → Nat) (M : jm_M) (hR : RV M 0 w) (hg : rG w) (hm : w 4 ≤ 9999) (v n : Int32) : jm_J none YX5_share 0 [some (.ref 0), some (.int v), some (.int n), none, none, none, none] [] M (jm_t M (q_share w v n)) := by
  have hb := hg.hb
  have g0 := hg.1.1
  have g1 := hg.1.2.1
  have g2 := hg.1.2.2.1
  have g3 := hg.1.2.2.2.1
  have g4 := hg.1.2.2.2.2
  refine jm_ald_n (Y := YX5_share) (pc := 0) (i := 0) dX5_share_0 rfl rfl ?_
  refine jm_getR (Y := YX5_share) (pc := 1) dX5_share_1 fr_RX5_33 rfl (by decide) rfl ?_
  refine jm_ild_n (Y := YX5_share) (pc := 4) (i := 1) dX5_share_4 rfl rfl ?_
  refine jm_V1ie (Y := YX5_share) (pc := 5) dX5_share_5 lk_RX5_150 ⟨_, rfl⟩ (by first | exact jm_obR ha | exact jm_obR hb | rfl) rfl (by decide) (Nat.le_of_ble_eq_true rfl) ⟨by decide, by decide⟩ (m_hasWord 0 (by decide) w _ hR hg _) ?_
  refine jm_if_eqB (Y := YX5_share) (pc := 8) dX5_share_8 rfl (fun h_8 => ?_) (fun h_8 => ?_)
  · refine jm_ldc (Y := YX5_share) (pc := 22) (v := -1000001) dX5_share_22 kc_RX5_64 ?_
    refine jm_ret (Y := YX5_share) (pc := 24) (st := []) dX5_share_24 rfl rfl ?_
    unfold q_share
    first | exact jm_ti (Eq.symm (by rw [if_neg (by omega)])) (RF_0 1 M) | exact jm_ti (Eq.symm (by rw [if_pos (by omega), n_k, n_N, if_pos (by omega)]; rfl)) (RF_0 1 M) | fail
  · refine jm_ild_n (Y := YX5_share) (pc := 11) (i := 2) dX5_share_11 rfl rfl ?_
    refine jm_icN (Y := YX5_share) (pc := 12) 0 dX5_share_12 rfl ?_
    refine jm_spN (Y := YX5_share) (pc := 13) 999 dX5_share_13 rfl ?_
    refine jm_S3ie (Y := YX5_share) (pc := 16) dX5_share_16 lk_RX5_98 ⟨_, rfl⟩ rfl rfl rfl (by decide) (Nat.le_of_ble_eq_true rfl) ⟨by decide, by decide⟩ (w_wiN _ _ _ _ (by decide) (by decide)) ?_
    refine jm_if_neB (Y := YX5_share) (pc := 19) dX5_share_19 rfl (fun h_19 => ?_) (fun h_19 => ?_)
    · obtain ⟨k, h_k, rfl, t_k, n_k⟩ := jm_ofL (v := v) (n := w 3) (by omega) (by omega)
      obtain ⟨N, h_N, rfl, t_N, n_N⟩ := jm_ofL (v := n) (n := 1000) (by omega) (by omega)
      have s1 := p_sm_ge w k (w 3) (by omega)
      have s2 := p_sm_le hg (w 3) (by omega)
      refine jm_ald_n (Y := YX5_share) (pc := 25) (i := 0) dX5_share_25 rfl rfl ?_
      refine jm_getR (Y := YX5_share) (pc := 26) dX5_share_26 fr_RX5_33 rfl (by decide) rfl ?_
      refine jm_icN (Y := YX5_share) (pc := 29) 0 dX5_share_29 rfl ?_
      refine jm_V1ie (Y := YX5_share) (pc := 30) dX5_share_30 lk_RX5_198 ⟨_, rfl⟩ (by first | exact jm_obR ha | exact jm_obR hb | rfl) rfl (by decide) (Nat.le_of_ble_eq_true rfl) ⟨by decide, by decide⟩ ((show jm_J none YX2_quarrelBehind 0 _ [] _ (jm_is (some (.int (nI (p_sm w (w 3))))) M) from m_quarrel 0 (by decide) w M hR hg 0 (by omega))) ?_
      refine jm_ist_n (Y := YX5_share) (pc := 33) (i := 3) (ls' := [_, _, _, _, _, _, _]) dX5_share_33 rfl (Nat.le_of_ble_eq_true rfl) rfl rfl ?_
      refine jm_ild_n (Y := YX5_share) (pc := 34) (i := 3) dX5_share_34 rfl rfl ?_
      refine jm_if_eqN (Y := YX5_share) (pc := 35) dX5_share_35 rfl (by first | omega | exact jm_lt hb _) (fun h_35 => ?_) (fun h_35 => ?_)
      · refine jm_icN (Y := YX5_share) (pc := 49) 0 dX5_share_49 rfl ?_
        refine jm_ret (Y := YX5_share) (pc := 50) (st := []) dX5_share_50 rfl rfl ?_
        unfold q_share
        first | exact jm_ti (Eq.symm (by rw [if_neg (by omega)])) (RF_0 1 M) | exact jm_ti (Eq.symm (by rw [if_pos (by omega), n_k, n_N, if_pos (by omega)]; rfl)) (RF_0 1 M) | fail
      · refine jm_ald_n (Y := YX5_share) (pc := 38) (i := 0) dX5_share_38 rfl rfl ?_
        refine jm_getR (Y := YX5_share) (pc := 39) dX5_share_39 fr_RX5_33 rfl (by decide) rfl ?_
        refine jm_ild_n (Y := YX5_share) (pc := 42) (i := 1) dX5_share_42 rfl rfl ?_
        refine jm_V1ie (Y := YX5_share) (pc := 43) dX5_share_43 lk_RX5_156 ⟨_, rfl⟩ (by first | exact jm_obR ha | exact jm_obR hb | rfl) rfl (by decide) (Nat.le_of_ble_eq_true rfl) ⟨by decide, by decide⟩ (m_sizeOf 0 (by decide) w _ hR hg _ (by omega)) ?_
        refine jm_if_neN (Y := YX5_share) (pc := 46) dX5_share_46 rfl (by first | omega | exact jm_lt hb _) (fun h_46 => ?_) (fun h_46 => ?_)
        · refine jm_ild_n (Y := YX5_share) (pc := 51) (i := 2) dX5_share_51 rfl rfl ?_
          refine jm_ist (Y := YX5_share) (pc := 52) (ls' := [_, _, _, _, _, _, _]) dX5_share_52 (Nat.le_of_ble_eq_true rfl) rfl rfl ?_
          refine jm_icN (Y := YX5_share) (pc := 54) 0 dX5_share_54 rfl ?_
          refine jm_ist (Y := YX5_share) (pc := 55) (ls' := [_, _, _, _, _, _, _]) dX5_share_55 (Nat.le_of_ble_eq_true rfl) rfl rfl ?_
          refine jm_icN (Y := YX5_share) (pc := 57) 0 dX5_share_57 rfl ?_
          refine jm_ist (Y := YX5_share) (pc := 58) (ls' := [_, _, _, _, _, _, _]) dX5_share_58 (Nat.le_of_ble_eq_true rfl) rfl rfl ?_
          have e : q_share w (nI k) (nI N) = p_shr w k N := (by unfold q_share; rw [if_pos (by omega), n_k, n_N, if_neg (by omega)])
          rw [e]
          exact w_share0 w M hR hg hm k N (by omega) (by omega) (by omega) (w 3 + 1) 0 (by omega) (by omega)
        · refine jm_icN (Y := YX5_share) (pc := 49) 0 dX5_share_49 rfl ?_
          refine jm_ret (Y := YX5_share) (pc := 50) (st := []) dX5_share_50 rfl rfl ?_
          unfold q_share
          first | exact jm_ti (Eq.symm (by rw [if_neg (by omega)])) (RF_0 1 M) | exact jm_ti (Eq.symm (by rw [if_pos (by omega), n_k, n_N, if_pos (by omega)]; rfl)) (RF_0 1 M) | fail
    · refine jm_ldc (Y := YX5_share) (pc := 22) (v := -1000001) dX5_share_22 kc_RX5_64 ?_
      refine jm_ret (Y := YX5_share) (pc := 24) (st := []) dX5_share_24 rfl rfl ?_
      unfold q_share
      first | exact jm_ti (Eq.symm (by rw [if_neg (by omega)])) (RF_0 1 M) | exact jm_ti (Eq.symm (by rw [if_pos (by omega), n_k, n_N, if_pos (by omega)]; rfl)) (RF_0 1 M) | fail
theorem p_cm_s (w : Nat → Nat) (n c : Nat) : p_cm w n (c + 1) = if (p_cm w n c).1 = none ∨ p_cs w n c < (p_cm w n c).2 then (some c, p_cs w n c) else p_cm w n c := rfl
theorem w_calm0 (w : Nat → Nat) (M0 : jm_M) (hR0 : RV M0 0 w) (hg : rG w) (hm : w 4 ≤ 9999) (h2 : 0 < w 2) (N : Nat) (hN : N ≤ 30) (a : Int32) : ∀ (m : Nat) (c wh le : Nat) (l6 : Option Value) (M : jm_M), c ≤ w 2 → (c = 0 ∨ p_cm w N c = (some wh, le)) → le ≤ 420 → wh ≤ 12 → RV M 1 w → RF 1 M0 M → w 2 - c < m → jm_J none YX5_calm 51 [some (.ref 0), some (.int (nI N)), some (.int a), some (.int (nI wh)), some (.int (nI le)), some (.int (nI c)), l6] [] M (jm_t M0 (if a.toInt = 0 then jm_o (p_cm w N (w 2)).1 else nI (p_cm w N (w 2)).2)) := by
  intro m
  induction m with
  | zero => intros; omega
  | succ m ih =>
    intro c wh le l6 M hc hI hle hwh hT hF hmm
    have hb := hg.hb
    have g0 := hg.1.1
    have g1 := hg.1.2.1
    have g2 := hg.1.2.2.1
    have g3 := hg.1.2.2.2.1
    have g4 := hg.1.2.2.2.2
    have hR := RF_R0 hF hR0
    refine jm_iload (Y := YX5_calm) (pc := 51) dX5_calm_51 rfl ?_
    refine jm_ald_n (Y := YX5_calm) (pc := 53) (i := 0) dX5_calm_53 rfl rfl ?_
    refine jm_getR (Y := YX5_calm) (pc := 54) dX5_calm_54 fr_RX5_33 rfl (by decide) rfl ?_
    refine jm_getE (Y := YX5_calm) (pc := 57) dX5_calm_57 fw_RX5_127 (by first | exact jm_obR ha | exact jm_obR hb | rfl) (by decide) (by first | exact jm_rf0 | rfl) (hR.1.1) ?_
    refine jm_icmp_geN (Y := YX5_calm) (pc := 60) dX5_calm_60 rfl (by first | omega | exact jm_lt hb _) (by first | omega | exact jm_lt hb _) (fun h_60 => ?_) (fun h_60 => ?_)
    · refine jm_ild_n (Y := YX5_calm) (pc := 129) (i := 2) dX5_calm_129 rfl rfl ?_
      refine jm_if_ne (Y := YX5_calm) (pc := 130) dX5_calm_130 rfl (fun h_130 => ?_) (fun h_130 => ?_)
      · refine jm_iload (Y := YX5_calm) (pc := 137) dX5_calm_137 rfl ?_
        refine jm_ret (Y := YX5_calm) (pc := 139) (st := []) dX5_calm_139 rfl rfl ?_
        have ec : c = w 2 := by omega
        have e9 : p_cm w N (w 2) = (some wh, le) := by rw [← ec]; exact hI.resolve_left (by omega)
        rw [e9]
        first
          | (rw [if_pos (i_z.mp h_130)]; exact jm_ti rfl hF)
          | (rw [if_neg (fun z => h_130 (i_z.mpr z))]; exact jm_ti rfl hF)
          | fail
      · refine jm_ild_n (Y := YX5_calm) (pc := 133) (i := 3) dX5_calm_133 rfl rfl ?_
        refine jm_goto (Y := YX5_calm) (pc := 134) dX5_calm_134 rfl ?_
        refine jm_ret (Y := YX5_calm) (pc := 139) (st := []) dX5_calm_139 rfl rfl ?_
        have ec : c = w 2 := by omega
        have e9 : p_cm w N (w 2) = (some wh, le) := by rw [← ec]; exact hI.resolve_left (by omega)
        rw [e9]
        first
          | (rw [if_pos (i_z.mp h_130)]; exact jm_ti rfl hF)
          | (rw [if_neg (fun z => h_130 (i_z.mpr z))]; exact jm_ti rfl hF)
          | fail
    · refine jm_ald_n (Y := YX5_calm) (pc := 63) (i := 0) dX5_calm_63 rfl rfl ?_
      refine jm_getR (Y := YX5_calm) (pc := 64) dX5_calm_64 fr_RX5_37 rfl (by decide) rfl ?_
      refine jm_getR (Y := YX5_calm) (pc := 67) dX5_calm_67 fr_RX5_167 (by first | exact jm_obR ha | exact jm_obR hb | rfl) (by decide) (by first | exact jm_rf5 | rfl) ?_
      refine jm_iload (Y := YX5_calm) (pc := 70) dX5_calm_70 rfl ?_
      refine jm_icN (Y := YX5_calm) (pc := 72) 0 dX5_calm_72 rfl ?_
      refine jm_iasN (Y := YX5_calm) (pc := 73) dX5_calm_73 rfl (by omega) ?_
      have hT2 : RV (jm_sf M 37 (upd (M 37) c (nI 0))) 1 (wU w (5 + c) 0) := RV_sp hT (c := c) 0 (by omega)
      have hG := hg.sp (c := c) (v := 0) (by omega) (by omega)
      have u3 : wU w (5 + c) 0 3 = w 3 := wU_n _ _ (by omega)
      have u4 : wU w (5 + c) 0 4 = w 4 := wU_n _ _ (by omega)
      have sl0 := p_sm_le (p_on_rG hG N (by omega)) (w 3) (by omega)
      have sl : p_cs w N c ≤ 420 := Nat.le_trans sl0 (by omega)
      refine jm_ald_n (Y := YX5_calm) (pc := 74) (i := 0) dX5_calm_74 rfl rfl ?_
      refine jm_getR (Y := YX5_calm) (pc := 75) dX5_calm_75 fr_RX5_37 rfl (by decide) rfl ?_
      refine jm_ild_n (Y := YX5_calm) (pc := 78) (i := 1) dX5_calm_78 rfl rfl ?_
      refine jm_V1ie (Y := YX5_calm) (pc := 79) dX5_calm_79 lk_RX5_198 ⟨_, rfl⟩ (by first | exact jm_obR ha | exact jm_obR hb | rfl) rfl (by decide) (Nat.le_of_ble_eq_true rfl) ⟨by decide, by decide⟩ ((show jm_J none YX2_quarrelBehind 0 _ [] _ (jm_is (some (.int (nI (p_cs w N c)))) _) from (by have h9 := m_quarrel 1 (by decide) (wU w (5 + c) 0) _ hT2 hG N (by omega); rw [u3] at h9; exact h9))) ?_
      refine jm_ist (Y := YX5_calm) (pc := 82) (ls' := [_, _, _, _, _, _, _]) dX5_calm_82 (Nat.le_of_ble_eq_true rfl) rfl rfl ?_
      refine jm_ald_n (Y := YX5_calm) (pc := 84) (i := 0) dX5_calm_84 rfl rfl ?_
      refine jm_getR (Y := YX5_calm) (pc := 85) dX5_calm_85 fr_RX5_37 rfl (by decide) rfl ?_
      refine jm_getR (Y := YX5_calm) (pc := 88) dX5_calm_88 fr_RX5_167 (by first | exact jm_obR ha | exact jm_obR hb | rfl) (by decide) (by first | exact jm_rf5 | rfl) ?_
      refine jm_iload (Y := YX5_calm) (pc := 91) dX5_calm_91 rfl ?_
      refine jm_ald_n (Y := YX5_calm) (pc := 93) (i := 0) dX5_calm_93 rfl rfl ?_
      refine jm_getR (Y := YX5_calm) (pc := 94) dX5_calm_94 fr_RX5_33 rfl (by decide) rfl ?_
      refine jm_getR (Y := YX5_calm) (pc := 97) dX5_calm_97 fr_RX5_167 (by first | exact jm_obR ha | exact jm_obR hb | rfl) (by decide) (by first | exact jm_rf5 | rfl) ?_
      refine jm_iload (Y := YX5_calm) (pc := 100) dX5_calm_100 rfl ?_
      refine jm_ialN (Y := YX5_calm) (pc := 102) dX5_calm_102 (by first | assumption | exact jm_arR1 ha | exact jm_arR2 ha | exact jm_arR3 ha | exact jm_arR1 hb | exact jm_arR2 hb | exact jm_arR3 hb | rfl) (by first | omega | exact jm_lt hb _) ((show _ = nI (w (5 + c)) from hR.2.1 c (by omega))) ?_
      refine jm_iasN (Y := YX5_calm) (pc := 103) dX5_calm_103 rfl (by omega) ?_
      have hT3 := RV_sp hT2 (c := c) (w (5 + c)) (by omega)
      rw [wU_wU, wU_bk] at hT3
      have hF3 := RF_sf (RF_sf hF (upd (M 37) c (nI 0)) (i := 37) (by omega)) (upd (jm_sf M 37 (upd (M 37) c (nI 0)) 37) c (nI (w (5 + c)))) (i := 37) (by omega)
      have es := p_cm_s w N c
      have hI2 : ¬ c = 0 → p_cm w N c = (some wh, le) := fun z => hI.resolve_left z
      refine jm_iload (Y := YX5_calm) (pc := 104) dX5_calm_104 rfl ?_
      refine jm_if_eqN (Y := YX5_calm) (pc := 106) dX5_calm_106 rfl (by first | omega | exact jm_lt hb _) (fun h_106 => ?_) (fun h_106 => ?_)
      · refine jm_iload (Y := YX5_calm) (pc := 116) dX5_calm_116 rfl ?_
        refine jm_ist (Y := YX5_calm) (pc := 118) (ls' := [_, _, _, _, _, _, _]) dX5_calm_118 (Nat.le_of_ble_eq_true rfl) rfl rfl ?_
        refine jm_iload (Y := YX5_calm) (pc := 120) dX5_calm_120 rfl ?_
        refine jm_ist_n (Y := YX5_calm) (pc := 122) (i := 3) (ls' := [_, _, _, _, _, _, _]) dX5_calm_122 rfl (Nat.le_of_ble_eq_true rfl) rfl rfl ?_
        refine jm_incN (Y := YX5_calm) (pc := 123) (m := 1) (ls' := [_, _, _, _, _, _, _]) dX5_calm_123 rfl rfl rfl rfl ?_
        refine jm_goto (Y := YX5_calm) (pc := 126) dX5_calm_126 rfl ?_
        first
          | (have e9 : p_cm w N (c + 1) = (some c, p_cs w N c) := (by rw [es]; by_cases z : c = 0; (subst z; exact if_pos (Or.inl rfl)); (rw [hI2 z]; exact if_pos (Or.inr (show p_cs w N c < le by omega)))); exact ih (c + 1) c (p_cs w N c) _ _ (by omega) (Or.inr e9) (by omega) (by omega) hT3 hF3 (by omega))
          | (have e9 : p_cm w N (c + 1) = (some wh, le) := (by rw [es, hI2 (by omega)]; exact if_neg (fun z => z.elim (fun y => by cases y) (fun y => by have : p_cs w N c < le := y; omega))); exact ih (c + 1) wh le _ _ (by omega) (Or.inr e9) (by omega) (by omega) hT3 hF3 (by omega))
          | fail
      · refine jm_iload (Y := YX5_calm) (pc := 109) dX5_calm_109 rfl ?_
        refine jm_iload (Y := YX5_calm) (pc := 111) dX5_calm_111 rfl ?_
        refine jm_icmp_geN (Y := YX5_calm) (pc := 113) dX5_calm_113 rfl (by first | omega | exact jm_lt hb _) (by first | omega | exact jm_lt hb _) (fun h_113 => ?_) (fun h_113 => ?_)
        · refine jm_incN (Y := YX5_calm) (pc := 123) (m := 1) (ls' := [_, _, _, _, _, _, _]) dX5_calm_123 rfl rfl rfl rfl ?_
          refine jm_goto (Y := YX5_calm) (pc := 126) dX5_calm_126 rfl ?_
          first
            | (have e9 : p_cm w N (c + 1) = (some c, p_cs w N c) := (by rw [es]; by_cases z : c = 0; (subst z; exact if_pos (Or.inl rfl)); (rw [hI2 z]; exact if_pos (Or.inr (show p_cs w N c < le by omega)))); exact ih (c + 1) c (p_cs w N c) _ _ (by omega) (Or.inr e9) (by omega) (by omega) hT3 hF3 (by omega))
            | (have e9 : p_cm w N (c + 1) = (some wh, le) := (by rw [es, hI2 (by omega)]; exact if_neg (fun z => z.elim (fun y => by cases y) (fun y => by have : p_cs w N c < le := y; omega))); exact ih (c + 1) wh le _ _ (by omega) (Or.inr e9) (by omega) (by omega) hT3 hF3 (by omega))
            | fail
        · refine jm_iload (Y := YX5_calm) (pc := 116) dX5_calm_116 rfl ?_
          refine jm_ist (Y := YX5_calm) (pc := 118) (ls' := [_, _, _, _, _, _, _]) dX5_calm_118 (Nat.le_of_ble_eq_true rfl) rfl rfl ?_
          refine jm_iload (Y := YX5_calm) (pc := 120) dX5_calm_120 rfl ?_
          refine jm_ist_n (Y := YX5_calm) (pc := 122) (i := 3) (ls' := [_, _, _, _, _, _, _]) dX5_calm_122 rfl (Nat.le_of_ble_eq_true rfl) rfl rfl ?_
          refine jm_incN (Y := YX5_calm) (pc := 123) (m := 1) (ls' := [_, _, _, _, _, _, _]) dX5_calm_123 rfl rfl rfl rfl ?_
          refine jm_goto (Y := YX5_calm) (pc := 126) dX5_calm_126 rfl ?_
          first
            | (have e9 : p_cm w N (c + 1) = (some c, p_cs w N c) := (by rw [es]; by_cases z : c = 0; (subst z; exact if_pos (Or.inl rfl)); (rw [hI2 z]; exact if_pos (Or.inr (show p_cs w N c < le by omega)))); exact ih (c + 1) c (p_cs w N c) _ _ (by omega) (Or.inr e9) (by omega) (by omega) hT3 hF3 (by omega))
            | (have e9 : p_cm w N (c + 1) = (some wh, le) := (by rw [es, hI2 (by omega)]; exact if_neg (fun z => z.elim (fun y => by cases y) (fun y => by have : p_cs w N c < le := y; omega))); exact ih (c + 1) wh le _ _ (by omega) (Or.inr e9) (by omega) (by omega) hT3 hF3 (by omega))
            | fail
theorem w_calm (w : Nat → Nat) (M : jm_M) (hR : RV M 0 w) (hg : rG w) (hm : w 4 ≤ 9999) (n a : Int32) : jm_J none YX5_calm 0 [some (.ref 0), some (.int n), some (.int a), none, none, none, none] [] M (jm_t M (q_calm w n a)) := by
  have hb := hg.hb
  have g0 := hg.1.1
  have g1 := hg.1.2.1
  have g2 := hg.1.2.2.1
  have g3 := hg.1.2.2.2.1
  have g4 := hg.1.2.2.2.2
  refine jm_ald_n (Y := YX5_calm) (pc := 0) (i := 0) dX5_calm_0 rfl rfl ?_
  refine jm_V0ie (Y := YX5_calm) (pc := 1) dX5_calm_1 lk_RX5_133 ⟨_, rfl⟩ rfl (by decide) (Nat.le_of_ble_eq_true rfl) ⟨by decide, by decide⟩ (w_hasRiver w _ hR hg hm) ?_
  refine jm_if_neB (Y := YX5_calm) (pc := 4) dX5_calm_4 rfl (fun h_4 => ?_) (fun h_4 => ?_)
  · refine jm_ild_n (Y := YX5_calm) (pc := 10) (i := 1) dX5_calm_10 rfl rfl ?_
    refine jm_icN (Y := YX5_calm) (pc := 11) 1 dX5_calm_11 rfl ?_
    refine jm_bpN (Y := YX5_calm) (pc := 12) 30 dX5_calm_12 rfl ?_
    refine jm_S3ie (Y := YX5_calm) (pc := 14) dX5_calm_14 lk_RX5_98 ⟨_, rfl⟩ rfl rfl rfl (by decide) (Nat.le_of_ble_eq_true rfl) ⟨by decide, by decide⟩ (w_wiN _ _ _ _ (by decide) (by decide)) ?_
    refine jm_if_eqB (Y := YX5_calm) (pc := 17) dX5_calm_17 rfl (fun h_17 => ?_) (fun h_17 => ?_)
    · refine jm_ldc (Y := YX5_calm) (pc := 29) (v := -1000001) dX5_calm_29 kc_RX5_64 ?_
      refine jm_ret (Y := YX5_calm) (pc := 31) (st := []) dX5_calm_31 rfl rfl ?_
      unfold q_calm
      first | exact jm_ti (Eq.symm (by rw [if_pos (by omega)])) (RF_0 1 M) | exact jm_ti (Eq.symm (by rw [if_neg (by omega), if_neg (by omega)])) (RF_0 1 M) | fail
    · refine jm_ild_n (Y := YX5_calm) (pc := 20) (i := 2) dX5_calm_20 rfl rfl ?_
      refine jm_icN (Y := YX5_calm) (pc := 21) 0 dX5_calm_21 rfl ?_
      refine jm_icN (Y := YX5_calm) (pc := 22) 1 dX5_calm_22 rfl ?_
      refine jm_S3ie (Y := YX5_calm) (pc := 23) dX5_calm_23 lk_RX5_98 ⟨_, rfl⟩ rfl rfl rfl (by decide) (Nat.le_of_ble_eq_true rfl) ⟨by decide, by decide⟩ (w_wiN _ _ _ _ (by decide) (by decide)) ?_
      refine jm_if_neB (Y := YX5_calm) (pc := 26) dX5_calm_26 rfl (fun h_26 => ?_) (fun h_26 => ?_)
      · obtain ⟨N, h_N, rfl, t_N, n_N⟩ := jm_ofL (v := n) (n := 31) (by omega) (by omega)
        refine jm_ald_n (Y := YX5_calm) (pc := 32) (i := 0) dX5_calm_32 rfl rfl ?_
        refine jm_getR (Y := YX5_calm) (pc := 33) dX5_calm_33 fr_RX5_37 rfl (by decide) rfl ?_
        refine jm_ald_n (Y := YX5_calm) (pc := 36) (i := 0) dX5_calm_36 rfl rfl ?_
        refine jm_getR (Y := YX5_calm) (pc := 37) dX5_calm_37 fr_RX5_33 rfl (by decide) rfl ?_
        refine jm_V1v (Y := YX5_calm) (pc := 40) dX5_calm_40 lk_RX5_120 rfl (by first | exact jm_obR ha | exact jm_obR hb | rfl) rfl (by decide) (Nat.le_of_ble_eq_true rfl) ⟨by decide, by decide⟩ (m_become 1 0 (by decide) (by decide) (by decide) w M hR (by omega) (by omega)) (fun M_40 q_40 => ?_)
        refine jm_icN (Y := YX5_calm) (pc := 43) 0 dX5_calm_43 rfl ?_
        refine jm_ist_n (Y := YX5_calm) (pc := 44) (i := 3) (ls' := [_, _, _, _, _, _, _]) dX5_calm_44 rfl (Nat.le_of_ble_eq_true rfl) rfl rfl ?_
        refine jm_icN (Y := YX5_calm) (pc := 45) 0 dX5_calm_45 rfl ?_
        refine jm_ist (Y := YX5_calm) (pc := 46) (ls' := [_, _, _, _, _, _, _]) dX5_calm_46 (Nat.le_of_ble_eq_true rfl) rfl rfl ?_
        refine jm_icN (Y := YX5_calm) (pc := 48) 0 dX5_calm_48 rfl ?_
        refine jm_ist (Y := YX5_calm) (pc := 49) (ls' := [_, _, _, _, _, _, _]) dX5_calm_49 (Nat.le_of_ble_eq_true rfl) rfl rfl ?_
        have e : q_calm w (nI N) a = (if a.toInt = 0 then jm_o (p_cm w N (w 2)).1 else nI (p_cm w N (w 2)).2) := (by unfold q_calm; rw [if_neg (by omega), if_pos (by omega), n_N])
        rw [e]
        obtain ⟨-, hV, hF⟩ := q_40
        exact w_calm0 w M hR hg hm (by omega) N (by omega) a (w 2 + 1) 0 0 0 none M_40 (by omega) (Or.inl rfl) (by omega) (by omega) hV hF (by omega)
      · refine jm_ldc (Y := YX5_calm) (pc := 29) (v := -1000001) dX5_calm_29 kc_RX5_64 ?_
        refine jm_ret (Y := YX5_calm) (pc := 31) (st := []) dX5_calm_31 rfl rfl ?_
        unfold q_calm
        first | exact jm_ti (Eq.symm (by rw [if_pos (by omega)])) (RF_0 1 M) | exact jm_ti (Eq.symm (by rw [if_neg (by omega), if_neg (by omega)])) (RF_0 1 M) | fail
  · refine jm_ldc (Y := YX5_calm) (pc := 7) (v := -1000002) dX5_calm_7 kc_RX5_136 ?_
    refine jm_ret (Y := YX5_calm) (pc := 9) (st := []) dX5_calm_9 rfl rfl ?_
    unfold q_calm
    first | exact jm_ti (Eq.symm (by rw [if_pos (by omega)])) (RF_0 1 M) | exact jm_ti (Eq.symm (by rw [if_neg (by omega), if_neg (by omega)])) (RF_0 1 M) | fail
theorem w_draw {w v : Nat → Nat} {M : jm_M} {x : Nat} (hx : x < 2147483647) (hT : RV M 1 v) (hG : rG v) (e2 : v 2 = w 2) (e3 : v 3 = w 3) (h2 : 0 < w 2) : jm_J none YX2_sayDrawn 0 [some (.ref 36), some (.int (nI x)), none] [] (jm_sf M 36 (upd (M 36) 3 (nI (x % 16)))) (fun o M1 => o = some (.int (nI (p_d2 w x v))) ∧ RV M1 1 (p_d1 w x v) ∧ RF 1 M M1) := by
  have hT2 : RV (jm_sf M 36 (upd (M 36) 3 (nI (x % 16)))) 1 (wU v 0 (x % 16)) := RV_0 hT _
  have hG2 := hG.up0 (v := x % 16) (by have := Nat.mod_lt x (show 0 < 16 by decide); omega)
  have u2 : wU v 0 (x % 16) 2 = w 2 := by rw [wU_n _ _ (by decide), e2]
  have u3 : wU v 0 (x % 16) 3 = w 3 := by rw [wU_n _ _ (by decide), e3]
  have ug : wU v 0 (x % 16) (17 + 4 * (x % w 3) + 3) = v (17 + 4 * (x % w 3) + 3) := wU_n _ _ (by omega)
  refine jm_wk (m_sayDrawn 1 (by decide) (wU v 0 (x % 16)) _ hT2 hG2 x hx) (fun o M1 q => ?_)
  rw [u2, u3, ug] at q
  by_cases z : 0 < w 3 ∧ v (17 + 4 * (x % w 3) + 3) = 1
  · have ed1 : p_d1 w x v = p_says (wU v 0 (x % 16)) (x % w 3) (x % 60 + 1) (x % w 2) := if_pos z
    have ed2 : p_d2 w x v = 1 := if_pos z
    rw [if_pos ⟨z.1, h2, z.2⟩] at q
    rw [ed1, ed2]
    exact ⟨q.1, q.2.1, fun i hi => by rw [q.2.2 i hi, jm_sf_n _ _ (by omega)]⟩
  · have ed1 : p_d1 w x v = wU v 0 (x % 16) := if_neg z
    have ed2 : p_d2 w x v = 0 := if_neg z
    rw [if_neg (fun y => z ⟨y.1, y.2.2⟩)] at q
    rw [ed1, ed2, q.2]
    exact ⟨q.1, hT2, fun i hi => by rw [jm_sf_n _ _ (by omega)]⟩
theorem p_d2_le (w : Nat → Nat) (x : Nat) (v : Nat → Nat) : p_d2 w x v ≤ 1 := by
  unfold p_d2
  split <;> omega
theorem p_do_s (w : Nat → Nat) (sd k : Nat) : p_do w sd (k + 1) = p_do w sd k + p_d2 w (p_dx sd (k + 1)) (p_dr w sd k) := rfl
theorem w_drawn0 (w : Nat → Nat) (M0 : jm_M) (hR0 : RV M0 0 w) (hg : rG w) (hm : w 4 ≤ 9999) (h2 : 0 < w 2) (N sd : Nat) (a : Int32) (hN : N ≤ 60) (hs : sd ≤ 999999) : ∀ (m : Nat) (k : Nat) (M : jm_M), k ≤ N → RV M 1 (p_dr w sd k) → RF 1 M0 M → N - k < m → jm_J none YX5_drawn 63 [some (.ref 0), some (.int (nI N)), some (.int (nI sd)), some (.int a), some (.long (lN (p_dx sd k))), none, some (.int (nI (p_do w sd k))), some (.int (nI k))] [] M (jm_t M0 (if a.toInt = 0 then nI (p_sm (p_dr w sd N) (w 3)) else nI (p_do w sd N))) := by
  intro m
  induction m with
  | zero => intros; omega
  | succ m ih =>
    intro k M hk hT hF hmm
    have h3 := hg.1.2.2.2.1
    have h22 := hg.1.2.2.1
    obtain ⟨hG, e2, e3, e4⟩ := p_dr_f hg h2 sd k (by omega)
    have xl := p_dx_lt (show sd < 2147483647 by omega) k
    have xl1 := p_dx_lt (show sd < 2147483647 by omega) (k + 1)
    have exs : p_dx sd k * 16807 % 2147483647 = p_dx sd (k + 1) := rfl
    have hR := RF_R0 hF hR0
    refine jm_iload (Y := YX5_drawn) (pc := 63) dX5_drawn_63 rfl ?_
    refine jm_ild_n (Y := YX5_drawn) (pc := 65) (i := 1) dX5_drawn_65 rfl rfl ?_
    refine jm_icmp_geN (Y := YX5_drawn) (pc := 66) dX5_drawn_66 rfl (by omega) (by omega) (fun h_66 => ?_) (fun h_66 => ?_)
    · refine jm_ild_n (Y := YX5_drawn) (pc := 124) (i := 3) dX5_drawn_124 rfl rfl ?_
      refine jm_if_ne (Y := YX5_drawn) (pc := 125) dX5_drawn_125 rfl (fun h_125 => ?_) (fun h_125 => ?_)
      · refine jm_iload (Y := YX5_drawn) (pc := 139) dX5_drawn_139 rfl ?_
        refine jm_ret (Y := YX5_drawn) (pc := 141) (st := []) dX5_drawn_141 rfl rfl ?_
        have ek : k = N := by omega
        first
          | (rw [if_pos (i_z.mp h_125), ← ek]; exact jm_ti rfl hF)
          | (rw [if_neg (fun z => h_125 (i_z.mpr z)), ← ek]; exact jm_ti rfl hF)
          | fail
      · refine jm_ald_n (Y := YX5_drawn) (pc := 128) (i := 0) dX5_drawn_128 rfl rfl ?_
        refine jm_getR (Y := YX5_drawn) (pc := 129) dX5_drawn_129 fr_RX5_37 rfl (by decide) rfl ?_
        refine jm_icN (Y := YX5_drawn) (pc := 132) 0 dX5_drawn_132 rfl ?_
        refine jm_V1ie (Y := YX5_drawn) (pc := 133) dX5_drawn_133 lk_RX5_198 ⟨_, rfl⟩ (by first | exact jm_obR ha | exact jm_obR hb | rfl) rfl (by decide) (Nat.le_of_ble_eq_true rfl) ⟨by decide, by decide⟩ ((show jm_J none YX2_quarrelBehind 0 _ [] _ (jm_is (some (.int (nI (p_sm (p_dr w sd k) (w 3))))) _) from (by have h9 := m_quarrel 1 (by decide) (p_dr w sd k) _ hT hG 0 (by omega); rw [e3] at h9; exact h9))) ?_
        refine jm_goto (Y := YX5_drawn) (pc := 136) dX5_drawn_136 rfl ?_
        refine jm_ret (Y := YX5_drawn) (pc := 141) (st := []) dX5_drawn_141 rfl rfl ?_
        have ek : k = N := by omega
        first
          | (rw [if_pos (i_z.mp h_125), ← ek]; exact jm_ti rfl hF)
          | (rw [if_neg (fun z => h_125 (i_z.mpr z)), ← ek]; exact jm_ti rfl hF)
          | fail
    · refine jm_lload (Y := YX5_drawn) (pc := 69) dX5_drawn_69 rfl ?_
      refine jm_ldc2 (Y := YX5_drawn) (pc := 71) (v := lN 16807) dX5_drawn_71 kl_RX5_246 ?_
      refine jm_lmulN (Y := YX5_drawn) (pc := 74) dX5_drawn_74 ?_
      refine jm_ldc2 (Y := YX5_drawn) (pc := 75) (v := lN 2147483647) dX5_drawn_75 kl_RX5_248 ?_
      refine jm_lremN (Y := YX5_drawn) (pc := 78) dX5_drawn_78 (by omega) (by omega) (by omega) ?_
      rw [exs]
      refine jm_lst (Y := YX5_drawn) (pc := 79) (ls' := [_, _, _, _, _, _, _, _]) dX5_drawn_79 (Nat.le_of_ble_eq_true rfl) rfl rfl ?_
      refine jm_ald_n (Y := YX5_drawn) (pc := 81) (i := 0) dX5_drawn_81 rfl rfl ?_
      refine jm_getR (Y := YX5_drawn) (pc := 82) dX5_drawn_82 fr_RX5_37 rfl (by decide) rfl ?_
      refine jm_lload (Y := YX5_drawn) (pc := 85) dX5_drawn_85 rfl ?_
      refine jm_ldc2 (Y := YX5_drawn) (pc := 87) (v := lN 16) dX5_drawn_87 kl_RX5_250 ?_
      refine jm_lremN (Y := YX5_drawn) (pc := 90) dX5_drawn_90 (by omega) (by omega) (by omega) ?_
      refine jm_l2iN (Y := YX5_drawn) (pc := 91) dX5_drawn_91 ?_
      refine jm_put (Y := YX5_drawn) (pc := 92) dX5_drawn_92 fw_RX5_170 (by first | exact jm_obR ha | exact jm_obR hb | rfl) (by decide) (by first | exact jm_rf3 | rfl) ?_
      refine jm_ald_n (Y := YX5_drawn) (pc := 95) (i := 0) dX5_drawn_95 rfl rfl ?_
      refine jm_getR (Y := YX5_drawn) (pc := 96) dX5_drawn_96 fr_RX5_37 rfl (by decide) rfl ?_
      refine jm_lload (Y := YX5_drawn) (pc := 99) dX5_drawn_99 rfl ?_
      refine jm_l2iN (Y := YX5_drawn) (pc := 101) dX5_drawn_101 ?_
      refine jm_V1i (Y := YX5_drawn) (pc := 102) dX5_drawn_102 lk_RX5_252 ⟨_, rfl⟩ (by first | exact jm_obR ha | exact jm_obR hb | rfl) rfl (by decide) (Nat.le_of_ble_eq_true rfl) ⟨by decide, by decide⟩ (w_draw (x := p_dx sd (k + 1)) xl1 hT hG e2 e3 h2) (fun r_102 M_102 q_102 => ?_)
      obtain ⟨er, hV, hF2⟩ := q_102
      cases er
      have hD := p_d1_rG hG e2 e3 h2 (p_dx sd (k + 1))
      have d1 := p_d2_le w (p_dx sd (k + 1)) (p_dr w sd k)
      have eo := p_do_s w sd k
      refine jm_if_eqN (Y := YX5_drawn) (pc := 105) dX5_drawn_105 rfl (by omega) (fun h_105 => ?_) (fun h_105 => ?_)
      · refine jm_ald_n (Y := YX5_drawn) (pc := 111) (i := 0) dX5_drawn_111 rfl rfl ?_
        refine jm_getR (Y := YX5_drawn) (pc := 112) dX5_drawn_112 fr_RX5_37 rfl (by decide) rfl ?_
        refine jm_V0v (Y := YX5_drawn) (pc := 115) dX5_drawn_115 lk_RX5_143 rfl (by first | exact jm_obR ha | exact jm_obR hb | rfl) (by decide) (Nat.le_of_ble_eq_true rfl) ⟨by decide, by decide⟩ (m_passMinute 1 (by decide) (p_d1 w (p_dx sd (k + 1)) (p_dr w sd k)) _ hV hD) (fun M_115 q_115 => ?_)
        obtain ⟨-, hV3, hF3⟩ := q_115
        refine jm_incN (Y := YX5_drawn) (pc := 118) (m := 1) (ls' := [_, _, _, _, _, _, _, _]) dX5_drawn_118 rfl rfl rfl rfl ?_
        refine jm_goto (Y := YX5_drawn) (pc := 121) dX5_drawn_121 rfl ?_
        have hF4 := RF_t (RF_t hF hF2) hF3
        first
          | (rw [show p_do w sd k + 1 = p_do w sd (k + 1) by omega]; exact ih (k + 1) _ (by omega) hV3 hF4 (by omega))
          | (rw [show p_do w sd k = p_do w sd (k + 1) by omega]; exact ih (k + 1) _ (by omega) hV3 hF4 (by omega))
          | fail
      · refine jm_incN (Y := YX5_drawn) (pc := 108) (m := 1) (ls' := [_, _, _, _, _, _, _, _]) dX5_drawn_108 rfl rfl rfl rfl ?_
        refine jm_ald_n (Y := YX5_drawn) (pc := 111) (i := 0) dX5_drawn_111 rfl rfl ?_
        refine jm_getR (Y := YX5_drawn) (pc := 112) dX5_drawn_112 fr_RX5_37 rfl (by decide) rfl ?_
        refine jm_V0v (Y := YX5_drawn) (pc := 115) dX5_drawn_115 lk_RX5_143 rfl (by first | exact jm_obR ha | exact jm_obR hb | rfl) (by decide) (Nat.le_of_ble_eq_true rfl) ⟨by decide, by decide⟩ (m_passMinute 1 (by decide) (p_d1 w (p_dx sd (k + 1)) (p_dr w sd k)) _ hV hD) (fun M_115 q_115 => ?_)
        obtain ⟨-, hV3, hF3⟩ := q_115
        refine jm_incN (Y := YX5_drawn) (pc := 118) (m := 1) (ls' := [_, _, _, _, _, _, _, _]) dX5_drawn_118 rfl rfl rfl rfl ?_
        refine jm_goto (Y := YX5_drawn) (pc := 121) dX5_drawn_121 rfl ?_
        have hF4 := RF_t (RF_t hF hF2) hF3
        first
          | (rw [show p_do w sd k + 1 = p_do w sd (k + 1) by omega]; exact ih (k + 1) _ (by omega) hV3 hF4 (by omega))
          | (rw [show p_do w sd k = p_do w sd (k + 1) by omega]; exact ih (k + 1) _ (by omega) hV3 hF4 (by omega))
          | fail
theorem w_drawn (w : Nat → Nat) (M : jm_M) (hR : RV M 0 w) (hg : rG w) (hm : w 4 ≤ 9999) (n seed a : Int32) : jm_J none YX5_drawn 0 [some (.ref 0), some (.int n), some (.int seed), some (.int a), none, none, none, none] [] M (jm_t M (q_drawn w n seed a)) := by
  have hb := hg.hb
  have g0 := hg.1.1
  have g1 := hg.1.2.1
  have g2 := hg.1.2.2.1
  have g3 := hg.1.2.2.2.1
  have g4 := hg.1.2.2.2.2
  refine jm_ald_n (Y := YX5_drawn) (pc := 0) (i := 0) dX5_drawn_0 rfl rfl ?_
  refine jm_V0ie (Y := YX5_drawn) (pc := 1) dX5_drawn_1 lk_RX5_133 ⟨_, rfl⟩ rfl (by decide) (Nat.le_of_ble_eq_true rfl) ⟨by decide, by decide⟩ (w_hasRiver w _ hR hg hm) ?_
  refine jm_if_neB (Y := YX5_drawn) (pc := 4) dX5_drawn_4 rfl (fun h_4 => ?_) (fun h_4 => ?_)
  · refine jm_ild_n (Y := YX5_drawn) (pc := 10) (i := 1) dX5_drawn_10 rfl rfl ?_
    refine jm_icN (Y := YX5_drawn) (pc := 11) 0 dX5_drawn_11 rfl ?_
    refine jm_bpN (Y := YX5_drawn) (pc := 12) 60 dX5_drawn_12 rfl ?_
    refine jm_S3ie (Y := YX5_drawn) (pc := 14) dX5_drawn_14 lk_RX5_98 ⟨_, rfl⟩ rfl rfl rfl (by decide) (Nat.le_of_ble_eq_true rfl) ⟨by decide, by decide⟩ (w_wiN _ _ _ _ (by decide) (by decide)) ?_
    refine jm_if_eqB (Y := YX5_drawn) (pc := 17) dX5_drawn_17 rfl (fun h_17 => ?_) (fun h_17 => ?_)
    · refine jm_ldc (Y := YX5_drawn) (pc := 39) (v := -1000001) dX5_drawn_39 kc_RX5_64 ?_
      refine jm_ret (Y := YX5_drawn) (pc := 41) (st := []) dX5_drawn_41 rfl rfl ?_
      unfold q_drawn
      first | exact jm_ti (Eq.symm (by rw [if_pos (by omega)])) (RF_0 1 M) | exact jm_ti (Eq.symm (by rw [if_neg (by omega), if_neg (by omega)])) (RF_0 1 M) | fail
    · refine jm_ild_n (Y := YX5_drawn) (pc := 20) (i := 2) dX5_drawn_20 rfl rfl ?_
      refine jm_icN (Y := YX5_drawn) (pc := 21) 1 dX5_drawn_21 rfl ?_
      refine jm_ldc (Y := YX5_drawn) (pc := 22) (v := nI 999999) dX5_drawn_22 kc_RX5_245 ?_
      refine jm_S3ie (Y := YX5_drawn) (pc := 24) dX5_drawn_24 lk_RX5_98 ⟨_, rfl⟩ rfl rfl rfl (by decide) (Nat.le_of_ble_eq_true rfl) ⟨by decide, by decide⟩ (w_wiN _ _ _ _ (by decide) (by decide)) ?_
      refine jm_if_eqB (Y := YX5_drawn) (pc := 27) dX5_drawn_27 rfl (fun h_27 => ?_) (fun h_27 => ?_)
      · refine jm_ldc (Y := YX5_drawn) (pc := 39) (v := -1000001) dX5_drawn_39 kc_RX5_64 ?_
        refine jm_ret (Y := YX5_drawn) (pc := 41) (st := []) dX5_drawn_41 rfl rfl ?_
        unfold q_drawn
        first | exact jm_ti (Eq.symm (by rw [if_pos (by omega)])) (RF_0 1 M) | exact jm_ti (Eq.symm (by rw [if_neg (by omega), if_neg (by omega)])) (RF_0 1 M) | fail
      · refine jm_ild_n (Y := YX5_drawn) (pc := 30) (i := 3) dX5_drawn_30 rfl rfl ?_
        refine jm_icN (Y := YX5_drawn) (pc := 31) 0 dX5_drawn_31 rfl ?_
        refine jm_icN (Y := YX5_drawn) (pc := 32) 1 dX5_drawn_32 rfl ?_
        refine jm_S3ie (Y := YX5_drawn) (pc := 33) dX5_drawn_33 lk_RX5_98 ⟨_, rfl⟩ rfl rfl rfl (by decide) (Nat.le_of_ble_eq_true rfl) ⟨by decide, by decide⟩ (w_wiN _ _ _ _ (by decide) (by decide)) ?_
        refine jm_if_neB (Y := YX5_drawn) (pc := 36) dX5_drawn_36 rfl (fun h_36 => ?_) (fun h_36 => ?_)
        · obtain ⟨N, h_N, rfl, t_N, n_N⟩ := jm_ofL (v := n) (n := 61) (by omega) (by omega)
          obtain ⟨sd, h_sd, rfl, t_sd, n_sd⟩ := jm_ofL (v := seed) (n := 1000000) (by omega) (by omega)
          refine jm_ald_n (Y := YX5_drawn) (pc := 42) (i := 0) dX5_drawn_42 rfl rfl ?_
          refine jm_getR (Y := YX5_drawn) (pc := 43) dX5_drawn_43 fr_RX5_37 rfl (by decide) rfl ?_
          refine jm_ald_n (Y := YX5_drawn) (pc := 46) (i := 0) dX5_drawn_46 rfl rfl ?_
          refine jm_getR (Y := YX5_drawn) (pc := 47) dX5_drawn_47 fr_RX5_33 rfl (by decide) rfl ?_
          refine jm_V1v (Y := YX5_drawn) (pc := 50) dX5_drawn_50 lk_RX5_120 rfl (by first | exact jm_obR ha | exact jm_obR hb | rfl) rfl (by decide) (Nat.le_of_ble_eq_true rfl) ⟨by decide, by decide⟩ (m_become 1 0 (by decide) (by decide) (by decide) w M hR (by omega) (by omega)) (fun M_50 q_50 => ?_)
          refine jm_ild_n (Y := YX5_drawn) (pc := 53) (i := 2) dX5_drawn_53 rfl rfl ?_
          refine jm_i2lN (Y := YX5_drawn) (pc := 54) dX5_drawn_54 (by first | omega | exact jm_lt hb _) ?_
          refine jm_lst (Y := YX5_drawn) (pc := 55) (ls' := [_, _, _, _, _, _, _, _]) dX5_drawn_55 (Nat.le_of_ble_eq_true rfl) rfl rfl ?_
          refine jm_icN (Y := YX5_drawn) (pc := 57) 0 dX5_drawn_57 rfl ?_
          refine jm_ist (Y := YX5_drawn) (pc := 58) (ls' := [_, _, _, _, _, _, _, _]) dX5_drawn_58 (Nat.le_of_ble_eq_true rfl) rfl rfl ?_
          refine jm_icN (Y := YX5_drawn) (pc := 60) 0 dX5_drawn_60 rfl ?_
          refine jm_ist (Y := YX5_drawn) (pc := 61) (ls' := [_, _, _, _, _, _, _, _]) dX5_drawn_61 (Nat.le_of_ble_eq_true rfl) rfl rfl ?_
          have e : q_drawn w (nI N) (nI sd) a = (if a.toInt = 0 then nI (p_sm (p_dr w sd N) (w 3)) else nI (p_do w sd N)) := (by unfold q_drawn; rw [if_neg (by omega), if_pos (by omega), n_N, n_sd])
          rw [e]
          obtain ⟨-, hV, hF⟩ := q_50
          exact w_drawn0 w M hR hg hm (by omega) N sd a (by omega) (by omega) (N + 1) 0 M_50 (by omega) hV hF (by omega)
        · refine jm_ldc (Y := YX5_drawn) (pc := 39) (v := -1000001) dX5_drawn_39 kc_RX5_64 ?_
          refine jm_ret (Y := YX5_drawn) (pc := 41) (st := []) dX5_drawn_41 rfl rfl ?_
          unfold q_drawn
          first | exact jm_ti (Eq.symm (by rw [if_pos (by omega)])) (RF_0 1 M) | exact jm_ti (Eq.symm (by rw [if_neg (by omega), if_neg (by omega)])) (RF_0 1 M) | fail
  · refine jm_ldc (Y := YX5_drawn) (pc := 7) (v := -1000002) dX5_drawn_7 kc_RX5_136 ?_
    refine jm_ret (Y := YX5_drawn) (pc := 9) (st := []) dX5_drawn_9 rfl rfl ?_
    unfold q_drawn
    first | exact jm_ti (Eq.symm (by rw [if_pos (by omega)])) (RF_0 1 M) | exact jm_ti (Eq.symm (by rw [if_neg (by omega), if_neg (by omega)])) (RF_0 1 M) | fail
