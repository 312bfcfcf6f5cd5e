/-! the reference: share, fits, chance, drawn -/
def p_sho (w : Nat → Nat) (n : Nat) : Nat → Int32
  | 0 => nI n
  | k + 1 => p_sho w n k - nI (n * w (17 + 4 * k + 1) / p_sm w (w 3))
def p_sha (w : Nat → Nat) (v : Nat) : Nat → Nat
  | 0 => 0
  | k + 1 => p_sha w v k + (if k < v ∧ 0 < w (17 + 4 * k + 1) then 1 else 0)
def p_shr (w : Nat → Nat) (v n : Nat) : Int32 := nI (n * w (17 + 4 * v + 1) / p_sm w (w 3)) + (if nI (p_sha w v (w 3)) < p_sho w n (w 3) then nI 1 else nI 0)
theorem p_sm_ge (w : Nat → Nat) (v : Nat) : ∀ n, v < n → w (17 + 4 * v + 1) ≤ p_sm w n
  | 0, h => by omega
  | n + 1, h => by
    show _ ≤ p_sm w n + w (17 + 4 * n + 1)
    by_cases e : v = n
    · subst e; omega
    · have := p_sm_ge w v n (by omega)
      omega
theorem p_sha_le (w : Nat → Nat) (v : Nat) : ∀ k, p_sha w v k ≤ k
  | 0 => Nat.le_refl _
  | k + 1 => by
    have := p_sha_le w v k
    show p_sha w v k + _ ≤ k + 1
    split <;> omega
theorem c_share0 (w g : Nat → Nat) (M0 : jm_M) (hM : M0 17 = jm_n w) (hg : rG w) (hz : ∀ j, 45 ≤ j → g j = 0) (hm : w 4 ≤ 9999) (v N : Nat) (hv : v < w 3) (hN : N ≤ 999) (h0 : 0 < w (17 + 4 * v + 1)) : ∀ (m : Nat) (k : Nat), k ≤ w 3 → w 3 - k < m → jm_J none YX6_share 61 [some (.ref 11), some (.int (nI v)), some (.int (nI N)), some (.int (nI (p_sm w (w 3)))), some (.int (nI (w (17 + 4 * v + 1)))), some (.int (p_sho w N k)), some (.int (nI (p_sha w v k))), some (.int (nI k))] [] (jm_sf M0 19 (jm_n g)) (jm_q M0 (p_shr w v N)) := by
  intro m
  induction m with
  | zero => intros; omega
  | succ m ih =>
    intro k hk hmm
    have hb := hg.hb
    have h3 := hg.1.2.2.2.1
    have h2 := hg.1.2.2.1
    have hmul : ∀ k, N * w (17 + 4 * k + 1) ≤ 999 * 20000 := fun k => Nat.mul_le_mul (by omega) (hb _)
    have s1 := p_sm_ge w v (w 3) hv
    have s2 := p_sm_le hg (w 3) (by omega)
    have mk := hmul k
    have mv := hmul v
    refine jm_iload (Y := YX6_share) (pc := 61) dX6_share_61 rfl ?_
    refine jm_ald_n (Y := YX6_share) (pc := 63) (i := 0) dX6_share_63 rfl rfl ?_
    refine jm_getR (Y := YX6_share) (pc := 64) dX6_share_64 fr_RX6_25 rfl (by decide) rfl ?_
    refine jm_icN (Y := YX6_share) (pc := 67) 3 dX6_share_67 rfl ?_
    refine jm_ialN (Y := YX6_share) (pc := 68) dX6_share_68 (by first | assumption | exact jm_arR1 ha | exact jm_arR2 ha | exact jm_arR3 ha | exact jm_arR1 hb | exact jm_arR2 hb | exact jm_arR3 hb | rfl) (by first | omega | exact jm_lt hb _) (by first | assumption | exact jm_rdW | exact jm_rdN (jm_17 hM) | rfl) ?_
    refine jm_icmp_geN (Y := YX6_share) (pc := 69) dX6_share_69 rfl (by first | omega | exact jm_lt hb _) (by first | omega | exact jm_lt hb _) (fun h_69 => ?_) (fun h_69 => ?_)
    · refine jm_ild_n (Y := YX6_share) (pc := 134) (i := 2) dX6_share_134 rfl rfl ?_
      refine jm_iload (Y := YX6_share) (pc := 135) dX6_share_135 rfl ?_
      refine jm_mulN (Y := YX6_share) (pc := 137) dX6_share_137 ?_
      refine jm_ild_n (Y := YX6_share) (pc := 138) (i := 3) dX6_share_138 rfl rfl ?_
      refine jm_divN (Y := YX6_share) (pc := 139) dX6_share_139 (by first | omega | exact jm_lt hb _) (by first | omega | exact jm_lt hb _) (by first | omega | exact jm_lt hb _) ?_
      refine jm_iload (Y := YX6_share) (pc := 140) dX6_share_140 rfl ?_
      refine jm_iload (Y := YX6_share) (pc := 142) dX6_share_142 rfl ?_
      refine jm_icmp_ge (Y := YX6_share) (pc := 144) dX6_share_144 rfl (fun h_144 => ?_) (fun h_144 => ?_)
      · refine jm_icN (Y := YX6_share) (pc := 151) 0 dX6_share_151 rfl ?_
        refine jm_iadd (Y := YX6_share) (pc := 152) dX6_share_152 ?_
        refine jm_ret (Y := YX6_share) (pc := 153) (st := []) dX6_share_153 rfl rfl ?_
        have ek : k = w 3 := by omega
        subst ek
        unfold p_shr
        first | exact jm_qi hz (by rw [if_pos (i_lt h_144)]) | exact jm_qi hz (by rw [if_neg (Int32.not_lt.mpr h_144)]) | fail
      · refine jm_icN (Y := YX6_share) (pc := 147) 1 dX6_share_147 rfl ?_
        refine jm_goto (Y := YX6_share) (pc := 148) dX6_share_148 rfl ?_
        refine jm_iadd (Y := YX6_share) (pc := 152) dX6_share_152 ?_
        refine jm_ret (Y := YX6_share) (pc := 153) (st := []) dX6_share_153 rfl rfl ?_
        have ek : k = w 3 := by omega
        subst ek
        unfold p_shr
        first | exact jm_qi hz (by rw [if_pos (i_lt h_144)]) | exact jm_qi hz (by rw [if_neg (Int32.not_lt.mpr h_144)]) | fail
    · refine jm_iload (Y := YX6_share) (pc := 72) dX6_share_72 rfl ?_
      refine jm_ild_n (Y := YX6_share) (pc := 74) (i := 2) dX6_share_74 rfl rfl ?_
      refine jm_ald_n (Y := YX6_share) (pc := 75) (i := 0) dX6_share_75 rfl rfl ?_
      refine jm_getR (Y := YX6_share) (pc := 76) dX6_share_76 fr_RX6_25 rfl (by decide) rfl ?_
      refine jm_bpN (Y := YX6_share) (pc := 79) 17 dX6_share_79 rfl ?_
      refine jm_icN (Y := YX6_share) (pc := 81) 4 dX6_share_81 rfl ?_
      refine jm_iload (Y := YX6_share) (pc := 82) dX6_share_82 rfl ?_
      refine jm_mulN (Y := YX6_share) (pc := 84) dX6_share_84 ?_
      refine jm_addN (Y := YX6_share) (pc := 85) dX6_share_85 ?_
      refine jm_icN (Y := YX6_share) (pc := 86) 1 dX6_share_86 rfl ?_
      refine jm_addN (Y := YX6_share) (pc := 87) dX6_share_87 ?_
      refine jm_ialN (Y := YX6_share) (pc := 88) dX6_share_88 (by first | assumption | exact jm_arR1 ha | exact jm_arR2 ha | exact jm_arR3 ha | exact jm_arR1 hb | exact jm_arR2 hb | exact jm_arR3 hb | rfl) (by first | omega | exact jm_lt hb _) (by first | assumption | exact jm_rdW | exact jm_rdN (jm_17 hM) | rfl) ?_
      refine jm_mulN (Y := YX6_share) (pc := 89) dX6_share_89 ?_
      refine jm_ild_n (Y := YX6_share) (pc := 90) (i := 3) dX6_share_90 rfl rfl ?_
      refine jm_divN (Y := YX6_share) (pc := 91) dX6_share_91 (by first | omega | exact jm_lt hb _) (by first | omega | exact jm_lt hb _) (by first | omega | exact jm_lt hb _) ?_
      refine jm_isub (Y := YX6_share) (pc := 92) dX6_share_92 ?_
      refine jm_ist (Y := YX6_share) (pc := 93) (ls' := [_, _, _, _, _, _, _, _]) dX6_share_93 (Nat.le_of_ble_eq_true rfl) rfl rfl ?_
      refine jm_iload (Y := YX6_share) (pc := 95) dX6_share_95 rfl ?_
      refine jm_iload (Y := YX6_share) (pc := 97) dX6_share_97 rfl ?_
      refine jm_ild_n (Y := YX6_share) (pc := 99) (i := 1) dX6_share_99 rfl rfl ?_
      refine jm_icmp_geN (Y := YX6_share) (pc := 100) dX6_share_100 rfl (by first | omega | exact jm_lt hb _) (by first | omega | exact jm_lt hb _) (fun h_100 => ?_) (fun h_100 => ?_)
      · refine jm_icN (Y := YX6_share) (pc := 124) 0 dX6_share_124 rfl ?_
        refine jm_addN (Y := YX6_share) (pc := 125) dX6_share_125 ?_
        refine jm_ist (Y := YX6_share) (pc := 126) (ls' := [_, _, _, _, _, _, _, _]) dX6_share_126 (Nat.le_of_ble_eq_true rfl) rfl rfl ?_
        refine jm_incN (Y := YX6_share) (pc := 128) (m := 1) (ls' := [_, _, _, _, _, _, _, _]) dX6_share_128 rfl rfl rfl rfl ?_
        refine jm_goto (Y := YX6_share) (pc := 131) dX6_share_131 rfl ?_
        first | (have e : p_sha w v (k + 1) = p_sha w v k + 1 := (by show p_sha w v k + _ = _; rw [if_pos ⟨h_100, h_117⟩]); rw [← e]; exact ih (k + 1) (by omega) (by omega)) | (have e : p_sha w v (k + 1) = p_sha w v k + 0 := (by show p_sha w v k + _ = _; rw [if_neg (by omega)]); rw [← e]; exact ih (k + 1) (by omega) (by omega)) | fail
      · refine jm_ald_n (Y := YX6_share) (pc := 103) (i := 0) dX6_share_103 rfl rfl ?_
        refine jm_getR (Y := YX6_share) (pc := 104) dX6_share_104 fr_RX6_25 rfl (by decide) rfl ?_
        refine jm_bpN (Y := YX6_share) (pc := 107) 17 dX6_share_107 rfl ?_
        refine jm_icN (Y := YX6_share) (pc := 109) 4 dX6_share_109 rfl ?_
        refine jm_iload (Y := YX6_share) (pc := 110) dX6_share_110 rfl ?_
        refine jm_mulN (Y := YX6_share) (pc := 112) dX6_share_112 ?_
        refine jm_addN (Y := YX6_share) (pc := 113) dX6_share_113 ?_
        refine jm_icN (Y := YX6_share) (pc := 114) 1 dX6_share_114 rfl ?_
        refine jm_addN (Y := YX6_share) (pc := 115) dX6_share_115 ?_
        refine jm_ialN (Y := YX6_share) (pc := 116) dX6_share_116 (by first | assumption | exact jm_arR1 ha | exact jm_arR2 ha | exact jm_arR3 ha | exact jm_arR1 hb | exact jm_arR2 hb | exact jm_arR3 hb | rfl) (by first | omega | exact jm_lt hb _) (by first | assumption | exact jm_rdW | exact jm_rdN (jm_17 hM) | rfl) ?_
        refine jm_if_leN (Y := YX6_share) (pc := 117) dX6_share_117 rfl (by first | omega | exact jm_lt hb _) (fun h_117 => ?_) (fun h_117 => ?_)
        · refine jm_icN (Y := YX6_share) (pc := 124) 0 dX6_share_124 rfl ?_
          refine jm_addN (Y := YX6_share) (pc := 125) dX6_share_125 ?_
          refine jm_ist (Y := YX6_share) (pc := 126) (ls' := [_, _, _, _, _, _, _, _]) dX6_share_126 (Nat.le_of_ble_eq_true rfl) rfl rfl ?_
          refine jm_incN (Y := YX6_share) (pc := 128) (m := 1) (ls' := [_, _, _, _, _, _, _, _]) dX6_share_128 rfl rfl rfl rfl ?_
          refine jm_goto (Y := YX6_share) (pc := 131) dX6_share_131 rfl ?_
          first | (have e : p_sha w v (k + 1) = p_sha w v k + 1 := (by show p_sha w v k + _ = _; rw [if_pos ⟨h_100, h_117⟩]); rw [← e]; exact ih (k + 1) (by omega) (by omega)) | (have e : p_sha w v (k + 1) = p_sha w v k + 0 := (by show p_sha w v k + _ = _; rw [if_neg (by omega)]); rw [← e]; exact ih (k + 1) (by omega) (by omega)) | fail
        · refine jm_icN (Y := YX6_share) (pc := 120) 1 dX6_share_120 rfl ?_
          refine jm_goto (Y := YX6_share) (pc := 121) dX6_share_121 rfl ?_
          refine jm_addN (Y := YX6_share) (pc := 125) dX6_share_125 ?_
          refine jm_ist (Y := YX6_share) (pc := 126) (ls' := [_, _, _, _, _, _, _, _]) dX6_share_126 (Nat.le_of_ble_eq_true rfl) rfl rfl ?_
          refine jm_incN (Y := YX6_share) (pc := 128) (m := 1) (ls' := [_, _, _, _, _, _, _, _]) dX6_share_128 rfl rfl rfl rfl ?_
          refine jm_goto (Y := YX6_share) (pc := 131) dX6_share_131 rfl ?_
          first | (have e : p_sha w v (k + 1) = p_sha w v k + 1 := (by show p_sha w v k + _ = _; rw [if_pos ⟨h_100, h_117⟩]); rw [← e]; exact ih (k + 1) (by omega) (by omega)) | (have e : p_sha w v (k + 1) = p_sha w v k + 0 := (by show p_sha w v k + _ = _; rw [if_neg (by omega)]); rw [← e]; exact ih (k + 1) (by omega) (by omega)) | fail
def q_share (w : Nat → Nat) (v n : Int32) : Int32 := if 0 ≤ v.toInt ∧ v.toInt < w 3 ∧ 0 ≤ n.toInt ∧ n.toInt ≤ 999 then (if w (17 + 4 * v.toInt.toNat + 1) = 0 then 0 else p_shr w v.toInt.toNat n.toInt.toNat) else -1000001
theorem c_share (w g : Nat → Nat) (M0 : jm_M) (hM : M0 17 = jm_n w) (hg : rG w) (hz : ∀ j, 45 ≤ j → g j = 0) (hm : w 4 ≤ 9999) (v n : Int32) : jm_J none YX6_share 0 [some (.ref 11), some (.int v), some (.int n), none, none, none, none, none] [] (jm_sf M0 19 (jm_n g)) (jm_q M0 (q_share w v n)) := by
  have hb := hg.hb
  have h3 := hg.1.2.2.2.1
  have h2 := hg.1.2.2.1
  refine jm_ald_n (Y := YX6_share) (pc := 0) (i := 0) dX6_share_0 rfl rfl ?_
  refine jm_ild_n (Y := YX6_share) (pc := 1) (i := 1) dX6_share_1 rfl rfl ?_
  refine jm_V1ie (Y := YX6_share) (pc := 2) dX6_share_2 lk_RX6_176 ⟨_, rfl⟩ rfl rfl (by decide) (Nat.le_of_ble_eq_true rfl) ⟨by decide, by decide⟩ (c_isWord w _ (jm_17 hM) hg _) ?_
  refine jm_if_eqB (Y := YX6_share) (pc := 5) dX6_share_5 rfl (fun h_5 => ?_) (fun h_5 => ?_)
  · refine jm_ldc (Y := YX6_share) (pc := 19) (v := -1000001) dX6_share_19 kc_RX6_61 ?_
    refine jm_ret (Y := YX6_share) (pc := 21) (st := []) dX6_share_21 rfl rfl ?_
    unfold q_share
    first | exact jm_qi hz (by rw [if_neg (by omega)]) | exact jm_qi hz (by rw [if_pos (by omega), n_k, if_pos h_47]; rfl) | fail
  · refine jm_ild_n (Y := YX6_share) (pc := 8) (i := 2) dX6_share_8 rfl rfl ?_
    refine jm_icN (Y := YX6_share) (pc := 9) 0 dX6_share_9 rfl ?_
    refine jm_spN (Y := YX6_share) (pc := 10) 999 dX6_share_10 rfl ?_
    refine jm_S3ie (Y := YX6_share) (pc := 13) dX6_share_13 lk_RX6_53 ⟨_, rfl⟩ rfl rfl rfl (by decide) (Nat.le_of_ble_eq_true rfl) ⟨by decide, by decide⟩ (c_inN _ _ _ _ (by decide) (by decide)) ?_
    refine jm_if_neB (Y := YX6_share) (pc := 16) dX6_share_16 rfl (fun h_16 => ?_) (fun h_16 => ?_)
    · obtain ⟨k, h_k, rfl, t_k, n_k⟩ := jm_ofL (v := v) (n := w 3) (by omega) (by omega)
      obtain ⟨N, h_N, rfl, t_N, n_N⟩ := jm_ofL (v := n) (n := 1000) (by omega) (by omega)
      refine jm_ald_n (Y := YX6_share) (pc := 22) (i := 0) dX6_share_22 rfl rfl ?_
      refine jm_getR (Y := YX6_share) (pc := 23) dX6_share_23 fr_RX6_25 rfl (by decide) rfl ?_
      refine jm_S1ie (Y := YX6_share) (pc := 26) dX6_share_26 lk_RX6_196 ⟨_, rfl⟩ rfl (by decide) (Nat.le_of_ble_eq_true rfl) ⟨by decide, by decide⟩ (c_sizes _ w _ rfl (jm_17 hM) hg) ?_
      refine jm_ist_n (Y := YX6_share) (pc := 29) (i := 3) (ls' := [_, _, _, _, _, _, _, _]) dX6_share_29 rfl (Nat.le_of_ble_eq_true rfl) rfl rfl ?_
      refine jm_ald_n (Y := YX6_share) (pc := 30) (i := 0) dX6_share_30 rfl rfl ?_
      refine jm_getR (Y := YX6_share) (pc := 31) dX6_share_31 fr_RX6_25 rfl (by decide) rfl ?_
      refine jm_bpN (Y := YX6_share) (pc := 34) 17 dX6_share_34 rfl ?_
      refine jm_icN (Y := YX6_share) (pc := 36) 4 dX6_share_36 rfl ?_
      refine jm_ild_n (Y := YX6_share) (pc := 37) (i := 1) dX6_share_37 rfl rfl ?_
      refine jm_mulN (Y := YX6_share) (pc := 38) dX6_share_38 ?_
      refine jm_addN (Y := YX6_share) (pc := 39) dX6_share_39 ?_
      refine jm_icN (Y := YX6_share) (pc := 40) 1 dX6_share_40 rfl ?_
      refine jm_addN (Y := YX6_share) (pc := 41) dX6_share_41 ?_
      refine jm_ialN (Y := YX6_share) (pc := 42) dX6_share_42 (by first | assumption | exact jm_arR1 ha | exact jm_arR2 ha | exact jm_arR3 ha | exact jm_arR1 hb | exact jm_arR2 hb | exact jm_arR3 hb | rfl) (by first | omega | exact jm_lt hb _) (by first | assumption | exact jm_rdW | exact jm_rdN (jm_17 hM) | rfl) ?_
      refine jm_ist (Y := YX6_share) (pc := 43) (ls' := [_, _, _, _, _, _, _, _]) dX6_share_43 (Nat.le_of_ble_eq_true rfl) rfl rfl ?_
      refine jm_iload (Y := YX6_share) (pc := 45) dX6_share_45 rfl ?_
      refine jm_if_neN (Y := YX6_share) (pc := 47) dX6_share_47 rfl (by first | omega | exact jm_lt hb _) (fun h_47 => ?_) (fun h_47 => ?_)
      · refine jm_ild_n (Y := YX6_share) (pc := 52) (i := 2) dX6_share_52 rfl rfl ?_
        refine jm_ist (Y := YX6_share) (pc := 53) (ls' := [_, _, _, _, _, _, _, _]) dX6_share_53 (Nat.le_of_ble_eq_true rfl) rfl rfl ?_
        refine jm_icN (Y := YX6_share) (pc := 55) 0 dX6_share_55 rfl ?_
        refine jm_ist (Y := YX6_share) (pc := 56) (ls' := [_, _, _, _, _, _, _, _]) dX6_share_56 (Nat.le_of_ble_eq_true rfl) rfl rfl ?_
        refine jm_icN (Y := YX6_share) (pc := 58) 0 dX6_share_58 rfl ?_
        refine jm_ist (Y := YX6_share) (pc := 59) (ls' := [_, _, _, _, _, _, _, _]) dX6_share_59 (Nat.le_of_ble_eq_true rfl) rfl rfl ?_
        have e : q_share w (nI k) (nI N) = p_shr w k N := (by unfold q_share; rw [if_pos (by omega), n_k, n_N, if_neg h_47])
        rw [e]
        exact c_share0 w g M0 hM hg hz hm k N (by omega) (by omega) (by omega) (w 3 + 1) 0 (by omega) (by omega)
      · refine jm_icN (Y := YX6_share) (pc := 50) 0 dX6_share_50 rfl ?_
        refine jm_ret (Y := YX6_share) (pc := 51) (st := []) dX6_share_51 rfl rfl ?_
        unfold q_share
        first | exact jm_qi hz (by rw [if_neg (by omega)]) | exact jm_qi hz (by rw [if_pos (by omega), n_k, if_pos h_47]; rfl) | fail
    · refine jm_ldc (Y := YX6_share) (pc := 19) (v := -1000001) dX6_share_19 kc_RX6_61 ?_
      refine jm_ret (Y := YX6_share) (pc := 21) (st := []) dX6_share_21 rfl rfl ?_
      unfold q_share
      first | exact jm_qi hz (by rw [if_neg (by omega)]) | exact jm_qi hz (by rw [if_pos (by omega), n_k, if_pos h_47]; rfl) | fail
def p_told (w : Nat → Nat) (k : Nat) : Int32 := if p_wh w k = -1000000 then nI 99 else p_wh w k
def p_sn (w : Nat → Nat) (k : Nat) (it : Nat → Int32) (f : Nat) : Nat → Bool
  | 0 => true
  | n + 1 => p_sn w k it f n && decide (p_told (p_on w (n + 1)) k = it (f + n))
theorem c_isSeen0 (w : Nat → Nat) (M0 : jm_M) (hg : rG w) (hm : w 4 ≤ 9999) (k f N : Nat) (x : Int32) (pl : Nat) (hk : k < 7) (hN : N ≤ 12) (hf : f + N ≤ 320) : ∀ (m : Nat) (n : Nat) (y : Option Value), n ≤ N → N - n < m → jm_J none YX6_isSeen 28 [some (.ref 11), some (.int (nI k)), some (.int (nI f)), some (.int (nI N)), some (.int (nI pl)), some (.int x), some (.int (jm_b (p_sn w k (M0 14) f n = true))), some (.int (nI n)), y] [] (jm_sf M0 19 (jm_n (p_on w n))) (fun o M1 => o = some (.int (jm_b (p_sn w k (M0 14) f N = true))) ∧ M1 = jm_sf M0 19 (jm_n (p_on w N))) := by
  intro m
  induction m with
  | zero => intros; omega
  | succ m ih =>
    intro n y hn hmm
    have hG := p_on_rG hg n (by omega)
    refine jm_iload (Y := YX6_isSeen) (pc := 28) dX6_isSeen_28 rfl ?_
    refine jm_ild_n (Y := YX6_isSeen) (pc := 30) (i := 3) dX6_isSeen_30 rfl rfl ?_
    refine jm_icmp_geN (Y := YX6_isSeen) (pc := 31) dX6_isSeen_31 rfl (by omega) (by omega) (fun h_31 => ?_) (fun h_31 => ?_)
    · refine jm_iload (Y := YX6_isSeen) (pc := 95) dX6_isSeen_95 rfl ?_
      refine jm_ret (Y := YX6_isSeen) (pc := 97) (st := []) dX6_isSeen_97 rfl (jm_nb _) ?_
      have en : n = N := by omega
      subst en
      exact ⟨rfl, rfl⟩
    · refine jm_ald_n (Y := YX6_isSeen) (pc := 34) (i := 0) dX6_isSeen_34 rfl rfl ?_
      refine jm_getR (Y := YX6_isSeen) (pc := 35) dX6_isSeen_35 fr_RX6_31 rfl (by decide) rfl ?_
      refine jm_S1ve (Y := YX6_isSeen) (pc := 38) dX6_isSeen_38 lk_RX6_168 rfl rfl (by decide) (Nat.le_of_ble_eq_true rfl) ⟨by decide, by decide⟩ (c_paT (p_on w n) M0 hG) ?_
      refine jm_ald_n (Y := YX6_isSeen) (pc := 41) (i := 0) dX6_isSeen_41 rfl rfl ?_
      refine jm_getR (Y := YX6_isSeen) (pc := 42) dX6_isSeen_42 fr_RX6_31 rfl (by decide) rfl ?_
      have hG1 : rG (p_on w (n + 1)) := p_on_rG hg (n + 1) (by omega)
      have e14 : jm_sf M0 19 (jm_n (p_on w (n + 1))) 14 = M0 14 := jm_sf_n _ _ (by decide)
      refine jm_ild_n (Y := YX6_isSeen) (pc := 45) (i := 1) dX6_isSeen_45 rfl rfl ?_
      refine jm_S2ie (Y := YX6_isSeen) (pc := 46) dX6_isSeen_46 lk_RX6_186 ⟨_, rfl⟩ rfl rfl (by decide) (Nat.le_of_ble_eq_true rfl) ⟨by decide, by decide⟩ (c_whereIs _ (p_on w (n + 1)) _ rfl jm_rdF hG1 _ (by omega)) ?_
      refine jm_ist (Y := YX6_isSeen) (pc := 49) (ls' := [_, _, _, _, _, _, _, _, _]) dX6_isSeen_49 (Nat.le_of_ble_eq_true rfl) rfl rfl ?_
      refine jm_iload (Y := YX6_isSeen) (pc := 51) dX6_isSeen_51 rfl ?_
      refine jm_if_eqB (Y := YX6_isSeen) (pc := 53) dX6_isSeen_53 rfl (fun h_53 => ?_) (fun h_53 => ?_)
      · refine jm_icN (Y := YX6_isSeen) (pc := 86) 0 dX6_isSeen_86 rfl ?_
        have es : p_sn w k (M0 14) f (n + 1) = (p_sn w k (M0 14) f n && decide (p_told (p_on w (n + 1)) k = M0 14 (f + n))) := rfl
        have key := ih (n + 1) (some (.int (p_wh (p_on w (n + 1)) k))) (by omega) (by omega)
        have fin : ∀ z : Int32, z = jm_b (p_sn w k (M0 14) f (n + 1) = true) → jm_J none YX6_isSeen 87 [some (.ref 11), some (.int (nI k)), some (.int (nI f)), some (.int (nI N)), some (.int (nI pl)), some (.int x), some (.int (jm_b (p_sn w k (M0 14) f n = true))), some (.int (nI n)), some (.int (p_wh (p_on w (n + 1)) k))] [.int z] (jm_sf M0 19 (jm_n (p_on w (n + 1)))) (fun o M1 => o = some (.int (jm_b (p_sn w k (M0 14) f N = true))) ∧ M1 = jm_sf M0 19 (jm_n (p_on w N))) := fun z hz => (by
          rw [hz]
          refine jm_ist (Y := YX6_isSeen) (pc := 87) (ls' := [_, _, _, _, _, _, _, _, _]) dX6_isSeen_87 (Nat.le_of_ble_eq_true rfl) rfl rfl ?_
          refine jm_incN (Y := YX6_isSeen) (pc := 89) (m := 1) (ls' := [_, _, _, _, _, _, _, _, _]) dX6_isSeen_89 rfl rfl rfl rfl ?_
          refine jm_goto (Y := YX6_isSeen) (pc := 92) dX6_isSeen_92 rfl ?_
          exact key)
        first | exact fin _ (jm_b_t (by rw [es, h_53]; unfold p_told; first | (rw [if_pos h_60]; exact decide_eq_true h_79) | (rw [if_neg h_60]; exact decide_eq_true h_79) | (rw [if_pos h_60]; exact decide_eq_true (Decidable.not_not.mp h_79)) | (rw [if_neg h_60]; exact decide_eq_true (Decidable.not_not.mp h_79)) | (rw [if_pos (Decidable.not_not.mp h_60)]; exact decide_eq_true (Decidable.not_not.mp h_79)))).symm | exact fin _ (jm_b_f (by rw [es, h_53]; unfold p_told; first | (rw [if_pos h_60]; simpa using h_79) | (rw [if_neg h_60]; simpa using h_79) | (rw [if_pos (Decidable.not_not.mp h_60)]; simpa using h_79))).symm | exact fin _ (jm_b_f (by rw [es]; intro z; exact h_53 (Bool.and_eq_true_iff.mp z).1)).symm | fail
      · refine jm_iload (Y := YX6_isSeen) (pc := 56) dX6_isSeen_56 rfl ?_
        refine jm_ldc (Y := YX6_isSeen) (pc := 58) (v := -1000000) dX6_isSeen_58 kc_RX6_47 ?_
        refine jm_icmp_ne (Y := YX6_isSeen) (pc := 60) dX6_isSeen_60 rfl (fun h_60 => ?_) (fun h_60 => ?_)
        · refine jm_iload (Y := YX6_isSeen) (pc := 68) dX6_isSeen_68 rfl ?_
          refine jm_ald_n (Y := YX6_isSeen) (pc := 70) (i := 0) dX6_isSeen_70 rfl rfl ?_
          refine jm_getR (Y := YX6_isSeen) (pc := 71) dX6_isSeen_71 fr_RX6_16 rfl (by decide) rfl ?_
          refine jm_ild_n (Y := YX6_isSeen) (pc := 74) (i := 2) dX6_isSeen_74 rfl rfl ?_
          refine jm_iload (Y := YX6_isSeen) (pc := 75) dX6_isSeen_75 rfl ?_
          refine jm_addN (Y := YX6_isSeen) (pc := 77) dX6_isSeen_77 ?_
          refine jm_ialN (Y := YX6_isSeen) (pc := 78) dX6_isSeen_78 (by first | assumption | exact jm_arR1 ha | exact jm_arR2 ha | exact jm_arR3 ha | exact jm_arR1 hb | exact jm_arR2 hb | exact jm_arR3 hb | rfl) (by omega) (by exact congrFun e14 _) ?_
          refine jm_icmp_ne (Y := YX6_isSeen) (pc := 79) dX6_isSeen_79 rfl (fun h_79 => ?_) (fun h_79 => ?_)
          · refine jm_icN (Y := YX6_isSeen) (pc := 86) 0 dX6_isSeen_86 rfl ?_
            have es : p_sn w k (M0 14) f (n + 1) = (p_sn w k (M0 14) f n && decide (p_told (p_on w (n + 1)) k = M0 14 (f + n))) := rfl
            have key := ih (n + 1) (some (.int (p_wh (p_on w (n + 1)) k))) (by omega) (by omega)
            have fin : ∀ z : Int32, z = jm_b (p_sn w k (M0 14) f (n + 1) = true) → jm_J none YX6_isSeen 87 [some (.ref 11), some (.int (nI k)), some (.int (nI f)), some (.int (nI N)), some (.int (nI pl)), some (.int x), some (.int (jm_b (p_sn w k (M0 14) f n = true))), some (.int (nI n)), some (.int (p_wh (p_on w (n + 1)) k))] [.int z] (jm_sf M0 19 (jm_n (p_on w (n + 1)))) (fun o M1 => o = some (.int (jm_b (p_sn w k (M0 14) f N = true))) ∧ M1 = jm_sf M0 19 (jm_n (p_on w N))) := fun z hz => (by
              rw [hz]
              refine jm_ist (Y := YX6_isSeen) (pc := 87) (ls' := [_, _, _, _, _, _, _, _, _]) dX6_isSeen_87 (Nat.le_of_ble_eq_true rfl) rfl rfl ?_
              refine jm_incN (Y := YX6_isSeen) (pc := 89) (m := 1) (ls' := [_, _, _, _, _, _, _, _, _]) dX6_isSeen_89 rfl rfl rfl rfl ?_
              refine jm_goto (Y := YX6_isSeen) (pc := 92) dX6_isSeen_92 rfl ?_
              exact key)
            first | exact fin _ (jm_b_t (by rw [es, h_53]; unfold p_told; first | (rw [if_pos h_60]; exact decide_eq_true h_79) | (rw [if_neg h_60]; exact decide_eq_true h_79) | (rw [if_pos h_60]; exact decide_eq_true (Decidable.not_not.mp h_79)) | (rw [if_neg h_60]; exact decide_eq_true (Decidable.not_not.mp h_79)) | (rw [if_pos (Decidable.not_not.mp h_60)]; exact decide_eq_true (Decidable.not_not.mp h_79)))).symm | exact fin _ (jm_b_f (by rw [es, h_53]; unfold p_told; first | (rw [if_pos h_60]; simpa using h_79) | (rw [if_neg h_60]; simpa using h_79) | (rw [if_pos (Decidable.not_not.mp h_60)]; simpa using h_79))).symm | exact fin _ (jm_b_f (by rw [es]; intro z; exact h_53 (Bool.and_eq_true_iff.mp z).1)).symm | fail
          · refine jm_icN (Y := YX6_isSeen) (pc := 82) 1 dX6_isSeen_82 rfl ?_
            refine jm_goto (Y := YX6_isSeen) (pc := 83) dX6_isSeen_83 rfl ?_
            have es : p_sn w k (M0 14) f (n + 1) = (p_sn w k (M0 14) f n && decide (p_told (p_on w (n + 1)) k = M0 14 (f + n))) := rfl
            have key := ih (n + 1) (some (.int (p_wh (p_on w (n + 1)) k))) (by omega) (by omega)
            have fin : ∀ z : Int32, z = jm_b (p_sn w k (M0 14) f (n + 1) = true) → jm_J none YX6_isSeen 87 [some (.ref 11), some (.int (nI k)), some (.int (nI f)), some (.int (nI N)), some (.int (nI pl)), some (.int x), some (.int (jm_b (p_sn w k (M0 14) f n = true))), some (.int (nI n)), some (.int (p_wh (p_on w (n + 1)) k))] [.int z] (jm_sf M0 19 (jm_n (p_on w (n + 1)))) (fun o M1 => o = some (.int (jm_b (p_sn w k (M0 14) f N = true))) ∧ M1 = jm_sf M0 19 (jm_n (p_on w N))) := fun z hz => (by
              rw [hz]
              refine jm_ist (Y := YX6_isSeen) (pc := 87) (ls' := [_, _, _, _, _, _, _, _, _]) dX6_isSeen_87 (Nat.le_of_ble_eq_true rfl) rfl rfl ?_
              refine jm_incN (Y := YX6_isSeen) (pc := 89) (m := 1) (ls' := [_, _, _, _, _, _, _, _, _]) dX6_isSeen_89 rfl rfl rfl rfl ?_
              refine jm_goto (Y := YX6_isSeen) (pc := 92) dX6_isSeen_92 rfl ?_
              exact key)
            first | exact fin _ (jm_b_t (by rw [es, h_53]; unfold p_told; first | (rw [if_pos h_60]; exact decide_eq_true h_79) | (rw [if_neg h_60]; exact decide_eq_true h_79) | (rw [if_pos h_60]; exact decide_eq_true (Decidable.not_not.mp h_79)) | (rw [if_neg h_60]; exact decide_eq_true (Decidable.not_not.mp h_79)) | (rw [if_pos (Decidable.not_not.mp h_60)]; exact decide_eq_true (Decidable.not_not.mp h_79)))).symm | exact fin _ (jm_b_f (by rw [es, h_53]; unfold p_told; first | (rw [if_pos h_60]; simpa using h_79) | (rw [if_neg h_60]; simpa using h_79) | (rw [if_pos (Decidable.not_not.mp h_60)]; simpa using h_79))).symm | exact fin _ (jm_b_f (by rw [es]; intro z; exact h_53 (Bool.and_eq_true_iff.mp z).1)).symm | fail
        · refine jm_bpN (Y := YX6_isSeen) (pc := 63) 99 dX6_isSeen_63 rfl ?_
          refine jm_goto (Y := YX6_isSeen) (pc := 65) dX6_isSeen_65 rfl ?_
          refine jm_ald_n (Y := YX6_isSeen) (pc := 70) (i := 0) dX6_isSeen_70 rfl rfl ?_
          refine jm_getR (Y := YX6_isSeen) (pc := 71) dX6_isSeen_71 fr_RX6_16 rfl (by decide) rfl ?_
          refine jm_ild_n (Y := YX6_isSeen) (pc := 74) (i := 2) dX6_isSeen_74 rfl rfl ?_
          refine jm_iload (Y := YX6_isSeen) (pc := 75) dX6_isSeen_75 rfl ?_
          refine jm_addN (Y := YX6_isSeen) (pc := 77) dX6_isSeen_77 ?_
          refine jm_ialN (Y := YX6_isSeen) (pc := 78) dX6_isSeen_78 (by first | assumption | exact jm_arR1 ha | exact jm_arR2 ha | exact jm_arR3 ha | exact jm_arR1 hb | exact jm_arR2 hb | exact jm_arR3 hb | rfl) (by omega) (by exact congrFun e14 _) ?_
          refine jm_icmp_ne (Y := YX6_isSeen) (pc := 79) dX6_isSeen_79 rfl (fun h_79 => ?_) (fun h_79 => ?_)
          · refine jm_icN (Y := YX6_isSeen) (pc := 86) 0 dX6_isSeen_86 rfl ?_
            have es : p_sn w k (M0 14) f (n + 1) = (p_sn w k (M0 14) f n && decide (p_told (p_on w (n + 1)) k = M0 14 (f + n))) := rfl
            have key := ih (n + 1) (some (.int (p_wh (p_on w (n + 1)) k))) (by omega) (by omega)
            have fin : ∀ z : Int32, z = jm_b (p_sn w k (M0 14) f (n + 1) = true) → jm_J none YX6_isSeen 87 [some (.ref 11), some (.int (nI k)), some (.int (nI f)), some (.int (nI N)), some (.int (nI pl)), some (.int x), some (.int (jm_b (p_sn w k (M0 14) f n = true))), some (.int (nI n)), some (.int (p_wh (p_on w (n + 1)) k))] [.int z] (jm_sf M0 19 (jm_n (p_on w (n + 1)))) (fun o M1 => o = some (.int (jm_b (p_sn w k (M0 14) f N = true))) ∧ M1 = jm_sf M0 19 (jm_n (p_on w N))) := fun z hz => (by
              rw [hz]
              refine jm_ist (Y := YX6_isSeen) (pc := 87) (ls' := [_, _, _, _, _, _, _, _, _]) dX6_isSeen_87 (Nat.le_of_ble_eq_true rfl) rfl rfl ?_
              refine jm_incN (Y := YX6_isSeen) (pc := 89) (m := 1) (ls' := [_, _, _, _, _, _, _, _, _]) dX6_isSeen_89 rfl rfl rfl rfl ?_
              refine jm_goto (Y := YX6_isSeen) (pc := 92) dX6_isSeen_92 rfl ?_
              exact key)
            first | exact fin _ (jm_b_t (by rw [es, h_53]; unfold p_told; first | (rw [if_pos h_60]; exact decide_eq_true h_79) | (rw [if_neg h_60]; exact decide_eq_true h_79) | (rw [if_pos h_60]; exact decide_eq_true (Decidable.not_not.mp h_79)) | (rw [if_neg h_60]; exact decide_eq_true (Decidable.not_not.mp h_79)) | (rw [if_pos (Decidable.not_not.mp h_60)]; exact decide_eq_true (Decidable.not_not.mp h_79)))).symm | exact fin _ (jm_b_f (by rw [es, h_53]; unfold p_told; first | (rw [if_pos h_60]; simpa using h_79) | (rw [if_neg h_60]; simpa using h_79) | (rw [if_pos (Decidable.not_not.mp h_60)]; simpa using h_79))).symm | exact fin _ (jm_b_f (by rw [es]; intro z; exact h_53 (Bool.and_eq_true_iff.mp z).1)).symm | fail
          · refine jm_icN (Y := YX6_isSeen) (pc := 82) 1 dX6_isSeen_82 rfl ?_
            refine jm_goto (Y := YX6_isSeen) (pc := 83) dX6_isSeen_83 rfl ?_
            have es : p_sn w k (M0 14) f (n + 1) = (p_sn w k (M0 14) f n && decide (p_told (p_on w (n + 1)) k = M0 14 (f + n))) := rfl
            have key := ih (n + 1) (some (.int (p_wh (p_on w (n + 1)) k))) (by omega) (by omega)
            have fin : ∀ z : Int32, z = jm_b (p_sn w k (M0 14) f (n + 1) = true) → jm_J none YX6_isSeen 87 [some (.ref 11), some (.int (nI k)), some (.int (nI f)), some (.int (nI N)), some (.int (nI pl)), some (.int x), some (.int (jm_b (p_sn w k (M0 14) f n = true))), some (.int (nI n)), some (.int (p_wh (p_on w (n + 1)) k))] [.int z] (jm_sf M0 19 (jm_n (p_on w (n + 1)))) (fun o M1 => o = some (.int (jm_b (p_sn w k (M0 14) f N = true))) ∧ M1 = jm_sf M0 19 (jm_n (p_on w N))) := fun z hz => (by
              rw [hz]
              refine jm_ist (Y := YX6_isSeen) (pc := 87) (ls' := [_, _, _, _, _, _, _, _, _]) dX6_isSeen_87 (Nat.le_of_ble_eq_true rfl) rfl rfl ?_
              refine jm_incN (Y := YX6_isSeen) (pc := 89) (m := 1) (ls' := [_, _, _, _, _, _, _, _, _]) dX6_isSeen_89 rfl rfl rfl rfl ?_
              refine jm_goto (Y := YX6_isSeen) (pc := 92) dX6_isSeen_92 rfl ?_
              exact key)
            first | exact fin _ (jm_b_t (by rw [es, h_53]; unfold p_told; first | (rw [if_pos h_60]; exact decide_eq_true h_79) | (rw [if_neg h_60]; exact decide_eq_true h_79) | (rw [if_pos h_60]; exact decide_eq_true (Decidable.not_not.mp h_79)) | (rw [if_neg h_60]; exact decide_eq_true (Decidable.not_not.mp h_79)) | (rw [if_pos (Decidable.not_not.mp h_60)]; exact decide_eq_true (Decidable.not_not.mp h_79)))).symm | exact fin _ (jm_b_f (by rw [es, h_53]; unfold p_told; first | (rw [if_pos h_60]; simpa using h_79) | (rw [if_neg h_60]; simpa using h_79) | (rw [if_pos (Decidable.not_not.mp h_60)]; simpa using h_79))).symm | exact fin _ (jm_b_f (by rw [es]; intro z; exact h_53 (Bool.and_eq_true_iff.mp z).1)).symm | fail
theorem c_isSeen (w w' g : Nat → Nat) (M0 : jm_M) (hM : M0 17 = jm_n w) (hw : ∀ j, 45 ≤ j → w j = 0) (hz : ∀ j, 45 ≤ j → g j = 0) (hg : rG w') (hm : w' 4 ≤ 9999) (k f N v pl : Nat) (hk : k < 7) (hN : N ≤ 12) (hf : f + N ≤ 320) (hp : pl < 45) (hv : w' = wU w pl v) : jm_J none YX6_isSeen 0 [some (.ref 11), some (.int (nI k)), some (.int (nI f)), some (.int (nI N)), some (.int (nI pl)), some (.int (nI v)), none, none, none] [] (jm_sf M0 19 (jm_n g)) (jm_is (some (.int (jm_b (p_sn w' k (M0 14) f N = true)))) (jm_sf M0 19 (jm_n (p_on w' N)))) := by
  refine jm_ald_n (Y := YX6_isSeen) (pc := 0) (i := 0) dX6_isSeen_0 rfl rfl ?_
  refine jm_getR (Y := YX6_isSeen) (pc := 1) dX6_isSeen_1 fr_RX6_25 rfl (by decide) rfl ?_
  refine jm_icN (Y := YX6_isSeen) (pc := 4) 0 dX6_isSeen_4 rfl ?_
  refine jm_ald_n (Y := YX6_isSeen) (pc := 5) (i := 0) dX6_isSeen_5 rfl rfl ?_
  refine jm_getR (Y := YX6_isSeen) (pc := 6) dX6_isSeen_6 fr_RX6_31 rfl (by decide) rfl ?_
  refine jm_icN (Y := YX6_isSeen) (pc := 9) 0 dX6_isSeen_9 rfl ?_
  refine jm_S4ve (Y := YX6_isSeen) (pc := 10) dX6_isSeen_10 lk_RX6_135 rfl rfl rfl rfl rfl (by decide) (Nat.le_of_ble_eq_true rfl) ⟨by decide, by decide⟩ (c_cpT w g M0 hM hw hz) ?_
  refine jm_ald_n (Y := YX6_isSeen) (pc := 13) (i := 0) dX6_isSeen_13 rfl rfl ?_
  refine jm_getR (Y := YX6_isSeen) (pc := 14) dX6_isSeen_14 fr_RX6_31 rfl (by decide) rfl ?_
  refine jm_iload (Y := YX6_isSeen) (pc := 17) dX6_isSeen_17 rfl ?_
  refine jm_iload (Y := YX6_isSeen) (pc := 19) dX6_isSeen_19 rfl ?_
  refine jm_iasW (Y := YX6_isSeen) (pc := 21) (M0 := M0) (w := w) dX6_isSeen_21 rfl rfl (by omega) ?_
  rw [← hv]
  refine jm_icN (Y := YX6_isSeen) (pc := 22) 1 dX6_isSeen_22 rfl ?_
  refine jm_ist (Y := YX6_isSeen) (pc := 23) (ls' := [_, _, _, _, _, _, _, _, _]) dX6_isSeen_23 (Nat.le_of_ble_eq_true rfl) rfl rfl ?_
  refine jm_icN (Y := YX6_isSeen) (pc := 25) 0 dX6_isSeen_25 rfl ?_
  refine jm_ist (Y := YX6_isSeen) (pc := 26) (ls' := [_, _, _, _, _, _, _, _, _]) dX6_isSeen_26 (Nat.le_of_ble_eq_true rfl) rfl rfl ?_
  have key := c_isSeen0 w' M0 hg hm k f N (nI v) pl hk hN hf (N + 1) 0 none (by omega) (by omega)
  exact key
def p_fs (ok : Nat → Bool) (b hi : Nat) : Nat → Nat × Nat × Option Nat
  | 0 => (0, 0, none)
  | m + 1 => if ok (hi - m) = true then ((p_fs ok b hi m).1 ||| (if b < 3 then 2 ^ (hi - m) else 0), (p_fs ok b hi m).2.1 + 1, some (hi - m)) else p_fs ok b hi m
def p_pl (b k : Nat) : Nat := if b = 0 then 17 + 4 * k else if b = 1 then 17 + 4 * k + 2 else if b = 2 then 0 else 17 + 4 * k + 1
def p_lo (b : Nat) : Nat := if b = 0 ∨ 2 < b then 1 else 0
def p_hi (w : Nat → Nat) (b : Nat) : Nat := if b = 0 then 5 else if b = 1 then w 2 - 1 else if b = 2 then 15 else 60
def p_fr (w : Nat → Nat) (k b f N : Nat) (it : Nat → Int32) : Int32 :=
  if b = 3 then nI (p_fs (fun v => p_sn (wU w (p_pl b k) v) k it f N) b (p_hi w b) (p_hi w b + 1 - p_lo b)).2.1
  else if b = 4 then jm_o (p_fs (fun v => p_sn (wU w (p_pl b k) v) k it f N) b (p_hi w b) (p_hi w b + 1 - p_lo b)).2.2
  else nI (p_fs (fun v => p_sn (wU w (p_pl b k) v) k it f N) b (p_hi w b) (p_hi w b + 1 - p_lo b)).1
theorem p_fs_le (ok : Nat → Bool) (b hi : Nat) : ∀ m, m ≤ 61 → (p_fs ok b hi m).2.1 ≤ m
  | 0, _ => Nat.le_refl _
  | m + 1, h => by
    have i := p_fs_le ok b hi m (by omega)
    have ee : p_fs ok b hi (m + 1) = if ok (hi - m) = true then ((p_fs ok b hi m).1 ||| (if b < 3 then 2 ^ (hi - m) else 0), (p_fs ok b hi m).2.1 + 1, some (hi - m)) else p_fs ok b hi m := rfl
    rw [ee]
    split
    · show _ + 1 ≤ _; omega
    · omega
/-- the rows that fits tries are rows, too -/
theorem rG.put {w : Nat → Nat} (h : rG w) {k b v : Nat} (hk : k < w 3) (hb : b < 5) (hn : w (17 + 4 * k + 3) = 0) (h1 : p_lo b ≤ v) (h2 : v ≤ p_hi w b) : rG (wU w (p_pl b k) v) := by
  obtain ⟨⟨h0, h1', h2', h3, h4⟩, hs, hkk, hz, hw⟩ := h
  have hw2 := (hw k hk).2.1
  have e2 : wU w (p_pl b k) v 2 = w 2 := wU_n _ _ (by unfold p_pl; (repeat' split) <;> omega)
  have e3 : wU w (p_pl b k) v 3 = w 3 := wU_n _ _ (by unfold p_pl; (repeat' split) <;> omega)
  have e0 : wU w (p_pl b k) v 0 ≤ 15 := by
    by_cases q : b = 2
    · subst q; show wU w 0 v 0 ≤ 15; rw [wU_s]; exact h2
    · rw [wU_n _ _ (by unfold p_pl; (repeat' split) <;> omega)]; exact h0
  have key : ∀ a, a < 7 → wU w (p_pl b k) v (17 + 4 * a + 3) = w (17 + 4 * a + 3) ∧ (wU w (p_pl b k) v (17 + 4 * a) = w (17 + 4 * a) ∨ (b = 0 ∧ a = k ∧ wU w (p_pl b k) v (17 + 4 * a) = v)) ∧ (wU w (p_pl b k) v (17 + 4 * a + 2) = w (17 + 4 * a + 2) ∨ (b = 1 ∧ a = k ∧ wU w (p_pl b k) v (17 + 4 * a + 2) = v)) ∧ (wU w (p_pl b k) v (17 + 4 * a + 1) = w (17 + 4 * a + 1) ∨ (2 < b ∧ a = k ∧ wU w (p_pl b k) v (17 + 4 * a + 1) = v)) := by
    intro a ha
    rcases (show b = 0 ∨ b = 1 ∨ b = 2 ∨ b = 3 ∨ b = 4 by omega) with rfl | rfl | rfl | rfl | rfl
    · refine ⟨wU_n _ _ (show 17 + 4 * a + 3 ≠ 17 + 4 * k by omega), ?_, Or.inl (wU_n _ _ (show 17 + 4 * a + 2 ≠ 17 + 4 * k by omega)), Or.inl (wU_n _ _ (show 17 + 4 * a + 1 ≠ 17 + 4 * k by omega))⟩
      by_cases e : a = k
      · exact Or.inr ⟨rfl, e, by rw [e]; exact wU_s w (17 + 4 * k) v⟩
      · exact Or.inl (wU_n _ _ (show 17 + 4 * a ≠ 17 + 4 * k by omega))
    · refine ⟨wU_n _ _ (show 17 + 4 * a + 3 ≠ 17 + 4 * k + 2 by omega), Or.inl (wU_n _ _ (show 17 + 4 * a ≠ 17 + 4 * k + 2 by omega)), ?_, Or.inl (wU_n _ _ (show 17 + 4 * a + 1 ≠ 17 + 4 * k + 2 by omega))⟩
      by_cases e : a = k
      · exact Or.inr ⟨rfl, e, by rw [e]; exact wU_s w (17 + 4 * k + 2) v⟩
      · exact Or.inl (wU_n _ _ (show 17 + 4 * a + 2 ≠ 17 + 4 * k + 2 by omega))
    · exact ⟨wU_n _ _ (show 17 + 4 * a + 3 ≠ 0 by omega), Or.inl (wU_n _ _ (show 17 + 4 * a ≠ 0 by omega)), Or.inl (wU_n _ _ (show 17 + 4 * a + 2 ≠ 0 by omega)), Or.inl (wU_n _ _ (show 17 + 4 * a + 1 ≠ 0 by omega))⟩
    all_goals
      refine ⟨wU_n _ _ (show 17 + 4 * a + 3 ≠ 17 + 4 * k + 1 by omega), Or.inl (wU_n _ _ (show 17 + 4 * a ≠ 17 + 4 * k + 1 by omega)), Or.inl (wU_n _ _ (show 17 + 4 * a + 2 ≠ 17 + 4 * k + 1 by omega)), ?_⟩
      by_cases e : a = k
      · exact Or.inr ⟨by omega, e, by rw [e]; exact wU_s w (17 + 4 * k + 1) v⟩
      · exact Or.inl (wU_n _ _ (show 17 + 4 * a + 1 ≠ 17 + 4 * k + 1 by omega))
  have hv0 : b = 0 → 1 ≤ v ∧ v ≤ 5 := fun e => by subst e; exact ⟨h1, h2⟩
  have hv1 : b = 1 → v < w 2 := fun e => by subst e; have : v ≤ w 2 - 1 := h2; omega
  have hv3 : 2 < b → 1 ≤ v ∧ v ≤ 60 := fun e => by
    rcases (show b = 3 ∨ b = 4 by omega) with rfl | rfl
    · exact ⟨h1, h2⟩
    · exact ⟨h1, h2⟩
  refine ⟨⟨e0, by rw [wU_n _ _ (by unfold p_pl; (repeat' split) <;> omega)]; exact h1', by rw [e2]; exact h2', by rw [e3]; exact h3, by rw [wU_n _ _ (by unfold p_pl; (repeat' split) <;> omega)]; exact h4⟩, fun a ha => ?_, fun a ha => ?_, fun j hj => ?_, fun a ha => ?_⟩
  · rw [wU_n _ _ (by unfold p_pl; (repeat' split) <;> omega)]; exact hs a ha
  · obtain ⟨q1, q2, q3, q4⟩ := key a ha
    have := hkk a ha
    refine ⟨?_, ?_, ?_, by rw [q1]; exact this.2.2.2⟩
    · rcases q2 with q | ⟨q, -, q'⟩
      · rw [q]; exact this.1
      · rw [q']; exact (hv0 q).2
    · rcases q4 with q | ⟨q, -, q'⟩
      · rw [q]; exact this.2.1
      · rw [q']; exact (hv3 q).2
    · rcases q3 with q | ⟨q, -, q'⟩
      · rw [q]; exact this.2.2.1
      · rw [q']; have := hv1 q; omega
  · rw [wU_n _ _ (by unfold p_pl; (repeat' split) <;> omega)]; exact hz j hj
  · rw [e3] at ha
    rw [e2]
    obtain ⟨q1, q2, q3, q4⟩ := key a (by omega)
    have := hw a ha
    refine ⟨?_, ?_, ?_⟩
    · rcases q2 with q | ⟨q, -, q'⟩
      · rw [q]; exact this.1
      · rw [q']; exact (hv0 q).1
    · rcases q3 with q | ⟨q, -, q'⟩
      · rw [q]; exact this.2.1
      · rw [q']; exact hv1 q
    · rw [q1]
      rcases q4 with q | ⟨q, e, q'⟩
      · rw [q]; exact this.2.2
      · rw [q', e, hn, if_neg (by have := (hv3 q).1; omega)]
theorem jm_dec1 {v : Nat} (h : v < 1000) : (nI v + Int32.ofInt (-1)).toInt = (v : Int) - 1 := by
  cases v with
  | zero => decide
  | succ b =>
    have e : Int32.ofInt (-1) = -1 := rfl
    rw [e, pk_m1, jm_tI (by omega)]
    omega
theorem c_fits0 (w : Nat → Nat) (M0 : jm_M) (hM : M0 17 = jm_n w) (hg : rG w) (hm9 : w 4 ≤ 9999) (k rr i N b pl lo hi : Nat) (ok : Nat → Bool) (hk : k < w 3) (hr : rr < 8) (hi2 : i + N ≤ 40) (hN : N ≤ 12) (hb5 : b < 5) (hlo : lo ≤ 1) (hhi : hi ≤ 60) (hhb : b < 3 → hi ≤ 15) (hlh : lo ≤ hi) (hpl : pl < 45) (hok : ∀ v, lo ≤ v → v ≤ hi → rG (wU w pl v) ∧ wU w pl v 4 ≤ 9999 ∧ ok v = p_sn (wU w pl v) k (M0 14) (40 * rr + i) N) : ∀ (m : Nat) (t : Nat) (g : Nat → Nat) (x : Int32), t ≤ hi + 1 - lo → (∀ j, 45 ≤ j → g j = 0) → x.toInt = (hi : Int) - t → hi + 2 - t < m → jm_J none YX6_fits 201 [some (.ref 11), some (.int (nI k)), some (.int (nI rr)), some (.int (nI i)), some (.int (nI N)), some (.int (nI b)), some (.int (nI (17 + 4 * k))), some (.int (nI pl)), some (.int (nI lo)), some (.int (nI hi)), some (.int (nI (p_fs ok b hi t).1)), some (.int (nI (p_fs ok b hi t).2.1)), some (.int (jm_o (p_fs ok b hi t).2.2)), some (.int x)] [] (jm_sf M0 19 (jm_n g)) ((fun o M1 => ∃ g, (∀ j, 45 ≤ j → g j = 0) ∧ o = some (.int (if b = 3 then nI (p_fs ok b hi (hi + 1 - lo)).2.1 else if b = 4 then jm_o (p_fs ok b hi (hi + 1 - lo)).2.2 else nI (p_fs ok b hi (hi + 1 - lo)).1)) ∧ M1 = jm_sf (jm_sf M0 19 (jm_n g)) 11 (upd (M0 11) 4 (nI 0)))) := by
  intro m
  induction m with
  | zero => intros; omega
  | succ m ih =>
    intro t g x hmm hz hx hms
    have lim := p_fs_le ok b hi t (by omega)
    have h3 := hg.1.2.2.2.1
    refine jm_iload (Y := YX6_fits) (pc := 201) dX6_fits_201 rfl ?_
    refine jm_iload (Y := YX6_fits) (pc := 203) dX6_fits_203 rfl ?_
    refine jm_icmp_lt (Y := YX6_fits) (pc := 205) dX6_fits_205 rfl (fun h_205 => ?_) (fun h_205 => ?_)
    · refine jm_ald_n (Y := YX6_fits) (pc := 260) (i := 0) dX6_fits_260 rfl rfl ?_
      refine jm_iload (Y := YX6_fits) (pc := 261) dX6_fits_261 rfl ?_
      refine jm_icN (Y := YX6_fits) (pc := 263) 3 dX6_fits_263 rfl ?_
      refine jm_icmp_neN (Y := YX6_fits) (pc := 264) dX6_fits_264 rfl (by omega) (by omega) (fun h_264 => ?_) (fun h_264 => ?_)
      · refine jm_iload (Y := YX6_fits) (pc := 272) dX6_fits_272 rfl ?_
        refine jm_icN (Y := YX6_fits) (pc := 274) 4 dX6_fits_274 rfl ?_
        refine jm_icmp_neN (Y := YX6_fits) (pc := 275) dX6_fits_275 rfl (by omega) (by omega) (fun h_275 => ?_) (fun h_275 => ?_)
        · refine jm_iload (Y := YX6_fits) (pc := 283) dX6_fits_283 rfl ?_
          refine jm_V1ie (Y := YX6_fits) (pc := 285) dX6_fits_285 lk_RX6_66 ⟨_, rfl⟩ rfl rfl (by decide) (Nat.le_of_ble_eq_true rfl) ⟨by decide, by decide⟩ (c_well _ _) ?_
          refine jm_ret (Y := YX6_fits) (pc := 288) (st := []) dX6_fits_288 rfl rfl ?_
          have em : t = hi + 1 - lo := (by rw [Int32.lt_iff_toInt_lt, jm_tI (by omega)] at h_205; omega)
          subst em
          refine ⟨g, hz, ?_, rfl⟩
          first | rw [if_pos (by omega)] | rw [if_neg (by omega), if_pos (by omega)] | rw [if_neg (by omega), if_neg (by omega)] | fail
        · refine jm_iload (Y := YX6_fits) (pc := 278) dX6_fits_278 rfl ?_
          refine jm_goto (Y := YX6_fits) (pc := 280) dX6_fits_280 rfl ?_
          refine jm_V1ie (Y := YX6_fits) (pc := 285) dX6_fits_285 lk_RX6_66 ⟨_, rfl⟩ rfl rfl (by decide) (Nat.le_of_ble_eq_true rfl) ⟨by decide, by decide⟩ (c_well _ _) ?_
          refine jm_ret (Y := YX6_fits) (pc := 288) (st := []) dX6_fits_288 rfl rfl ?_
          have em : t = hi + 1 - lo := (by rw [Int32.lt_iff_toInt_lt, jm_tI (by omega)] at h_205; omega)
          subst em
          refine ⟨g, hz, ?_, rfl⟩
          first | rw [if_pos (by omega)] | rw [if_neg (by omega), if_pos (by omega)] | rw [if_neg (by omega), if_neg (by omega)] | fail
      · refine jm_iload (Y := YX6_fits) (pc := 267) dX6_fits_267 rfl ?_
        refine jm_goto (Y := YX6_fits) (pc := 269) dX6_fits_269 rfl ?_
        refine jm_V1ie (Y := YX6_fits) (pc := 285) dX6_fits_285 lk_RX6_66 ⟨_, rfl⟩ rfl rfl (by decide) (Nat.le_of_ble_eq_true rfl) ⟨by decide, by decide⟩ (c_well _ _) ?_
        refine jm_ret (Y := YX6_fits) (pc := 288) (st := []) dX6_fits_288 rfl rfl ?_
        have em : t = hi + 1 - lo := (by rw [Int32.lt_iff_toInt_lt, jm_tI (by omega)] at h_205; omega)
        subst em
        refine ⟨g, hz, ?_, rfl⟩
        first | rw [if_pos (by omega)] | rw [if_neg (by omega), if_pos (by omega)] | rw [if_neg (by omega), if_neg (by omega)] | fail
    · have hge : (lo : Int) ≤ x.toInt := by { have q := Int32.not_lt.mp h_205; rw [Int32.le_iff_toInt_le, jm_tI (by omega)] at q; exact q }
      obtain ⟨v, hv, rfl, tv, nv⟩ := jm_ofL (v := x) (n := hi + 1) (by omega) (by omega)
      have ev : v = hi - t := by omega
      obtain ⟨o1, o2, o3⟩ := hok v (by omega) (by omega)
      refine jm_ald_n (Y := YX6_fits) (pc := 208) (i := 0) dX6_fits_208 rfl rfl ?_
      refine jm_ild_n (Y := YX6_fits) (pc := 209) (i := 1) dX6_fits_209 rfl rfl ?_
      refine jm_bpN (Y := YX6_fits) (pc := 210) 40 dX6_fits_210 rfl ?_
      refine jm_ild_n (Y := YX6_fits) (pc := 212) (i := 2) dX6_fits_212 rfl rfl ?_
      refine jm_mulN (Y := YX6_fits) (pc := 213) dX6_fits_213 ?_
      refine jm_ild_n (Y := YX6_fits) (pc := 214) (i := 3) dX6_fits_214 rfl rfl ?_
      refine jm_addN (Y := YX6_fits) (pc := 215) dX6_fits_215 ?_
      refine jm_iload (Y := YX6_fits) (pc := 216) dX6_fits_216 rfl ?_
      refine jm_iload (Y := YX6_fits) (pc := 218) dX6_fits_218 rfl ?_
      refine jm_iload (Y := YX6_fits) (pc := 220) dX6_fits_220 rfl ?_
      refine jm_V5ie (Y := YX6_fits) (pc := 222) dX6_fits_222 lk_RX6_211 ⟨_, rfl⟩ rfl rfl rfl rfl rfl rfl (by decide) (Nat.le_of_ble_eq_true rfl) ⟨by decide, by decide⟩ (c_isSeen w (wU w pl v) g M0 hM hg.z hz o1 o2 k (40 * rr + i) N v pl (by omega) hN (by omega) hpl rfl) ?_
      refine jm_if_eqB (Y := YX6_fits) (pc := 225) dX6_fits_225 rfl (fun h_225 => ?_) (fun h_225 => ?_)
      · refine jm_inc (Y := YX6_fits) (pc := 254) (ls' := [_, _, _, _, _, _, _, _, _, _, _, _, _, _]) dX6_fits_254 rfl rfl rfl rfl ?_
        refine jm_goto (Y := YX6_fits) (pc := 257) dX6_fits_257 rfl ?_
        have hG9 := (p_on_rG o1 N (by omega)).z
        have ee : p_fs ok b hi (t + 1) = if ok (hi - t) = true then ((p_fs ok b hi t).1 ||| (if b < 3 then 2 ^ (hi - t) else 0), (p_fs ok b hi t).2.1 + 1, some (hi - t)) else p_fs ok b hi t := rfl
        have key := ih (t + 1) _ (nI v + Int32.ofInt (-1)) (by omega) hG9 (by rw [jm_dec1 (by omega)]; omega) (by omega)
        rw [ee, ← ev, o3] at key
        first | (rw [if_pos h_225, if_pos h_233] at key; exact key) | (rw [if_pos h_225, if_neg (by omega)] at key; exact key) | (rw [if_neg h_225] at key; exact key) | fail
      · refine jm_iload (Y := YX6_fits) (pc := 228) dX6_fits_228 rfl ?_
        refine jm_iload (Y := YX6_fits) (pc := 230) dX6_fits_230 rfl ?_
        refine jm_icN (Y := YX6_fits) (pc := 232) 3 dX6_fits_232 rfl ?_
        refine jm_icmp_geN (Y := YX6_fits) (pc := 233) dX6_fits_233 rfl (by omega) (by omega) (fun h_233 => ?_) (fun h_233 => ?_)
        · refine jm_icN (Y := YX6_fits) (pc := 243) 0 dX6_fits_243 rfl ?_
          refine jm_orN (Y := YX6_fits) (pc := 244) dX6_fits_244 ?_
          refine jm_ist (Y := YX6_fits) (pc := 245) (ls' := [_, _, _, _, _, _, _, _, _, _, _, _, _, _]) dX6_fits_245 (Nat.le_of_ble_eq_true rfl) rfl rfl ?_
          refine jm_incN (Y := YX6_fits) (pc := 247) (m := 1) (ls' := [_, _, _, _, _, _, _, _, _, _, _, _, _, _]) dX6_fits_247 rfl rfl rfl rfl ?_
          refine jm_iload (Y := YX6_fits) (pc := 250) dX6_fits_250 rfl ?_
          refine jm_ist (Y := YX6_fits) (pc := 252) (ls' := [_, _, _, _, _, _, _, _, _, _, _, _, _, _]) dX6_fits_252 (Nat.le_of_ble_eq_true rfl) rfl rfl ?_
          refine jm_inc (Y := YX6_fits) (pc := 254) (ls' := [_, _, _, _, _, _, _, _, _, _, _, _, _, _]) dX6_fits_254 rfl rfl rfl rfl ?_
          refine jm_goto (Y := YX6_fits) (pc := 257) dX6_fits_257 rfl ?_
          have hG9 := (p_on_rG o1 N (by omega)).z
          have ee : p_fs ok b hi (t + 1) = if ok (hi - t) = true then ((p_fs ok b hi t).1 ||| (if b < 3 then 2 ^ (hi - t) else 0), (p_fs ok b hi t).2.1 + 1, some (hi - t)) else p_fs ok b hi t := rfl
          have key := ih (t + 1) _ (nI v + Int32.ofInt (-1)) (by omega) hG9 (by rw [jm_dec1 (by omega)]; omega) (by omega)
          rw [ee, ← ev, o3] at key
          first | (rw [if_pos h_225, if_pos h_233] at key; exact key) | (rw [if_pos h_225, if_neg (by omega)] at key; exact key) | (rw [if_neg h_225] at key; exact key) | fail
        · refine jm_icN (Y := YX6_fits) (pc := 236) 1 dX6_fits_236 rfl ?_
          refine jm_iload (Y := YX6_fits) (pc := 237) dX6_fits_237 rfl ?_
          have g2 : 2 ^ v ≤ 2 ^ 15 := Nat.pow_le_pow_right (by decide) (by have := hhb (by omega); omega)
          have g3 : 2 ^ 15 = 32768 := by decide
          refine jm_shlN (Y := YX6_fits) (pc := 239) dX6_fits_239 (by omega) (by omega) ?_
          rw [Nat.one_mul]
          refine jm_goto (Y := YX6_fits) (pc := 240) dX6_fits_240 rfl ?_
          refine jm_orN (Y := YX6_fits) (pc := 244) dX6_fits_244 ?_
          refine jm_ist (Y := YX6_fits) (pc := 245) (ls' := [_, _, _, _, _, _, _, _, _, _, _, _, _, _]) dX6_fits_245 (Nat.le_of_ble_eq_true rfl) rfl rfl ?_
          refine jm_incN (Y := YX6_fits) (pc := 247) (m := 1) (ls' := [_, _, _, _, _, _, _, _, _, _, _, _, _, _]) dX6_fits_247 rfl rfl rfl rfl ?_
          refine jm_iload (Y := YX6_fits) (pc := 250) dX6_fits_250 rfl ?_
          refine jm_ist (Y := YX6_fits) (pc := 252) (ls' := [_, _, _, _, _, _, _, _, _, _, _, _, _, _]) dX6_fits_252 (Nat.le_of_ble_eq_true rfl) rfl rfl ?_
          refine jm_inc (Y := YX6_fits) (pc := 254) (ls' := [_, _, _, _, _, _, _, _, _, _, _, _, _, _]) dX6_fits_254 rfl rfl rfl rfl ?_
          refine jm_goto (Y := YX6_fits) (pc := 257) dX6_fits_257 rfl ?_
          have hG9 := (p_on_rG o1 N (by omega)).z
          have ee : p_fs ok b hi (t + 1) = if ok (hi - t) = true then ((p_fs ok b hi t).1 ||| (if b < 3 then 2 ^ (hi - t) else 0), (p_fs ok b hi t).2.1 + 1, some (hi - t)) else p_fs ok b hi t := rfl
          have key := ih (t + 1) _ (nI v + Int32.ofInt (-1)) (by omega) hG9 (by rw [jm_dec1 (by omega)]; omega) (by omega)
          rw [ee, ← ev, o3] at key
          first | (rw [if_pos h_225, if_pos h_233] at key; exact key) | (rw [if_pos h_225, if_neg (by omega)] at key; exact key) | (rw [if_neg h_225] at key; exact key) | fail
theorem c_fitsB0 (w g : Nat → Nat) (M0 : jm_M) (hM : M0 17 = jm_n w) (hg : rG w) (hz : ∀ j, 45 ≤ j → g j = 0) (hm9 : w 4 ≤ 9999) (k rr i N : Nat) (hk : k < w 3) (hr : rr < 8) (hi2 : i + N ≤ 40) (hN : N ≤ 12) (hn : w (17 + 4 * k + 3) = 0) : jm_J none YX6_fits 81 [some (.ref 11), some (.int (nI k)), some (.int (nI rr)), some (.int (nI i)), some (.int (nI N)), some (.int (nI 0)), none, none, none, none, none, none, none, none] [] (jm_sf M0 19 (jm_n g)) (fun o M1 => ∃ g, (∀ j, 45 ≤ j → g j = 0) ∧ o = some (.int (p_fr w k 0 (40 * rr + i) N (M0 14))) ∧ M1 = jm_sf (jm_sf M0 19 (jm_n g)) 11 (upd (M0 11) 4 (nI 0))) := by
  have h3 := hg.1.2.2.2.1
  have h2 := hg.1.2.2.1
  have hc := (hg.2.2.2.2 k hk).2.1
  refine jm_bpN (Y := YX6_fits) (pc := 81) 17 dX6_fits_81 rfl ?_
  refine jm_icN (Y := YX6_fits) (pc := 83) 4 dX6_fits_83 rfl ?_
  refine jm_ild_n (Y := YX6_fits) (pc := 84) (i := 1) dX6_fits_84 rfl rfl ?_
  refine jm_mulN (Y := YX6_fits) (pc := 85) dX6_fits_85 ?_
  refine jm_addN (Y := YX6_fits) (pc := 86) dX6_fits_86 ?_
  refine jm_ist (Y := YX6_fits) (pc := 87) (ls' := [_, _, _, _, _, _, _, _, _, _, _, _, _, _]) dX6_fits_87 (Nat.le_of_ble_eq_true rfl) rfl rfl ?_
  refine jm_iload (Y := YX6_fits) (pc := 89) dX6_fits_89 rfl ?_
  refine jm_if_neN (Y := YX6_fits) (pc := 91) dX6_fits_91 rfl (by first | omega | exact jm_lt hg.hb _) (fun h_91 => by exfalso; first | omega | exact jm_lt hg.hb _) (fun h_91 => ?_)
  refine jm_iload (Y := YX6_fits) (pc := 94) dX6_fits_94 rfl ?_
  refine jm_goto (Y := YX6_fits) (pc := 96) dX6_fits_96 rfl ?_
  refine jm_ist (Y := YX6_fits) (pc := 126) (ls' := [_, _, _, _, _, _, _, _, _, _, _, _, _, _]) dX6_fits_126 (Nat.le_of_ble_eq_true rfl) rfl rfl ?_
  refine jm_iload (Y := YX6_fits) (pc := 128) dX6_fits_128 rfl ?_
  refine jm_if_eqN (Y := YX6_fits) (pc := 130) dX6_fits_130 rfl (by first | omega | exact jm_lt hg.hb _) (fun h_130 => ?_) (fun h_130 => by exfalso; first | omega | exact jm_lt hg.hb _)
  refine jm_icN (Y := YX6_fits) (pc := 139) 1 dX6_fits_139 rfl ?_
  refine jm_goto (Y := YX6_fits) (pc := 140) dX6_fits_140 rfl ?_
  refine jm_ist (Y := YX6_fits) (pc := 144) (ls' := [_, _, _, _, _, _, _, _, _, _, _, _, _, _]) dX6_fits_144 (Nat.le_of_ble_eq_true rfl) rfl rfl ?_
  refine jm_iload (Y := YX6_fits) (pc := 146) dX6_fits_146 rfl ?_
  refine jm_if_neN (Y := YX6_fits) (pc := 148) dX6_fits_148 rfl (by first | omega | exact jm_lt hg.hb _) (fun h_148 => by exfalso; first | omega | exact jm_lt hg.hb _) (fun h_148 => ?_)
  refine jm_icN (Y := YX6_fits) (pc := 151) 5 dX6_fits_151 rfl ?_
  refine jm_goto (Y := YX6_fits) (pc := 152) dX6_fits_152 rfl ?_
  refine jm_ist (Y := YX6_fits) (pc := 185) (ls' := [_, _, _, _, _, _, _, _, _, _, _, _, _, _]) dX6_fits_185 (Nat.le_of_ble_eq_true rfl) rfl rfl ?_
  refine jm_icN (Y := YX6_fits) (pc := 187) 0 dX6_fits_187 rfl ?_
  refine jm_ist (Y := YX6_fits) (pc := 188) (ls' := [_, _, _, _, _, _, _, _, _, _, _, _, _, _]) dX6_fits_188 (Nat.le_of_ble_eq_true rfl) rfl rfl ?_
  refine jm_icN (Y := YX6_fits) (pc := 190) 0 dX6_fits_190 rfl ?_
  refine jm_ist (Y := YX6_fits) (pc := 191) (ls' := [_, _, _, _, _, _, _, _, _, _, _, _, _, _]) dX6_fits_191 (Nat.le_of_ble_eq_true rfl) rfl rfl ?_
  refine jm_ldc (Y := YX6_fits) (pc := 193) (v := -1000000) dX6_fits_193 kc_RX6_47 ?_
  refine jm_ist (Y := YX6_fits) (pc := 195) (ls' := [_, _, _, _, _, _, _, _, _, _, _, _, _, _]) dX6_fits_195 (Nat.le_of_ble_eq_true rfl) rfl rfl ?_
  refine jm_iload (Y := YX6_fits) (pc := 197) dX6_fits_197 rfl ?_
  refine jm_ist (Y := YX6_fits) (pc := 199) (ls' := [_, _, _, _, _, _, _, _, _, _, _, _, _, _]) dX6_fits_199 (Nat.le_of_ble_eq_true rfl) rfl rfl ?_
  have key := c_fits0 w M0 hM hg hm9 k rr i N 0 (17 + 4 * k) 1 5 (fun v => p_sn (wU w (p_pl 0 k) v) k (M0 14) (40 * rr + i) N) hk hr hi2 hN (by omega) (by omega) (by omega) (fun _ => by omega) (by omega) (by omega) (fun v a1 a2 => ⟨hg.put (b := 0) hk (by omega) hn a1 a2, (by have e4 : wU w (p_pl 0 k) v 4 = w 4 := wU_n _ _ (by unfold p_pl; (repeat' split) <;> omega); have e5 : wU w (p_pl 0 k) v 4 ≤ 9999 := (by rw [e4]; exact hm9); exact e5), rfl⟩) (5 + 3) 0 g (nI 5) (by omega) hz (by rw [jm_tI (by omega)]; omega) (by omega)
  exact key
theorem c_fitsB1 (w g : Nat → Nat) (M0 : jm_M) (hM : M0 17 = jm_n w) (hg : rG w) (hz : ∀ j, 45 ≤ j → g j = 0) (hm9 : w 4 ≤ 9999) (k rr i N : Nat) (hk : k < w 3) (hr : rr < 8) (hi2 : i + N ≤ 40) (hN : N ≤ 12) (hn : w (17 + 4 * k + 3) = 0) : jm_J none YX6_fits 81 [some (.ref 11), some (.int (nI k)), some (.int (nI rr)), some (.int (nI i)), some (.int (nI N)), some (.int (nI 1)), none, none, none, none, none, none, none, none] [] (jm_sf M0 19 (jm_n g)) (fun o M1 => ∃ g, (∀ j, 45 ≤ j → g j = 0) ∧ o = some (.int (p_fr w k 1 (40 * rr + i) N (M0 14))) ∧ M1 = jm_sf (jm_sf M0 19 (jm_n g)) 11 (upd (M0 11) 4 (nI 0))) := by
  have h3 := hg.1.2.2.2.1
  have h2 := hg.1.2.2.1
  have hc := (hg.2.2.2.2 k hk).2.1
  refine jm_bpN (Y := YX6_fits) (pc := 81) 17 dX6_fits_81 rfl ?_
  refine jm_icN (Y := YX6_fits) (pc := 83) 4 dX6_fits_83 rfl ?_
  refine jm_ild_n (Y := YX6_fits) (pc := 84) (i := 1) dX6_fits_84 rfl rfl ?_
  refine jm_mulN (Y := YX6_fits) (pc := 85) dX6_fits_85 ?_
  refine jm_addN (Y := YX6_fits) (pc := 86) dX6_fits_86 ?_
  refine jm_ist (Y := YX6_fits) (pc := 87) (ls' := [_, _, _, _, _, _, _, _, _, _, _, _, _, _]) dX6_fits_87 (Nat.le_of_ble_eq_true rfl) rfl rfl ?_
  refine jm_iload (Y := YX6_fits) (pc := 89) dX6_fits_89 rfl ?_
  refine jm_if_neN (Y := YX6_fits) (pc := 91) dX6_fits_91 rfl (by first | omega | exact jm_lt hg.hb _) (fun h_91 => ?_) (fun h_91 => by exfalso; first | omega | exact jm_lt hg.hb _)
  refine jm_iload (Y := YX6_fits) (pc := 99) dX6_fits_99 rfl ?_
  refine jm_icN (Y := YX6_fits) (pc := 101) 1 dX6_fits_101 rfl ?_
  refine jm_icmp_neN (Y := YX6_fits) (pc := 102) dX6_fits_102 rfl (by first | omega | exact jm_lt hg.hb _) (by first | omega | exact jm_lt hg.hb _) (fun h_102 => by exfalso; first | omega | exact jm_lt hg.hb _) (fun h_102 => ?_)
  refine jm_iload (Y := YX6_fits) (pc := 105) dX6_fits_105 rfl ?_
  refine jm_icN (Y := YX6_fits) (pc := 107) 2 dX6_fits_107 rfl ?_
  refine jm_addN (Y := YX6_fits) (pc := 108) dX6_fits_108 ?_
  refine jm_goto (Y := YX6_fits) (pc := 109) dX6_fits_109 rfl ?_
  refine jm_ist (Y := YX6_fits) (pc := 126) (ls' := [_, _, _, _, _, _, _, _, _, _, _, _, _, _]) dX6_fits_126 (Nat.le_of_ble_eq_true rfl) rfl rfl ?_
  refine jm_iload (Y := YX6_fits) (pc := 128) dX6_fits_128 rfl ?_
  refine jm_if_eqN (Y := YX6_fits) (pc := 130) dX6_fits_130 rfl (by first | omega | exact jm_lt hg.hb _) (fun h_130 => by exfalso; first | omega | exact jm_lt hg.hb _) (fun h_130 => ?_)
  refine jm_iload (Y := YX6_fits) (pc := 133) dX6_fits_133 rfl ?_
  refine jm_icN (Y := YX6_fits) (pc := 135) 2 dX6_fits_135 rfl ?_
  refine jm_icmp_leN (Y := YX6_fits) (pc := 136) dX6_fits_136 rfl (by first | omega | exact jm_lt hg.hb _) (by first | omega | exact jm_lt hg.hb _) (fun h_136 => ?_) (fun h_136 => by exfalso; first | omega | exact jm_lt hg.hb _)
  refine jm_icN (Y := YX6_fits) (pc := 143) 0 dX6_fits_143 rfl ?_
  refine jm_ist (Y := YX6_fits) (pc := 144) (ls' := [_, _, _, _, _, _, _, _, _, _, _, _, _, _]) dX6_fits_144 (Nat.le_of_ble_eq_true rfl) rfl rfl ?_
  refine jm_iload (Y := YX6_fits) (pc := 146) dX6_fits_146 rfl ?_
  refine jm_if_neN (Y := YX6_fits) (pc := 148) dX6_fits_148 rfl (by first | omega | exact jm_lt hg.hb _) (fun h_148 => ?_) (fun h_148 => by exfalso; first | omega | exact jm_lt hg.hb _)
  refine jm_iload (Y := YX6_fits) (pc := 155) dX6_fits_155 rfl ?_
  refine jm_icN (Y := YX6_fits) (pc := 157) 1 dX6_fits_157 rfl ?_
  refine jm_icmp_neN (Y := YX6_fits) (pc := 158) dX6_fits_158 rfl (by first | omega | exact jm_lt hg.hb _) (by first | omega | exact jm_lt hg.hb _) (fun h_158 => by exfalso; first | omega | exact jm_lt hg.hb _) (fun h_158 => ?_)
  refine jm_ald_n (Y := YX6_fits) (pc := 161) (i := 0) dX6_fits_161 rfl rfl ?_
  refine jm_getR (Y := YX6_fits) (pc := 162) dX6_fits_162 fr_RX6_25 rfl (by decide) rfl ?_
  refine jm_icN (Y := YX6_fits) (pc := 165) 2 dX6_fits_165 rfl ?_
  refine jm_ialN (Y := YX6_fits) (pc := 166) dX6_fits_166 (by first | assumption | exact jm_arR1 ha | exact jm_arR2 ha | exact jm_arR3 ha | exact jm_arR1 hb | exact jm_arR2 hb | exact jm_arR3 hb | rfl) (by first | omega | exact jm_lt hg.hb _) (by first | assumption | exact jm_rdW | exact jm_rdN (jm_17 hM) | rfl) ?_
  refine jm_icN (Y := YX6_fits) (pc := 167) 1 dX6_fits_167 rfl ?_
  refine jm_subN (Y := YX6_fits) (pc := 168) dX6_fits_168 (by first | omega | exact jm_lt hg.hb _) ?_
  refine jm_goto (Y := YX6_fits) (pc := 169) dX6_fits_169 rfl ?_
  refine jm_ist (Y := YX6_fits) (pc := 185) (ls' := [_, _, _, _, _, _, _, _, _, _, _, _, _, _]) dX6_fits_185 (Nat.le_of_ble_eq_true rfl) rfl rfl ?_
  refine jm_icN (Y := YX6_fits) (pc := 187) 0 dX6_fits_187 rfl ?_
  refine jm_ist (Y := YX6_fits) (pc := 188) (ls' := [_, _, _, _, _, _, _, _, _, _, _, _, _, _]) dX6_fits_188 (Nat.le_of_ble_eq_true rfl) rfl rfl ?_
  refine jm_icN (Y := YX6_fits) (pc := 190) 0 dX6_fits_190 rfl ?_
  refine jm_ist (Y := YX6_fits) (pc := 191) (ls' := [_, _, _, _, _, _, _, _, _, _, _, _, _, _]) dX6_fits_191 (Nat.le_of_ble_eq_true rfl) rfl rfl ?_
  refine jm_ldc (Y := YX6_fits) (pc := 193) (v := -1000000) dX6_fits_193 kc_RX6_47 ?_
  refine jm_ist (Y := YX6_fits) (pc := 195) (ls' := [_, _, _, _, _, _, _, _, _, _, _, _, _, _]) dX6_fits_195 (Nat.le_of_ble_eq_true rfl) rfl rfl ?_
  refine jm_iload (Y := YX6_fits) (pc := 197) dX6_fits_197 rfl ?_
  refine jm_ist (Y := YX6_fits) (pc := 199) (ls' := [_, _, _, _, _, _, _, _, _, _, _, _, _, _]) dX6_fits_199 (Nat.le_of_ble_eq_true rfl) rfl rfl ?_
  have key := c_fits0 w M0 hM hg hm9 k rr i N 1 (17 + 4 * k + 2) 0 (w 2 - 1) (fun v => p_sn (wU w (p_pl 1 k) v) k (M0 14) (40 * rr + i) N) hk hr hi2 hN (by omega) (by omega) (by omega) (fun _ => by omega) (by omega) (by omega) (fun v a1 a2 => ⟨hg.put (b := 1) hk (by omega) hn a1 a2, (by have e4 : wU w (p_pl 1 k) v 4 = w 4 := wU_n _ _ (by unfold p_pl; (repeat' split) <;> omega); have e5 : wU w (p_pl 1 k) v 4 ≤ 9999 := (by rw [e4]; exact hm9); exact e5), rfl⟩) ((w 2 - 1) + 3) 0 g (nI (w 2 - 1)) (by omega) hz (by rw [jm_tI (by omega)]; omega) (by omega)
  exact key
theorem c_fitsB2 (w g : Nat → Nat) (M0 : jm_M) (hM : M0 17 = jm_n w) (hg : rG w) (hz : ∀ j, 45 ≤ j → g j = 0) (hm9 : w 4 ≤ 9999) (k rr i N : Nat) (hk : k < w 3) (hr : rr < 8) (hi2 : i + N ≤ 40) (hN : N ≤ 12) (hn : w (17 + 4 * k + 3) = 0) : jm_J none YX6_fits 81 [some (.ref 11), some (.int (nI k)), some (.int (nI rr)), some (.int (nI i)), some (.int (nI N)), some (.int (nI 2)), none, none, none, none, none, none, none, none] [] (jm_sf M0 19 (jm_n g)) (fun o M1 => ∃ g, (∀ j, 45 ≤ j → g j = 0) ∧ o = some (.int (p_fr w k 2 (40 * rr + i) N (M0 14))) ∧ M1 = jm_sf (jm_sf M0 19 (jm_n g)) 11 (upd (M0 11) 4 (nI 0))) := by
  have h3 := hg.1.2.2.2.1
  have h2 := hg.1.2.2.1
  have hc := (hg.2.2.2.2 k hk).2.1
  refine jm_bpN (Y := YX6_fits) (pc := 81) 17 dX6_fits_81 rfl ?_
  refine jm_icN (Y := YX6_fits) (pc := 83) 4 dX6_fits_83 rfl ?_
  refine jm_ild_n (Y := YX6_fits) (pc := 84) (i := 1) dX6_fits_84 rfl rfl ?_
  refine jm_mulN (Y := YX6_fits) (pc := 85) dX6_fits_85 ?_
  refine jm_addN (Y := YX6_fits) (pc := 86) dX6_fits_86 ?_
  refine jm_ist (Y := YX6_fits) (pc := 87) (ls' := [_, _, _, _, _, _, _, _, _, _, _, _, _, _]) dX6_fits_87 (Nat.le_of_ble_eq_true rfl) rfl rfl ?_
  refine jm_iload (Y := YX6_fits) (pc := 89) dX6_fits_89 rfl ?_
  refine jm_if_neN (Y := YX6_fits) (pc := 91) dX6_fits_91 rfl (by first | omega | exact jm_lt hg.hb _) (fun h_91 => ?_) (fun h_91 => by exfalso; first | omega | exact jm_lt hg.hb _)
  refine jm_iload (Y := YX6_fits) (pc := 99) dX6_fits_99 rfl ?_
  refine jm_icN (Y := YX6_fits) (pc := 101) 1 dX6_fits_101 rfl ?_
  refine jm_icmp_neN (Y := YX6_fits) (pc := 102) dX6_fits_102 rfl (by first | omega | exact jm_lt hg.hb _) (by first | omega | exact jm_lt hg.hb _) (fun h_102 => ?_) (fun h_102 => by exfalso; first | omega | exact jm_lt hg.hb _)
  refine jm_iload (Y := YX6_fits) (pc := 112) dX6_fits_112 rfl ?_
  refine jm_icN (Y := YX6_fits) (pc := 114) 2 dX6_fits_114 rfl ?_
  refine jm_icmp_neN (Y := YX6_fits) (pc := 115) dX6_fits_115 rfl (by first | omega | exact jm_lt hg.hb _) (by first | omega | exact jm_lt hg.hb _) (fun h_115 => by exfalso; first | omega | exact jm_lt hg.hb _) (fun h_115 => ?_)
  refine jm_icN (Y := YX6_fits) (pc := 118) 0 dX6_fits_118 rfl ?_
  refine jm_goto (Y := YX6_fits) (pc := 119) dX6_fits_119 rfl ?_
  refine jm_ist (Y := YX6_fits) (pc := 126) (ls' := [_, _, _, _, _, _, _, _, _, _, _, _, _, _]) dX6_fits_126 (Nat.le_of_ble_eq_true rfl) rfl rfl ?_
  refine jm_iload (Y := YX6_fits) (pc := 128) dX6_fits_128 rfl ?_
  refine jm_if_eqN (Y := YX6_fits) (pc := 130) dX6_fits_130 rfl (by first | omega | exact jm_lt hg.hb _) (fun h_130 => by exfalso; first | omega | exact jm_lt hg.hb _) (fun h_130 => ?_)
  refine jm_iload (Y := YX6_fits) (pc := 133) dX6_fits_133 rfl ?_
  refine jm_icN (Y := YX6_fits) (pc := 135) 2 dX6_fits_135 rfl ?_
  refine jm_icmp_leN (Y := YX6_fits) (pc := 136) dX6_fits_136 rfl (by first | omega | exact jm_lt hg.hb _) (by first | omega | exact jm_lt hg.hb _) (fun h_136 => ?_) (fun h_136 => by exfalso; first | omega | exact jm_lt hg.hb _)
  refine jm_icN (Y := YX6_fits) (pc := 143) 0 dX6_fits_143 rfl ?_
  refine jm_ist (Y := YX6_fits) (pc := 144) (ls' := [_, _, _, _, _, _, _, _, _, _, _, _, _, _]) dX6_fits_144 (Nat.le_of_ble_eq_true rfl) rfl rfl ?_
  refine jm_iload (Y := YX6_fits) (pc := 146) dX6_fits_146 rfl ?_
  refine jm_if_neN (Y := YX6_fits) (pc := 148) dX6_fits_148 rfl (by first | omega | exact jm_lt hg.hb _) (fun h_148 => ?_) (fun h_148 => by exfalso; first | omega | exact jm_lt hg.hb _)
  refine jm_iload (Y := YX6_fits) (pc := 155) dX6_fits_155 rfl ?_
  refine jm_icN (Y := YX6_fits) (pc := 157) 1 dX6_fits_157 rfl ?_
  refine jm_icmp_neN (Y := YX6_fits) (pc := 158) dX6_fits_158 rfl (by first | omega | exact jm_lt hg.hb _) (by first | omega | exact jm_lt hg.hb _) (fun h_158 => ?_) (fun h_158 => by exfalso; first | omega | exact jm_lt hg.hb _)
  refine jm_iload (Y := YX6_fits) (pc := 172) dX6_fits_172 rfl ?_
  refine jm_icN (Y := YX6_fits) (pc := 174) 2 dX6_fits_174 rfl ?_
  refine jm_icmp_neN (Y := YX6_fits) (pc := 175) dX6_fits_175 rfl (by first | omega | exact jm_lt hg.hb _) (by first | omega | exact jm_lt hg.hb _) (fun h_175 => by exfalso; first | omega | exact jm_lt hg.hb _) (fun h_175 => ?_)
  refine jm_bpN (Y := YX6_fits) (pc := 178) 15 dX6_fits_178 rfl ?_
  refine jm_goto (Y := YX6_fits) (pc := 180) dX6_fits_180 rfl ?_
  refine jm_ist (Y := YX6_fits) (pc := 185) (ls' := [_, _, _, _, _, _, _, _, _, _, _, _, _, _]) dX6_fits_185 (Nat.le_of_ble_eq_true rfl) rfl rfl ?_
  refine jm_icN (Y := YX6_fits) (pc := 187) 0 dX6_fits_187 rfl ?_
  refine jm_ist (Y := YX6_fits) (pc := 188) (ls' := [_, _, _, _, _, _, _, _, _, _, _, _, _, _]) dX6_fits_188 (Nat.le_of_ble_eq_true rfl) rfl rfl ?_
  refine jm_icN (Y := YX6_fits) (pc := 190) 0 dX6_fits_190 rfl ?_
  refine jm_ist (Y := YX6_fits) (pc := 191) (ls' := [_, _, _, _, _, _, _, _, _, _, _, _, _, _]) dX6_fits_191 (Nat.le_of_ble_eq_true rfl) rfl rfl ?_
  refine jm_ldc (Y := YX6_fits) (pc := 193) (v := -1000000) dX6_fits_193 kc_RX6_47 ?_
  refine jm_ist (Y := YX6_fits) (pc := 195) (ls' := [_, _, _, _, _, _, _, _, _, _, _, _, _, _]) dX6_fits_195 (Nat.le_of_ble_eq_true rfl) rfl rfl ?_
  refine jm_iload (Y := YX6_fits) (pc := 197) dX6_fits_197 rfl ?_
  refine jm_ist (Y := YX6_fits) (pc := 199) (ls' := [_, _, _, _, _, _, _, _, _, _, _, _, _, _]) dX6_fits_199 (Nat.le_of_ble_eq_true rfl) rfl rfl ?_
  have key := c_fits0 w M0 hM hg hm9 k rr i N 2 0 0 15 (fun v => p_sn (wU w (p_pl 2 k) v) k (M0 14) (40 * rr + i) N) hk hr hi2 hN (by omega) (by omega) (by omega) (fun _ => by omega) (by omega) (by omega) (fun v a1 a2 => ⟨hg.put (b := 2) hk (by omega) hn a1 a2, (by have e4 : wU w (p_pl 2 k) v 4 = w 4 := wU_n _ _ (by unfold p_pl; (repeat' split) <;> omega); have e5 : wU w (p_pl 2 k) v 4 ≤ 9999 := (by rw [e4]; exact hm9); exact e5), rfl⟩) (15 + 3) 0 g (nI 15) (by omega) hz (by rw [jm_tI (by omega)]; omega) (by omega)
  exact key
theorem c_fitsB3 (w g : Nat → Nat) (M0 : jm_M) (hM : M0 17 = jm_n w) (hg : rG w) (hz : ∀ j, 45 ≤ j → g j = 0) (hm9 : w 4 ≤ 9999) (k rr i N : Nat) (hk : k < w 3) (hr : rr < 8) (hi2 : i + N ≤ 40) (hN : N ≤ 12) (hn : w (17 + 4 * k + 3) = 0) : jm_J none YX6_fits 81 [some (.ref 11), some (.int (nI k)), some (.int (nI rr)), some (.int (nI i)), some (.int (nI N)), some (.int (nI 3)), none, none, none, none, none, none, none, none] [] (jm_sf M0 19 (jm_n g)) (fun o M1 => ∃ g, (∀ j, 45 ≤ j → g j = 0) ∧ o = some (.int (p_fr w k 3 (40 * rr + i) N (M0 14))) ∧ M1 = jm_sf (jm_sf M0 19 (jm_n g)) 11 (upd (M0 11) 4 (nI 0))) := by
  have h3 := hg.1.2.2.2.1
  have h2 := hg.1.2.2.1
  have hc := (hg.2.2.2.2 k hk).2.1
  refine jm_bpN (Y := YX6_fits) (pc := 81) 17 dX6_fits_81 rfl ?_
  refine jm_icN (Y := YX6_fits) (pc := 83) 4 dX6_fits_83 rfl ?_
  refine jm_ild_n (Y := YX6_fits) (pc := 84) (i := 1) dX6_fits_84 rfl rfl ?_
  refine jm_mulN (Y := YX6_fits) (pc := 85) dX6_fits_85 ?_
  refine jm_addN (Y := YX6_fits) (pc := 86) dX6_fits_86 ?_
  refine jm_ist (Y := YX6_fits) (pc := 87) (ls' := [_, _, _, _, _, _, _, _, _, _, _, _, _, _]) dX6_fits_87 (Nat.le_of_ble_eq_true rfl) rfl rfl ?_
  refine jm_iload (Y := YX6_fits) (pc := 89) dX6_fits_89 rfl ?_
  refine jm_if_neN (Y := YX6_fits) (pc := 91) dX6_fits_91 rfl (by first | omega | exact jm_lt hg.hb _) (fun h_91 => ?_) (fun h_91 => by exfalso; first | omega | exact jm_lt hg.hb _)
  refine jm_iload (Y := YX6_fits) (pc := 99) dX6_fits_99 rfl ?_
  refine jm_icN (Y := YX6_fits) (pc := 101) 1 dX6_fits_101 rfl ?_
  refine jm_icmp_neN (Y := YX6_fits) (pc := 102) dX6_fits_102 rfl (by first | omega | exact jm_lt hg.hb _) (by first | omega | exact jm_lt hg.hb _) (fun h_102 => ?_) (fun h_102 => by exfalso; first | omega | exact jm_lt hg.hb _)
  refine jm_iload (Y := YX6_fits) (pc := 112) dX6_fits_112 rfl ?_
  refine jm_icN (Y := YX6_fits) (pc := 114) 2 dX6_fits_114 rfl ?_
  refine jm_icmp_neN (Y := YX6_fits) (pc := 115) dX6_fits_115 rfl (by first | omega | exact jm_lt hg.hb _) (by first | omega | exact jm_lt hg.hb _) (fun h_115 => ?_) (fun h_115 => by exfalso; first | omega | exact jm_lt hg.hb _)
  refine jm_iload (Y := YX6_fits) (pc := 122) dX6_fits_122 rfl ?_
  refine jm_icN (Y := YX6_fits) (pc := 124) 1 dX6_fits_124 rfl ?_
  refine jm_addN (Y := YX6_fits) (pc := 125) dX6_fits_125 ?_
  refine jm_ist (Y := YX6_fits) (pc := 126) (ls' := [_, _, _, _, _, _, _, _, _, _, _, _, _, _]) dX6_fits_126 (Nat.le_of_ble_eq_true rfl) rfl rfl ?_
  refine jm_iload (Y := YX6_fits) (pc := 128) dX6_fits_128 rfl ?_
  refine jm_if_eqN (Y := YX6_fits) (pc := 130) dX6_fits_130 rfl (by first | omega | exact jm_lt hg.hb _) (fun h_130 => by exfalso; first | omega | exact jm_lt hg.hb _) (fun h_130 => ?_)
  refine jm_iload (Y := YX6_fits) (pc := 133) dX6_fits_133 rfl ?_
  refine jm_icN (Y := YX6_fits) (pc := 135) 2 dX6_fits_135 rfl ?_
  refine jm_icmp_leN (Y := YX6_fits) (pc := 136) dX6_fits_136 rfl (by first | omega | exact jm_lt hg.hb _) (by first | omega | exact jm_lt hg.hb _) (fun h_136 => by exfalso; first | omega | exact jm_lt hg.hb _) (fun h_136 => ?_)
  refine jm_icN (Y := YX6_fits) (pc := 139) 1 dX6_fits_139 rfl ?_
  refine jm_goto (Y := YX6_fits) (pc := 140) dX6_fits_140 rfl ?_
  refine jm_ist (Y := YX6_fits) (pc := 144) (ls' := [_, _, _, _, _, _, _, _, _, _, _, _, _, _]) dX6_fits_144 (Nat.le_of_ble_eq_true rfl) rfl rfl ?_
  refine jm_iload (Y := YX6_fits) (pc := 146) dX6_fits_146 rfl ?_
  refine jm_if_neN (Y := YX6_fits) (pc := 148) dX6_fits_148 rfl (by first | omega | exact jm_lt hg.hb _) (fun h_148 => ?_) (fun h_148 => by exfalso; first | omega | exact jm_lt hg.hb _)
  refine jm_iload (Y := YX6_fits) (pc := 155) dX6_fits_155 rfl ?_
  refine jm_icN (Y := YX6_fits) (pc := 157) 1 dX6_fits_157 rfl ?_
  refine jm_icmp_neN (Y := YX6_fits) (pc := 158) dX6_fits_158 rfl (by first | omega | exact jm_lt hg.hb _) (by first | omega | exact jm_lt hg.hb _) (fun h_158 => ?_) (fun h_158 => by exfalso; first | omega | exact jm_lt hg.hb _)
  refine jm_iload (Y := YX6_fits) (pc := 172) dX6_fits_172 rfl ?_
  refine jm_icN (Y := YX6_fits) (pc := 174) 2 dX6_fits_174 rfl ?_
  refine jm_icmp_neN (Y := YX6_fits) (pc := 175) dX6_fits_175 rfl (by first | omega | exact jm_lt hg.hb _) (by first | omega | exact jm_lt hg.hb _) (fun h_175 => ?_) (fun h_175 => by exfalso; first | omega | exact jm_lt hg.hb _)
  refine jm_bpN (Y := YX6_fits) (pc := 183) 60 dX6_fits_183 rfl ?_
  refine jm_ist (Y := YX6_fits) (pc := 185) (ls' := [_, _, _, _, _, _, _, _, _, _, _, _, _, _]) dX6_fits_185 (Nat.le_of_ble_eq_true rfl) rfl rfl ?_
  refine jm_icN (Y := YX6_fits) (pc := 187) 0 dX6_fits_187 rfl ?_
  refine jm_ist (Y := YX6_fits) (pc := 188) (ls' := [_, _, _, _, _, _, _, _, _, _, _, _, _, _]) dX6_fits_188 (Nat.le_of_ble_eq_true rfl) rfl rfl ?_
  refine jm_icN (Y := YX6_fits) (pc := 190) 0 dX6_fits_190 rfl ?_
  refine jm_ist (Y := YX6_fits) (pc := 191) (ls' := [_, _, _, _, _, _, _, _, _, _, _, _, _, _]) dX6_fits_191 (Nat.le_of_ble_eq_true rfl) rfl rfl ?_
  refine jm_ldc (Y := YX6_fits) (pc := 193) (v := -1000000) dX6_fits_193 kc_RX6_47 ?_
  refine jm_ist (Y := YX6_fits) (pc := 195) (ls' := [_, _, _, _, _, _, _, _, _, _, _, _, _, _]) dX6_fits_195 (Nat.le_of_ble_eq_true rfl) rfl rfl ?_
  refine jm_iload (Y := YX6_fits) (pc := 197) dX6_fits_197 rfl ?_
  refine jm_ist (Y := YX6_fits) (pc := 199) (ls' := [_, _, _, _, _, _, _, _, _, _, _, _, _, _]) dX6_fits_199 (Nat.le_of_ble_eq_true rfl) rfl rfl ?_
  have key := c_fits0 w M0 hM hg hm9 k rr i N 3 (17 + 4 * k + 1) 1 60 (fun v => p_sn (wU w (p_pl 3 k) v) k (M0 14) (40 * rr + i) N) hk hr hi2 hN (by omega) (by omega) (by omega) (fun _ => by omega) (by omega) (by omega) (fun v a1 a2 => ⟨hg.put (b := 3) hk (by omega) hn a1 a2, (by have e4 : wU w (p_pl 3 k) v 4 = w 4 := wU_n _ _ (by unfold p_pl; (repeat' split) <;> omega); have e5 : wU w (p_pl 3 k) v 4 ≤ 9999 := (by rw [e4]; exact hm9); exact e5), rfl⟩) (60 + 3) 0 g (nI 60) (by omega) hz (by rw [jm_tI (by omega)]; omega) (by omega)
  exact key
theorem c_fitsB4 (w g : Nat → Nat) (M0 : jm_M) (hM : M0 17 = jm_n w) (hg : rG w) (hz : ∀ j, 45 ≤ j → g j = 0) (hm9 : w 4 ≤ 9999) (k rr i N : Nat) (hk : k < w 3) (hr : rr < 8) (hi2 : i + N ≤ 40) (hN : N ≤ 12) (hn : w (17 + 4 * k + 3) = 0) : jm_J none YX6_fits 81 [some (.ref 11), some (.int (nI k)), some (.int (nI rr)), some (.int (nI i)), some (.int (nI N)), some (.int (nI 4)), none, none, none, none, none, none, none, none] [] (jm_sf M0 19 (jm_n g)) (fun o M1 => ∃ g, (∀ j, 45 ≤ j → g j = 0) ∧ o = some (.int (p_fr w k 4 (40 * rr + i) N (M0 14))) ∧ M1 = jm_sf (jm_sf M0 19 (jm_n g)) 11 (upd (M0 11) 4 (nI 0))) := by
  have h3 := hg.1.2.2.2.1
  have h2 := hg.1.2.2.1
  have hc := (hg.2.2.2.2 k hk).2.1
  refine jm_bpN (Y := YX6_fits) (pc := 81) 17 dX6_fits_81 rfl ?_
  refine jm_icN (Y := YX6_fits) (pc := 83) 4 dX6_fits_83 rfl ?_
  refine jm_ild_n (Y := YX6_fits) (pc := 84) (i := 1) dX6_fits_84 rfl rfl ?_
  refine jm_mulN (Y := YX6_fits) (pc := 85) dX6_fits_85 ?_
  refine jm_addN (Y := YX6_fits) (pc := 86) dX6_fits_86 ?_
  refine jm_ist (Y := YX6_fits) (pc := 87) (ls' := [_, _, _, _, _, _, _, _, _, _, _, _, _, _]) dX6_fits_87 (Nat.le_of_ble_eq_true rfl) rfl rfl ?_
  refine jm_iload (Y := YX6_fits) (pc := 89) dX6_fits_89 rfl ?_
  refine jm_if_neN (Y := YX6_fits) (pc := 91) dX6_fits_91 rfl (by first | omega | exact jm_lt hg.hb _) (fun h_91 => ?_) (fun h_91 => by exfalso; first | omega | exact jm_lt hg.hb _)
  refine jm_iload (Y := YX6_fits) (pc := 99) dX6_fits_99 rfl ?_
  refine jm_icN (Y := YX6_fits) (pc := 101) 1 dX6_fits_101 rfl ?_
  refine jm_icmp_neN (Y := YX6_fits) (pc := 102) dX6_fits_102 rfl (by first | omega | exact jm_lt hg.hb _) (by first | omega | exact jm_lt hg.hb _) (fun h_102 => ?_) (fun h_102 => by exfalso; first | omega | exact jm_lt hg.hb _)
  refine jm_iload (Y := YX6_fits) (pc := 112) dX6_fits_112 rfl ?_
  refine jm_icN (Y := YX6_fits) (pc := 114) 2 dX6_fits_114 rfl ?_
  refine jm_icmp_neN (Y := YX6_fits) (pc := 115) dX6_fits_115 rfl (by first | omega | exact jm_lt hg.hb _) (by first | omega | exact jm_lt hg.hb _) (fun h_115 => ?_) (fun h_115 => by exfalso; first | omega | exact jm_lt hg.hb _)
  refine jm_iload (Y := YX6_fits) (pc := 122) dX6_fits_122 rfl ?_
  refine jm_icN (Y := YX6_fits) (pc := 124) 1 dX6_fits_124 rfl ?_
  refine jm_addN (Y := YX6_fits) (pc := 125) dX6_fits_125 ?_
  refine jm_ist (Y := YX6_fits) (pc := 126) (ls' := [_, _, _, _, _, _, _, _, _, _, _, _, _, _]) dX6_fits_126 (Nat.le_of_ble_eq_true rfl) rfl rfl ?_
  refine jm_iload (Y := YX6_fits) (pc := 128) dX6_fits_128 rfl ?_
  refine jm_if_eqN (Y := YX6_fits) (pc := 130) dX6_fits_130 rfl (by first | omega | exact jm_lt hg.hb _) (fun h_130 => by exfalso; first | omega | exact jm_lt hg.hb _) (fun h_130 => ?_)
  refine jm_iload (Y := YX6_fits) (pc := 133) dX6_fits_133 rfl ?_
  refine jm_icN (Y := YX6_fits) (pc := 135) 2 dX6_fits_135 rfl ?_
  refine jm_icmp_leN (Y := YX6_fits) (pc := 136) dX6_fits_136 rfl (by first | omega | exact jm_lt hg.hb _) (by first | omega | exact jm_lt hg.hb _) (fun h_136 => by exfalso; first | omega | exact jm_lt hg.hb _) (fun h_136 => ?_)
  refine jm_icN (Y := YX6_fits) (pc := 139) 1 dX6_fits_139 rfl ?_
  refine jm_goto (Y := YX6_fits) (pc := 140) dX6_fits_140 rfl ?_
  refine jm_ist (Y := YX6_fits) (pc := 144) (ls' := [_, _, _, _, _, _, _, _, _, _, _, _, _, _]) dX6_fits_144 (Nat.le_of_ble_eq_true rfl) rfl rfl ?_
  refine jm_iload (Y := YX6_fits) (pc := 146) dX6_fits_146 rfl ?_
  refine jm_if_neN (Y := YX6_fits) (pc := 148) dX6_fits_148 rfl (by first | omega | exact jm_lt hg.hb _) (fun h_148 => ?_) (fun h_148 => by exfalso; first | omega | exact jm_lt hg.hb _)
  refine jm_iload (Y := YX6_fits) (pc := 155) dX6_fits_155 rfl ?_
  refine jm_icN (Y := YX6_fits) (pc := 157) 1 dX6_fits_157 rfl ?_
  refine jm_icmp_neN (Y := YX6_fits) (pc := 158) dX6_fits_158 rfl (by first | omega | exact jm_lt hg.hb _) (by first | omega | exact jm_lt hg.hb _) (fun h_158 => ?_) (fun h_158 => by exfalso; first | omega | exact jm_lt hg.hb _)
  refine jm_iload (Y := YX6_fits) (pc := 172) dX6_fits_172 rfl ?_
  refine jm_icN (Y := YX6_fits) (pc := 174) 2 dX6_fits_174 rfl ?_
  refine jm_icmp_neN (Y := YX6_fits) (pc := 175) dX6_fits_175 rfl (by first | omega | exact jm_lt hg.hb _) (by first | omega | exact jm_lt hg.hb _) (fun h_175 => ?_) (fun h_175 => by exfalso; first | omega | exact jm_lt hg.hb _)
  refine jm_bpN (Y := YX6_fits) (pc := 183) 60 dX6_fits_183 rfl ?_
  refine jm_ist (Y := YX6_fits) (pc := 185) (ls' := [_, _, _, _, _, _, _, _, _, _, _, _, _, _]) dX6_fits_185 (Nat.le_of_ble_eq_true rfl) rfl rfl ?_
  refine jm_icN (Y := YX6_fits) (pc := 187) 0 dX6_fits_187 rfl ?_
  refine jm_ist (Y := YX6_fits) (pc := 188) (ls' := [_, _, _, _, _, _, _, _, _, _, _, _, _, _]) dX6_fits_188 (Nat.le_of_ble_eq_true rfl) rfl rfl ?_
  refine jm_icN (Y := YX6_fits) (pc := 190) 0 dX6_fits_190 rfl ?_
  refine jm_ist (Y := YX6_fits) (pc := 191) (ls' := [_, _, _, _, _, _, _, _, _, _, _, _, _, _]) dX6_fits_191 (Nat.le_of_ble_eq_true rfl) rfl rfl ?_
  refine jm_ldc (Y := YX6_fits) (pc := 193) (v := -1000000) dX6_fits_193 kc_RX6_47 ?_
  refine jm_ist (Y := YX6_fits) (pc := 195) (ls' := [_, _, _, _, _, _, _, _, _, _, _, _, _, _]) dX6_fits_195 (Nat.le_of_ble_eq_true rfl) rfl rfl ?_
  refine jm_iload (Y := YX6_fits) (pc := 197) dX6_fits_197 rfl ?_
  refine jm_ist (Y := YX6_fits) (pc := 199) (ls' := [_, _, _, _, _, _, _, _, _, _, _, _, _, _]) dX6_fits_199 (Nat.le_of_ble_eq_true rfl) rfl rfl ?_
  have key := c_fits0 w M0 hM hg hm9 k rr i N 4 (17 + 4 * k + 1) 1 60 (fun v => p_sn (wU w (p_pl 4 k) v) k (M0 14) (40 * rr + i) N) hk hr hi2 hN (by omega) (by omega) (by omega) (fun _ => by omega) (by omega) (by omega) (fun v a1 a2 => ⟨hg.put (b := 4) hk (by omega) hn a1 a2, (by have e4 : wU w (p_pl 4 k) v 4 = w 4 := wU_n _ _ (by unfold p_pl; (repeat' split) <;> omega); have e5 : wU w (p_pl 4 k) v 4 ≤ 9999 := (by rw [e4]; exact hm9); exact e5), rfl⟩) (60 + 3) 0 g (nI 60) (by omega) hz (by rw [jm_tI (by omega)]; omega) (by omega)
  exact key
/-- fits: the answer, and whether it tells of a row (what status() says then) -/
def q_fits (w : Nat → Nat) (ln : Nat → Int32) (mn : Nat → Nat) (it : Nat → Int32) (v r i n a : Int32) : Int32 × Option Int32 :=
  if 0 ≤ v.toInt ∧ v.toInt < w 3 ∧ 0 ≤ r.toInt ∧ r.toInt ≤ 7 ∧ 1 ≤ n.toInt ∧ n.toInt ≤ 12 ∧ 0 ≤ a.toInt ∧ a.toInt ≤ 4 then
    (if w (17 + 4 * v.toInt.toNat + 3) = 1 then (-1000002, none)
     else if ln r.toInt.toNat = -1000000 then (-1000011, some 1)
     else if 0 ≤ i.toInt ∧ 0 ≤ n.toInt ∧ i.toInt + n.toInt ≤ mn r.toInt.toNat then (p_fr w v.toInt.toNat a.toInt.toNat (40 * r.toInt.toNat + i.toInt.toNat) n.toInt.toNat it, some 0)
     else (-1000012, some 2))
  else (-1000001, none)
def jm_qs (M0 : jm_M) (q : Int32 × Option Int32) : Option Value → jm_M → Prop := fun o M' => o = some (.int q.1) ∧ ∃ g', (∀ j, 45 ≤ j → g' j = 0) ∧ M' = match q.2 with | none => jm_sf M0 19 (jm_n g') | some z => jm_sf (jm_sf M0 19 (jm_n g')) 11 (upd (M0 11) 4 z)
theorem c_fits (w g : Nat → Nat) (M0 : jm_M) (hM : M0 17 = jm_n w) (hg : rG w) (hz : ∀ j, 45 ≤ j → g j = 0) (hm : w 4 ≤ 9999) (ln : Nat → Int32) (mn : Nat → Nat) (h12 : ∀ r, r < 8 → M0 12 r = ln r) (h13 : ∀ r, r < 8 → M0 13 r = nI (mn r)) (h40 : ∀ r, r < 8 → mn r ≤ 40) (v r i n a : Int32) : jm_J none YX6_fits 0 [some (.ref 11), some (.int v), some (.int r), some (.int i), some (.int n), some (.int a), none, none, none, none, none, none, none, none] [] (jm_sf M0 19 (jm_n g)) (jm_qs M0 (q_fits w ln mn (M0 14) v r i n a)) := by
  have h3 := hg.1.2.2.2.1
  refine jm_ald_n (Y := YX6_fits) (pc := 0) (i := 0) dX6_fits_0 rfl rfl ?_
  refine jm_ild_n (Y := YX6_fits) (pc := 1) (i := 1) dX6_fits_1 rfl rfl ?_
  refine jm_V1ie (Y := YX6_fits) (pc := 2) dX6_fits_2 lk_RX6_176 ⟨_, rfl⟩ rfl rfl (by decide) (Nat.le_of_ble_eq_true rfl) ⟨by decide, by decide⟩ (c_isWord w _ (jm_17 hM) hg _) ?_
  refine jm_if_eqB (Y := YX6_fits) (pc := 5) dX6_fits_5 rfl (fun h_5 => ?_) (fun h_5 => ?_)
  · refine jm_ldc (Y := YX6_fits) (pc := 36) (v := -1000001) dX6_fits_36 kc_RX6_61 ?_
    refine jm_ret (Y := YX6_fits) (pc := 38) (st := []) dX6_fits_38 rfl rfl ?_
    first
      | (have eq9 : q_fits w ln mn (M0 14) v r i n a = (-1000001, none) := (by unfold q_fits; rw [if_neg (by omega)]); rw [eq9]; exact ⟨rfl, g, hz, rfl⟩)
      | (have eq9 : q_fits w ln mn (M0 14) (nI k) (nI rr) i (nI N) (nI b) = (-1000002, none) := (by unfold q_fits; rw [if_pos (by omega), n_k, if_pos h_44]); rw [eq9]; exact ⟨rfl, g, hz, rfl⟩)
      | (have eq9 : q_fits w ln mn (M0 14) (nI k) (nI rr) i (nI N) (nI b) = (-1000011, some 1) := (by unfold q_fits; rw [if_pos (by omega), n_k, if_neg h_44, n_rr, if_pos (by rw [← e12]; exact h_55)]); rw [eq9]; exact ⟨rfl, g, hz, rfl⟩)
      | (have eq9 : q_fits w ln mn (M0 14) (nI k) (nI rr) i (nI N) (nI b) = (-1000012, some 2) := (by unfold q_fits; rw [if_pos (by omega), n_k, if_neg h_44, n_rr, if_neg (by rw [← e12]; exact h_55), if_neg (by omega)]); rw [eq9]; exact ⟨rfl, g, hz, rfl⟩)
  · refine jm_ild_n (Y := YX6_fits) (pc := 8) (i := 2) dX6_fits_8 rfl rfl ?_
    refine jm_S1ie (Y := YX6_fits) (pc := 9) dX6_fits_9 lk_RX6_57 ⟨_, rfl⟩ rfl (by decide) (Nat.le_of_ble_eq_true rfl) ⟨by decide, by decide⟩ (c_isRowN _ _) ?_
    refine jm_if_eqB (Y := YX6_fits) (pc := 12) dX6_fits_12 rfl (fun h_12 => ?_) (fun h_12 => ?_)
    · refine jm_ldc (Y := YX6_fits) (pc := 36) (v := -1000001) dX6_fits_36 kc_RX6_61 ?_
      refine jm_ret (Y := YX6_fits) (pc := 38) (st := []) dX6_fits_38 rfl rfl ?_
      first
        | (have eq9 : q_fits w ln mn (M0 14) v r i n a = (-1000001, none) := (by unfold q_fits; rw [if_neg (by omega)]); rw [eq9]; exact ⟨rfl, g, hz, rfl⟩)
        | (have eq9 : q_fits w ln mn (M0 14) (nI k) (nI rr) i (nI N) (nI b) = (-1000002, none) := (by unfold q_fits; rw [if_pos (by omega), n_k, if_pos h_44]); rw [eq9]; exact ⟨rfl, g, hz, rfl⟩)
        | (have eq9 : q_fits w ln mn (M0 14) (nI k) (nI rr) i (nI N) (nI b) = (-1000011, some 1) := (by unfold q_fits; rw [if_pos (by omega), n_k, if_neg h_44, n_rr, if_pos (by rw [← e12]; exact h_55)]); rw [eq9]; exact ⟨rfl, g, hz, rfl⟩)
        | (have eq9 : q_fits w ln mn (M0 14) (nI k) (nI rr) i (nI N) (nI b) = (-1000012, some 2) := (by unfold q_fits; rw [if_pos (by omega), n_k, if_neg h_44, n_rr, if_neg (by rw [← e12]; exact h_55), if_neg (by omega)]); rw [eq9]; exact ⟨rfl, g, hz, rfl⟩)
    · refine jm_iload (Y := YX6_fits) (pc := 15) dX6_fits_15 rfl ?_
      refine jm_icN (Y := YX6_fits) (pc := 17) 1 dX6_fits_17 rfl ?_
      refine jm_bpN (Y := YX6_fits) (pc := 18) 12 dX6_fits_18 rfl ?_
      refine jm_S3ie (Y := YX6_fits) (pc := 20) dX6_fits_20 lk_RX6_53 ⟨_, rfl⟩ rfl rfl rfl (by decide) (Nat.le_of_ble_eq_true rfl) ⟨by decide, by decide⟩ (c_inN _ _ _ _ (by decide) (by decide)) ?_
      refine jm_if_eqB (Y := YX6_fits) (pc := 23) dX6_fits_23 rfl (fun h_23 => ?_) (fun h_23 => ?_)
      · refine jm_ldc (Y := YX6_fits) (pc := 36) (v := -1000001) dX6_fits_36 kc_RX6_61 ?_
        refine jm_ret (Y := YX6_fits) (pc := 38) (st := []) dX6_fits_38 rfl rfl ?_
        first
          | (have eq9 : q_fits w ln mn (M0 14) v r i n a = (-1000001, none) := (by unfold q_fits; rw [if_neg (by omega)]); rw [eq9]; exact ⟨rfl, g, hz, rfl⟩)
          | (have eq9 : q_fits w ln mn (M0 14) (nI k) (nI rr) i (nI N) (nI b) = (-1000002, none) := (by unfold q_fits; rw [if_pos (by omega), n_k, if_pos h_44]); rw [eq9]; exact ⟨rfl, g, hz, rfl⟩)
          | (have eq9 : q_fits w ln mn (M0 14) (nI k) (nI rr) i (nI N) (nI b) = (-1000011, some 1) := (by unfold q_fits; rw [if_pos (by omega), n_k, if_neg h_44, n_rr, if_pos (by rw [← e12]; exact h_55)]); rw [eq9]; exact ⟨rfl, g, hz, rfl⟩)
          | (have eq9 : q_fits w ln mn (M0 14) (nI k) (nI rr) i (nI N) (nI b) = (-1000012, some 2) := (by unfold q_fits; rw [if_pos (by omega), n_k, if_neg h_44, n_rr, if_neg (by rw [← e12]; exact h_55), if_neg (by omega)]); rw [eq9]; exact ⟨rfl, g, hz, rfl⟩)
      · refine jm_iload (Y := YX6_fits) (pc := 26) dX6_fits_26 rfl ?_
        refine jm_icN (Y := YX6_fits) (pc := 28) 0 dX6_fits_28 rfl ?_
        refine jm_icN (Y := YX6_fits) (pc := 29) 4 dX6_fits_29 rfl ?_
        refine jm_S3ie (Y := YX6_fits) (pc := 30) dX6_fits_30 lk_RX6_53 ⟨_, rfl⟩ rfl rfl rfl (by decide) (Nat.le_of_ble_eq_true rfl) ⟨by decide, by decide⟩ (c_inN _ _ _ _ (by decide) (by decide)) ?_
        refine jm_if_neB (Y := YX6_fits) (pc := 33) dX6_fits_33 rfl (fun h_33 => ?_) (fun h_33 => ?_)
        · obtain ⟨k, h_k, rfl, t_k, n_k⟩ := jm_ofL (v := v) (n := w 3) (by omega) (by omega)
          obtain ⟨rr, h_rr, rfl, t_rr, n_rr⟩ := jm_ofL (v := r) (n := 8) (by omega) (by omega)
          obtain ⟨N, h_N, rfl, t_N, n_N⟩ := jm_ofL (v := n) (n := 13) (by omega) (by omega)
          obtain ⟨b, h_b, rfl, t_b, n_b⟩ := jm_ofL (v := a) (n := 5) (by omega) (by omega)
          refine jm_ald_n (Y := YX6_fits) (pc := 39) (i := 0) dX6_fits_39 rfl rfl ?_
          refine jm_ild_n (Y := YX6_fits) (pc := 40) (i := 1) dX6_fits_40 rfl rfl ?_
          refine jm_V1ie (Y := YX6_fits) (pc := 41) dX6_fits_41 lk_RX6_208 ⟨_, rfl⟩ rfl rfl (by decide) (Nat.le_of_ble_eq_true rfl) ⟨by decide, by decide⟩ (c_isGone w _ (jm_17 hM) hg _ (by omega)) ?_
          refine jm_if_eqB (Y := YX6_fits) (pc := 44) dX6_fits_44 rfl (fun h_44 => ?_) (fun h_44 => ?_)
          · have hn : w (17 + 4 * k + 3) = 0 := by { have := (hg.2.2.1 k (by omega)).2.2.2; omega }
            have e12 : jm_sf M0 19 (jm_n g) 12 rr = ln rr := h12 rr (by omega)
            have e13 : jm_sf M0 19 (jm_n g) 13 rr = nI (mn rr) := h13 rr (by omega)
            have e40 := h40 rr (by omega)
            refine jm_ald_n (Y := YX6_fits) (pc := 50) (i := 0) dX6_fits_50 rfl rfl ?_
            refine jm_ild_n (Y := YX6_fits) (pc := 51) (i := 2) dX6_fits_51 rfl rfl ?_
            refine jm_V1ie (Y := YX6_fits) (pc := 52) dX6_fits_52 lk_RX6_69 ⟨_, rfl⟩ rfl rfl (by decide) (Nat.le_of_ble_eq_true rfl) ⟨by decide, by decide⟩ (c_isMissing _ _ (by omega)) ?_
            refine jm_if_eqB (Y := YX6_fits) (pc := 55) dX6_fits_55 rfl (fun h_55 => ?_) (fun h_55 => ?_)
            · refine jm_ald_n (Y := YX6_fits) (pc := 64) (i := 0) dX6_fits_64 rfl rfl ?_
              refine jm_ild_n (Y := YX6_fits) (pc := 65) (i := 2) dX6_fits_65 rfl rfl ?_
              refine jm_ild_n (Y := YX6_fits) (pc := 66) (i := 3) dX6_fits_66 rfl rfl ?_
              refine jm_iload (Y := YX6_fits) (pc := 67) dX6_fits_67 rfl ?_
              refine jm_V3ie (Y := YX6_fits) (pc := 69) dX6_fits_69 lk_RX6_76 ⟨_, rfl⟩ rfl rfl rfl rfl (by decide) (Nat.le_of_ble_eq_true rfl) ⟨by decide, by decide⟩ (c_isPart _ _ rr (mn rr) _ (by omega) e13 e40) ?_
              refine jm_if_neB (Y := YX6_fits) (pc := 72) dX6_fits_72 rfl (fun h_72 => ?_) (fun h_72 => ?_)
              · obtain ⟨ii, hii, rfl, tii, nii⟩ := jm_ofL (v := i) (n := 41) (by omega) (by omega)
                have eq9 : q_fits w ln mn (M0 14) (nI k) (nI rr) (nI ii) (nI N) (nI b) = (p_fr w k b (40 * rr + ii) N (M0 14), some 0) := (by unfold q_fits; rw [if_pos (by omega), n_k, n_rr, n_N, n_b, nii, if_neg (by omega), if_neg (by rw [← e12]; exact h_55), if_pos (by omega)])
                rw [eq9]
                rcases (show b = 0 ∨ b = 1 ∨ b = 2 ∨ b = 3 ∨ b = 4 by omega) with rfl | rfl | rfl | rfl | rfl
                · exact jm_wk (c_fitsB0 w g M0 hM hg hz hm k rr ii N (by omega) (by omega) (by omega) (by omega) hn) (fun o M1 z => (by obtain ⟨g1, a1, a2, a3⟩ := z; exact ⟨a2, g1, a1, a3⟩))
                · exact jm_wk (c_fitsB1 w g M0 hM hg hz hm k rr ii N (by omega) (by omega) (by omega) (by omega) hn) (fun o M1 z => (by obtain ⟨g1, a1, a2, a3⟩ := z; exact ⟨a2, g1, a1, a3⟩))
                · exact jm_wk (c_fitsB2 w g M0 hM hg hz hm k rr ii N (by omega) (by omega) (by omega) (by omega) hn) (fun o M1 z => (by obtain ⟨g1, a1, a2, a3⟩ := z; exact ⟨a2, g1, a1, a3⟩))
                · exact jm_wk (c_fitsB3 w g M0 hM hg hz hm k rr ii N (by omega) (by omega) (by omega) (by omega) hn) (fun o M1 z => (by obtain ⟨g1, a1, a2, a3⟩ := z; exact ⟨a2, g1, a1, a3⟩))
                · exact jm_wk (c_fitsB4 w g M0 hM hg hz hm k rr ii N (by omega) (by omega) (by omega) (by omega) hn) (fun o M1 z => (by obtain ⟨g1, a1, a2, a3⟩ := z; exact ⟨a2, g1, a1, a3⟩))
              · refine jm_ald_n (Y := YX6_fits) (pc := 75) (i := 0) dX6_fits_75 rfl rfl ?_
                refine jm_icN (Y := YX6_fits) (pc := 76) 2 dX6_fits_76 rfl ?_
                refine jm_V1ie (Y := YX6_fits) (pc := 77) dX6_fits_77 lk_RX6_62 ⟨_, rfl⟩ rfl rfl (by decide) (Nat.le_of_ble_eq_true rfl) ⟨by decide, by decide⟩ (c_found _ _) ?_
                refine jm_ret (Y := YX6_fits) (pc := 80) (st := []) dX6_fits_80 rfl rfl ?_
                first
                  | (have eq9 : q_fits w ln mn (M0 14) v r i n a = (-1000001, none) := (by unfold q_fits; rw [if_neg (by omega)]); rw [eq9]; exact ⟨rfl, g, hz, rfl⟩)
                  | (have eq9 : q_fits w ln mn (M0 14) (nI k) (nI rr) i (nI N) (nI b) = (-1000002, none) := (by unfold q_fits; rw [if_pos (by omega), n_k, if_pos h_44]); rw [eq9]; exact ⟨rfl, g, hz, rfl⟩)
                  | (have eq9 : q_fits w ln mn (M0 14) (nI k) (nI rr) i (nI N) (nI b) = (-1000011, some 1) := (by unfold q_fits; rw [if_pos (by omega), n_k, if_neg h_44, n_rr, if_pos (by rw [← e12]; exact h_55)]); rw [eq9]; exact ⟨rfl, g, hz, rfl⟩)
                  | (have eq9 : q_fits w ln mn (M0 14) (nI k) (nI rr) i (nI N) (nI b) = (-1000012, some 2) := (by unfold q_fits; rw [if_pos (by omega), n_k, if_neg h_44, n_rr, if_neg (by rw [← e12]; exact h_55), if_neg (by omega)]); rw [eq9]; exact ⟨rfl, g, hz, rfl⟩)
            · refine jm_ald_n (Y := YX6_fits) (pc := 58) (i := 0) dX6_fits_58 rfl rfl ?_
              refine jm_icN (Y := YX6_fits) (pc := 59) 1 dX6_fits_59 rfl ?_
              refine jm_V1ie (Y := YX6_fits) (pc := 60) dX6_fits_60 lk_RX6_62 ⟨_, rfl⟩ rfl rfl (by decide) (Nat.le_of_ble_eq_true rfl) ⟨by decide, by decide⟩ (c_found _ _) ?_
              refine jm_ret (Y := YX6_fits) (pc := 63) (st := []) dX6_fits_63 rfl rfl ?_
              first
                | (have eq9 : q_fits w ln mn (M0 14) v r i n a = (-1000001, none) := (by unfold q_fits; rw [if_neg (by omega)]); rw [eq9]; exact ⟨rfl, g, hz, rfl⟩)
                | (have eq9 : q_fits w ln mn (M0 14) (nI k) (nI rr) i (nI N) (nI b) = (-1000002, none) := (by unfold q_fits; rw [if_pos (by omega), n_k, if_pos h_44]); rw [eq9]; exact ⟨rfl, g, hz, rfl⟩)
                | (have eq9 : q_fits w ln mn (M0 14) (nI k) (nI rr) i (nI N) (nI b) = (-1000011, some 1) := (by unfold q_fits; rw [if_pos (by omega), n_k, if_neg h_44, n_rr, if_pos (by rw [← e12]; exact h_55)]); rw [eq9]; exact ⟨rfl, g, hz, rfl⟩)
                | (have eq9 : q_fits w ln mn (M0 14) (nI k) (nI rr) i (nI N) (nI b) = (-1000012, some 2) := (by unfold q_fits; rw [if_pos (by omega), n_k, if_neg h_44, n_rr, if_neg (by rw [← e12]; exact h_55), if_neg (by omega)]); rw [eq9]; exact ⟨rfl, g, hz, rfl⟩)
          · refine jm_ldc (Y := YX6_fits) (pc := 47) (v := -1000002) dX6_fits_47 kc_RX6_164 ?_
            refine jm_ret (Y := YX6_fits) (pc := 49) (st := []) dX6_fits_49 rfl rfl ?_
            first
              | (have eq9 : q_fits w ln mn (M0 14) v r i n a = (-1000001, none) := (by unfold q_fits; rw [if_neg (by omega)]); rw [eq9]; exact ⟨rfl, g, hz, rfl⟩)
              | (have eq9 : q_fits w ln mn (M0 14) (nI k) (nI rr) i (nI N) (nI b) = (-1000002, none) := (by unfold q_fits; rw [if_pos (by omega), n_k, if_pos h_44]); rw [eq9]; exact ⟨rfl, g, hz, rfl⟩)
              | (have eq9 : q_fits w ln mn (M0 14) (nI k) (nI rr) i (nI N) (nI b) = (-1000011, some 1) := (by unfold q_fits; rw [if_pos (by omega), n_k, if_neg h_44, n_rr, if_pos (by rw [← e12]; exact h_55)]); rw [eq9]; exact ⟨rfl, g, hz, rfl⟩)
              | (have eq9 : q_fits w ln mn (M0 14) (nI k) (nI rr) i (nI N) (nI b) = (-1000012, some 2) := (by unfold q_fits; rw [if_pos (by omega), n_k, if_neg h_44, n_rr, if_neg (by rw [← e12]; exact h_55), if_neg (by omega)]); rw [eq9]; exact ⟨rfl, g, hz, rfl⟩)
        · refine jm_ldc (Y := YX6_fits) (pc := 36) (v := -1000001) dX6_fits_36 kc_RX6_61 ?_
          refine jm_ret (Y := YX6_fits) (pc := 38) (st := []) dX6_fits_38 rfl rfl ?_
          first
            | (have eq9 : q_fits w ln mn (M0 14) v r i n a = (-1000001, none) := (by unfold q_fits; rw [if_neg (by omega)]); rw [eq9]; exact ⟨rfl, g, hz, rfl⟩)
            | (have eq9 : q_fits w ln mn (M0 14) (nI k) (nI rr) i (nI N) (nI b) = (-1000002, none) := (by unfold q_fits; rw [if_pos (by omega), n_k, if_pos h_44]); rw [eq9]; exact ⟨rfl, g, hz, rfl⟩)
            | (have eq9 : q_fits w ln mn (M0 14) (nI k) (nI rr) i (nI N) (nI b) = (-1000011, some 1) := (by unfold q_fits; rw [if_pos (by omega), n_k, if_neg h_44, n_rr, if_pos (by rw [← e12]; exact h_55)]); rw [eq9]; exact ⟨rfl, g, hz, rfl⟩)
            | (have eq9 : q_fits w ln mn (M0 14) (nI k) (nI rr) i (nI N) (nI b) = (-1000012, some 2) := (by unfold q_fits; rw [if_pos (by omega), n_k, if_neg h_44, n_rr, if_neg (by rw [← e12]; exact h_55), if_neg (by omega)]); rw [eq9]; exact ⟨rfl, g, hz, rfl⟩)
