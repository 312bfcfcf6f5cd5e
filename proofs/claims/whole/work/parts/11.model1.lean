/-! the reference: rivers as rows of 45 numbers -/
theorem c_goesTo (i : Nat) (w : Nat → Nat) (k : Nat) (M : jm_M) (hi : jm_ar i = some (0, 45)) (hM : M i = jm_n w) (hb : ∀ j, w j ≤ 20000) (hk : k < 7) (hc : w (17 + 4 * k + 2) < 12) (hk1 : 1 ≤ w (17 + 4 * k)) : jm_J none YX6_goesTo 0 [some (.ref i), some (.int (nI k)), none, none, none, none] [] M (jm_is (some (.int (nI (p_to w k)))) M) := by
  have hx := jm_tI (jm_lt hb (17 + 4 * k))
  have u1 := p_up_le w (w (17 + 4 * k + 2)) (w (17 + 4 * k + 1))
  refine jm_ald_n (Y := YX6_goesTo) (pc := 0) (i := 0) dX6_goesTo_0 rfl rfl ?_
  refine jm_bpN (Y := YX6_goesTo) (pc := 1) 17 dX6_goesTo_1 rfl ?_
  refine jm_icN (Y := YX6_goesTo) (pc := 3) 4 dX6_goesTo_3 rfl ?_
  refine jm_ild_n (Y := YX6_goesTo) (pc := 4) (i := 1) dX6_goesTo_4 rfl rfl ?_
  refine jm_mulN (Y := YX6_goesTo) (pc := 5) dX6_goesTo_5 ?_
  refine jm_addN (Y := YX6_goesTo) (pc := 6) dX6_goesTo_6 ?_
  refine jm_icN (Y := YX6_goesTo) (pc := 7) 2 dX6_goesTo_7 rfl ?_
  refine jm_addN (Y := YX6_goesTo) (pc := 8) dX6_goesTo_8 ?_
  refine jm_ialN (Y := YX6_goesTo) (pc := 9) dX6_goesTo_9 (by first | assumption | exact jm_arR1 ha | exact jm_arR2 ha | exact jm_arR3 ha | exact jm_arR1 hb | exact jm_arR2 hb | exact jm_arR3 hb | rfl) (by first | omega | exact jm_lt hb _ | exact p_pace_lt hb _) (by first | assumption | exact jm_rdN hM | rfl) ?_
  refine jm_ist_n (Y := YX6_goesTo) (pc := 10) (i := 2) (ls' := [_, _, _, _, _, _]) dX6_goesTo_10 rfl (Nat.le_of_ble_eq_true rfl) rfl rfl ?_
  refine jm_ald_n (Y := YX6_goesTo) (pc := 11) (i := 0) dX6_goesTo_11 rfl rfl ?_
  refine jm_bpN (Y := YX6_goesTo) (pc := 12) 17 dX6_goesTo_12 rfl ?_
  refine jm_icN (Y := YX6_goesTo) (pc := 14) 4 dX6_goesTo_14 rfl ?_
  refine jm_ild_n (Y := YX6_goesTo) (pc := 15) (i := 1) dX6_goesTo_15 rfl rfl ?_
  refine jm_mulN (Y := YX6_goesTo) (pc := 16) dX6_goesTo_16 ?_
  refine jm_addN (Y := YX6_goesTo) (pc := 17) dX6_goesTo_17 ?_
  refine jm_icN (Y := YX6_goesTo) (pc := 18) 1 dX6_goesTo_18 rfl ?_
  refine jm_addN (Y := YX6_goesTo) (pc := 19) dX6_goesTo_19 ?_
  refine jm_ialN (Y := YX6_goesTo) (pc := 20) dX6_goesTo_20 (by first | assumption | exact jm_arR1 ha | exact jm_arR2 ha | exact jm_arR3 ha | exact jm_arR1 hb | exact jm_arR2 hb | exact jm_arR3 hb | rfl) (by first | omega | exact jm_lt hb _ | exact p_pace_lt hb _) (by first | assumption | exact jm_rdN hM | rfl) ?_
  refine jm_ist_n (Y := YX6_goesTo) (pc := 21) (i := 3) (ls' := [_, _, _, _, _, _]) dX6_goesTo_21 rfl (Nat.le_of_ble_eq_true rfl) rfl rfl ?_
  refine jm_ald_n (Y := YX6_goesTo) (pc := 22) (i := 0) dX6_goesTo_22 rfl rfl ?_
  refine jm_ild_n (Y := YX6_goesTo) (pc := 23) (i := 2) dX6_goesTo_23 rfl rfl ?_
  refine jm_S2ie (Y := YX6_goesTo) (pc := 24) dX6_goesTo_24 lk_RX6_146 ⟨_, rfl⟩ rfl rfl (by decide) (Nat.le_of_ble_eq_true rfl) ⟨by decide, by decide⟩ (c_pace _ w _ _ hi hM hb (by omega)) ?_
  refine jm_ist (Y := YX6_goesTo) (pc := 27) (ls' := [_, _, _, _, _, _]) dX6_goesTo_27 (Nat.le_of_ble_eq_true rfl) rfl rfl ?_
  refine jm_ald_n (Y := YX6_goesTo) (pc := 29) (i := 0) dX6_goesTo_29 rfl rfl ?_
  refine jm_bpN (Y := YX6_goesTo) (pc := 30) 17 dX6_goesTo_30 rfl ?_
  refine jm_icN (Y := YX6_goesTo) (pc := 32) 4 dX6_goesTo_32 rfl ?_
  refine jm_ild_n (Y := YX6_goesTo) (pc := 33) (i := 1) dX6_goesTo_33 rfl rfl ?_
  refine jm_mulN (Y := YX6_goesTo) (pc := 34) dX6_goesTo_34 ?_
  refine jm_addN (Y := YX6_goesTo) (pc := 35) dX6_goesTo_35 ?_
  refine jm_ialN (Y := YX6_goesTo) (pc := 36) dX6_goesTo_36 (by first | assumption | exact jm_arR1 ha | exact jm_arR2 ha | exact jm_arR3 ha | exact jm_arR1 hb | exact jm_arR2 hb | exact jm_arR3 hb | rfl) (by first | omega | exact jm_lt hb _ | exact p_pace_lt hb _) (by first | assumption | exact jm_rdN hM | rfl) ?_
  by_cases e_37_1 : Int32.toInt (nI (w (17 + 4 * k))) = 1
  · refine jm_tin dX6_goesTo_37 (by rw [e_37_1]; decide) (by rw [e_37_1]; decide) (by rw [e_37_1]; rfl) rfl ?_
    refine jm_ild_n (Y := YX6_goesTo) (pc := 68) (i := 2) dX6_goesTo_68 rfl rfl ?_
    refine jm_iload (Y := YX6_goesTo) (pc := 69) dX6_goesTo_69 rfl ?_
    refine jm_addN (Y := YX6_goesTo) (pc := 71) dX6_goesTo_71 ?_
    refine jm_ret (Y := YX6_goesTo) (pc := 72) (st := []) dX6_goesTo_72 rfl rfl ?_
    unfold p_to
    first | exact jm_eqN (by rw [if_pos (by omega)]) | exact jm_eqN (by rw [if_neg (by omega), if_pos (by omega), if_neg (by omega)]) | exact jm_eqN (by rw [if_neg (by omega), if_pos (by omega), if_pos (by omega)]) | exact jm_eqN (by rw [if_neg (by omega), if_neg (by omega), if_pos (by omega)]) | exact jm_eqN (by rw [if_neg (by omega), if_neg (by omega), if_neg (by omega), if_pos (by omega)]) | exact jm_eqN (by rw [if_neg (by omega), if_neg (by omega), if_neg (by omega), if_neg (by omega)]) | fail
  by_cases e_37_2 : Int32.toInt (nI (w (17 + 4 * k))) = 2
  · refine jm_tin dX6_goesTo_37 (by rw [e_37_2]; decide) (by rw [e_37_2]; decide) (by rw [e_37_2]; rfl) rfl ?_
    refine jm_ild_n (Y := YX6_goesTo) (pc := 73) (i := 2) dX6_goesTo_73 rfl rfl ?_
    refine jm_iload (Y := YX6_goesTo) (pc := 74) dX6_goesTo_74 rfl ?_
    refine jm_addN (Y := YX6_goesTo) (pc := 76) dX6_goesTo_76 ?_
    refine jm_ret (Y := YX6_goesTo) (pc := 77) (st := []) dX6_goesTo_77 rfl rfl ?_
    unfold p_to
    first | exact jm_eqN (by rw [if_pos (by omega)]) | exact jm_eqN (by rw [if_neg (by omega), if_pos (by omega), if_neg (by omega)]) | exact jm_eqN (by rw [if_neg (by omega), if_pos (by omega), if_pos (by omega)]) | exact jm_eqN (by rw [if_neg (by omega), if_neg (by omega), if_pos (by omega)]) | exact jm_eqN (by rw [if_neg (by omega), if_neg (by omega), if_neg (by omega), if_pos (by omega)]) | exact jm_eqN (by rw [if_neg (by omega), if_neg (by omega), if_neg (by omega), if_neg (by omega)]) | fail
  by_cases e_37_3 : Int32.toInt (nI (w (17 + 4 * k))) = 3
  · refine jm_tin dX6_goesTo_37 (by rw [e_37_3]; decide) (by rw [e_37_3]; decide) (by rw [e_37_3]; rfl) rfl ?_
    refine jm_ild_n (Y := YX6_goesTo) (pc := 78) (i := 2) dX6_goesTo_78 rfl rfl ?_
    refine jm_iload (Y := YX6_goesTo) (pc := 79) dX6_goesTo_79 rfl ?_
    refine jm_icN (Y := YX6_goesTo) (pc := 81) 1 dX6_goesTo_81 rfl ?_
    refine jm_icmp_leN (Y := YX6_goesTo) (pc := 82) dX6_goesTo_82 rfl (by first | omega | exact jm_lt hb _ | exact p_pace_lt hb _) (by first | omega | exact jm_lt hb _ | exact p_pace_lt hb _) (fun h_82 => ?_) (fun h_82 => ?_)
    · refine jm_iload (Y := YX6_goesTo) (pc := 92) dX6_goesTo_92 rfl ?_
      refine jm_addN (Y := YX6_goesTo) (pc := 94) dX6_goesTo_94 ?_
      refine jm_ret (Y := YX6_goesTo) (pc := 95) (st := []) dX6_goesTo_95 rfl rfl ?_
      unfold p_to
      first | exact jm_eqN (by rw [if_pos (by omega)]) | exact jm_eqN (by rw [if_neg (by omega), if_pos (by omega), if_neg (by omega)]) | exact jm_eqN (by rw [if_neg (by omega), if_pos (by omega), if_pos (by omega)]) | exact jm_eqN (by rw [if_neg (by omega), if_neg (by omega), if_pos (by omega)]) | exact jm_eqN (by rw [if_neg (by omega), if_neg (by omega), if_neg (by omega), if_pos (by omega)]) | exact jm_eqN (by rw [if_neg (by omega), if_neg (by omega), if_neg (by omega), if_neg (by omega)]) | fail
    · refine jm_iload (Y := YX6_goesTo) (pc := 85) dX6_goesTo_85 rfl ?_
      refine jm_icN (Y := YX6_goesTo) (pc := 87) 1 dX6_goesTo_87 rfl ?_
      refine jm_subN (Y := YX6_goesTo) (pc := 88) dX6_goesTo_88 (by first | omega | exact jm_lt hb _ | exact p_pace_lt hb _) ?_
      refine jm_goto (Y := YX6_goesTo) (pc := 89) dX6_goesTo_89 rfl ?_
      refine jm_addN (Y := YX6_goesTo) (pc := 94) dX6_goesTo_94 ?_
      refine jm_ret (Y := YX6_goesTo) (pc := 95) (st := []) dX6_goesTo_95 rfl rfl ?_
      unfold p_to
      first | exact jm_eqN (by rw [if_pos (by omega)]) | exact jm_eqN (by rw [if_neg (by omega), if_pos (by omega), if_neg (by omega)]) | exact jm_eqN (by rw [if_neg (by omega), if_pos (by omega), if_pos (by omega)]) | exact jm_eqN (by rw [if_neg (by omega), if_neg (by omega), if_pos (by omega)]) | exact jm_eqN (by rw [if_neg (by omega), if_neg (by omega), if_neg (by omega), if_pos (by omega)]) | exact jm_eqN (by rw [if_neg (by omega), if_neg (by omega), if_neg (by omega), if_neg (by omega)]) | fail
  by_cases e_37_4 : Int32.toInt (nI (w (17 + 4 * k))) = 4
  · refine jm_tin dX6_goesTo_37 (by rw [e_37_4]; decide) (by rw [e_37_4]; decide) (by rw [e_37_4]; rfl) rfl ?_
    refine jm_ald_n (Y := YX6_goesTo) (pc := 96) (i := 0) dX6_goesTo_96 rfl rfl ?_
    refine jm_ild_n (Y := YX6_goesTo) (pc := 97) (i := 2) dX6_goesTo_97 rfl rfl ?_
    refine jm_ild_n (Y := YX6_goesTo) (pc := 98) (i := 3) dX6_goesTo_98 rfl rfl ?_
    refine jm_S3ie (Y := YX6_goesTo) (pc := 99) dX6_goesTo_99 lk_RX6_150 ⟨_, rfl⟩ rfl rfl rfl (by decide) (Nat.le_of_ble_eq_true rfl) ⟨by decide, by decide⟩ (c_upFrom _ w _ _ _ hi hM hb (by omega) (by first | omega | exact hb _)) ?_
    refine jm_ret (Y := YX6_goesTo) (pc := 102) (st := []) dX6_goesTo_102 rfl rfl ?_
    unfold p_to
    first | exact jm_eqN (by rw [if_pos (by omega)]) | exact jm_eqN (by rw [if_neg (by omega), if_pos (by omega), if_neg (by omega)]) | exact jm_eqN (by rw [if_neg (by omega), if_pos (by omega), if_pos (by omega)]) | exact jm_eqN (by rw [if_neg (by omega), if_neg (by omega), if_pos (by omega)]) | exact jm_eqN (by rw [if_neg (by omega), if_neg (by omega), if_neg (by omega), if_pos (by omega)]) | exact jm_eqN (by rw [if_neg (by omega), if_neg (by omega), if_neg (by omega), if_neg (by omega)]) | fail
  refine jm_tout (Y := YX6_goesTo) (pc := 37) dX6_goesTo_37 (by omega) rfl ?_
  refine jm_ald_n (Y := YX6_goesTo) (pc := 103) (i := 0) dX6_goesTo_103 rfl rfl ?_
  refine jm_ild_n (Y := YX6_goesTo) (pc := 104) (i := 2) dX6_goesTo_104 rfl rfl ?_
  refine jm_ild_n (Y := YX6_goesTo) (pc := 105) (i := 3) dX6_goesTo_105 rfl rfl ?_
  refine jm_S3ie (Y := YX6_goesTo) (pc := 106) dX6_goesTo_106 lk_RX6_150 ⟨_, rfl⟩ rfl rfl rfl (by decide) (Nat.le_of_ble_eq_true rfl) ⟨by decide, by decide⟩ (c_upFrom _ w _ _ _ hi hM hb (by omega) (by first | omega | exact hb _)) ?_
  refine jm_ist (Y := YX6_goesTo) (pc := 109) (ls' := [_, _, _, _, _, _]) dX6_goesTo_109 (Nat.le_of_ble_eq_true rfl) rfl rfl ?_
  refine jm_ald_n (Y := YX6_goesTo) (pc := 111) (i := 0) dX6_goesTo_111 rfl rfl ?_
  refine jm_icN (Y := YX6_goesTo) (pc := 112) 4 dX6_goesTo_112 rfl ?_
  refine jm_ialN (Y := YX6_goesTo) (pc := 113) dX6_goesTo_113 (by first | assumption | exact jm_arR1 ha | exact jm_arR2 ha | exact jm_arR3 ha | exact jm_arR1 hb | exact jm_arR2 hb | exact jm_arR3 hb | rfl) (by first | omega | exact jm_lt hb _ | exact p_pace_lt hb _) (by first | assumption | exact jm_rdN hM | rfl) ?_
  refine jm_icN (Y := YX6_goesTo) (pc := 114) 2 dX6_goesTo_114 rfl ?_
  refine jm_remN (Y := YX6_goesTo) (pc := 115) dX6_goesTo_115 (by first | omega | exact jm_lt hb _ | exact p_pace_lt hb _) (by first | omega | exact jm_lt hb _ | exact p_pace_lt hb _) (by first | omega | exact jm_lt hb _ | exact p_pace_lt hb _) ?_
  refine jm_if_neN (Y := YX6_goesTo) (pc := 116) dX6_goesTo_116 rfl (by first | omega | exact jm_lt hb _ | exact p_pace_lt hb _) (fun h_116 => ?_) (fun h_116 => ?_)
  · refine jm_iload (Y := YX6_goesTo) (pc := 129) dX6_goesTo_129 rfl ?_
    refine jm_ret (Y := YX6_goesTo) (pc := 131) (st := []) dX6_goesTo_131 rfl rfl ?_
    unfold p_to
    first | exact jm_eqN (by rw [if_pos (by omega)]) | exact jm_eqN (by rw [if_neg (by omega), if_pos (by omega), if_neg (by omega)]) | exact jm_eqN (by rw [if_neg (by omega), if_pos (by omega), if_pos (by omega)]) | exact jm_eqN (by rw [if_neg (by omega), if_neg (by omega), if_pos (by omega)]) | exact jm_eqN (by rw [if_neg (by omega), if_neg (by omega), if_neg (by omega), if_pos (by omega)]) | exact jm_eqN (by rw [if_neg (by omega), if_neg (by omega), if_neg (by omega), if_neg (by omega)]) | fail
  · refine jm_ald_n (Y := YX6_goesTo) (pc := 119) (i := 0) dX6_goesTo_119 rfl rfl ?_
    refine jm_iload (Y := YX6_goesTo) (pc := 120) dX6_goesTo_120 rfl ?_
    refine jm_ild_n (Y := YX6_goesTo) (pc := 122) (i := 3) dX6_goesTo_122 rfl rfl ?_
    refine jm_S3ie (Y := YX6_goesTo) (pc := 123) dX6_goesTo_123 lk_RX6_150 ⟨_, rfl⟩ rfl rfl rfl (by decide) (Nat.le_of_ble_eq_true rfl) ⟨by decide, by decide⟩ (c_upFrom _ w _ _ _ hi hM hb (by omega) (by first | omega | exact hb _)) ?_
    refine jm_goto (Y := YX6_goesTo) (pc := 126) dX6_goesTo_126 rfl ?_
    refine jm_ret (Y := YX6_goesTo) (pc := 131) (st := []) dX6_goesTo_131 rfl rfl ?_
    unfold p_to
    first | exact jm_eqN (by rw [if_pos (by omega)]) | exact jm_eqN (by rw [if_neg (by omega), if_pos (by omega), if_neg (by omega)]) | exact jm_eqN (by rw [if_neg (by omega), if_pos (by omega), if_pos (by omega)]) | exact jm_eqN (by rw [if_neg (by omega), if_neg (by omega), if_pos (by omega)]) | exact jm_eqN (by rw [if_neg (by omega), if_neg (by omega), if_neg (by omega), if_pos (by omega)]) | exact jm_eqN (by rw [if_neg (by omega), if_neg (by omega), if_neg (by omega), if_neg (by omega)]) | fail
def p_g1 (w : Nat → Nat) (k f t : Nat) : Nat → Nat := if f ≤ w 1 ∧ w 1 < t then wU w (17 + 4 * k + 1) (w (17 + 4 * k + 1) / 2) else w
def p_g2 (w : Nat → Nat) (k : Nat) : Nat → Nat := if w (17 + 4 * k) = 2 ∧ 0 < w (17 + 4 * k + 1) then wU w (17 + 4 * k + 1) (w (17 + 4 * k + 1) - 1) else w
def p_g3 (w : Nat → Nat) (k f t : Nat) : Nat → Nat := wU w (17 + 4 * k + 2) (if w 2 ≤ t then f else t)
def p_g4 (w : Nat → Nat) (k c t : Nat) : Nat → Nat := wU w (17 + 4 * k + 1) (if c ≤ t then 0 else w (17 + 4 * k + 1))
def p_g5 (w : Nat → Nat) (k : Nat) : Nat → Nat := wU w (17 + 4 * k + 3) (if w (17 + 4 * k + 1) = 0 then 1 else 0)
def p_goes (w : Nat → Nat) (k : Nat) : Nat → Nat :=
  p_g5 (p_g4 (p_g3 (p_g2 (p_g1 w k (w (17 + 4 * k + 2)) (p_to w k)) k) k (w (17 + 4 * k + 2)) (p_to w k)) k (w 2) (p_to w k)) k
theorem c_goes5 (i : Nat) (w : Nat → Nat) (k f t : Nat) (M0 : jm_M) (hi : jm_ar i = some (0, 45)) (hb : ∀ j, w j ≤ 20000) (hk : k < 7) (hf : f ≤ 20000) (ht : t ≤ 20000) (x : jm_Ls) (hx : x = [some (.ref i), some (.int (nI k)), some (.int (nI (17 + 4 * k))), some (.int (nI f)), some (.int (nI t)), x.getD 5 none]) : jm_J none YX6_goes 118 x [] (jm_sf M0 i (jm_n w)) (jm_is none (jm_sf M0 i (jm_n (p_g5 w k)))) := by
  rw [hx]
  refine jm_ald_n (Y := YX6_goes) (pc := 118) (i := 0) dX6_goes_118 rfl rfl ?_
  refine jm_ild_n (Y := YX6_goes) (pc := 119) (i := 2) dX6_goes_119 rfl rfl ?_
  refine jm_icN (Y := YX6_goes) (pc := 120) 3 dX6_goes_120 rfl ?_
  refine jm_addN (Y := YX6_goes) (pc := 121) dX6_goes_121 ?_
  refine jm_ald_n (Y := YX6_goes) (pc := 122) (i := 0) dX6_goes_122 rfl rfl ?_
  refine jm_ild_n (Y := YX6_goes) (pc := 123) (i := 2) dX6_goes_123 rfl rfl ?_
  refine jm_icN (Y := YX6_goes) (pc := 124) 1 dX6_goes_124 rfl ?_
  refine jm_addN (Y := YX6_goes) (pc := 125) dX6_goes_125 ?_
  refine jm_ialN (Y := YX6_goes) (pc := 126) dX6_goes_126 (by first | assumption | exact jm_arR1 ha | exact jm_arR2 ha | exact jm_arR3 ha | exact jm_arR1 hb | exact jm_arR2 hb | exact jm_arR3 hb | rfl) (by first | omega | exact jm_lt hb _) (by first | assumption | exact jm_rdW | rfl) ?_
  refine jm_if_neN (Y := YX6_goes) (pc := 127) dX6_goes_127 rfl (by first | omega | exact jm_lt hb _) (fun h_127 => ?_) (fun h_127 => ?_)
  · refine jm_icN (Y := YX6_goes) (pc := 134) 0 dX6_goes_134 rfl ?_
    refine jm_iasW (Y := YX6_goes) (pc := 135) (M0 := M0) (w := w) dX6_goes_135 hi rfl (by omega) ?_
    refine jm_retv (Y := YX6_goes) (pc := 136) (st := []) dX6_goes_136 rfl ?_
    first | exact jm_eqM (by unfold p_g5; rw [if_pos h_127]) | exact jm_eqM (by unfold p_g5; rw [if_neg h_127]) | fail
  · refine jm_icN (Y := YX6_goes) (pc := 130) 1 dX6_goes_130 rfl ?_
    refine jm_goto (Y := YX6_goes) (pc := 131) dX6_goes_131 rfl ?_
    refine jm_iasW (Y := YX6_goes) (pc := 135) (M0 := M0) (w := w) dX6_goes_135 hi rfl (by omega) ?_
    refine jm_retv (Y := YX6_goes) (pc := 136) (st := []) dX6_goes_136 rfl ?_
    first | exact jm_eqM (by unfold p_g5; rw [if_pos h_127]) | exact jm_eqM (by unfold p_g5; rw [if_neg h_127]) | fail
theorem c_goes4 (i : Nat) (w : Nat → Nat) (k f t : Nat) (M0 : jm_M) (hi : jm_ar i = some (0, 45)) (hb : ∀ j, w j ≤ 20000) (hk : k < 7) (hf : f ≤ 20000) (ht : t ≤ 20000) (c : Nat) : jm_J none YX6_goes 99 [some (.ref i), some (.int (nI k)), some (.int (nI (17 + 4 * k))), some (.int (nI f)), some (.int (nI t)), some (.int (jm_b (c ≤ t)))] [] (jm_sf M0 i (jm_n w)) (jm_is none (jm_sf M0 i (jm_n (p_g5 (p_g4 w k c t) k)))) := by
  refine jm_ald_n (Y := YX6_goes) (pc := 99) (i := 0) dX6_goes_99 rfl rfl ?_
  refine jm_ild_n (Y := YX6_goes) (pc := 100) (i := 2) dX6_goes_100 rfl rfl ?_
  refine jm_icN (Y := YX6_goes) (pc := 101) 1 dX6_goes_101 rfl ?_
  refine jm_addN (Y := YX6_goes) (pc := 102) dX6_goes_102 ?_
  refine jm_iload (Y := YX6_goes) (pc := 103) dX6_goes_103 rfl ?_
  refine jm_if_eqB (Y := YX6_goes) (pc := 105) dX6_goes_105 rfl (fun h_105 => ?_) (fun h_105 => ?_)
  · refine jm_ald_n (Y := YX6_goes) (pc := 112) (i := 0) dX6_goes_112 rfl rfl ?_
    refine jm_ild_n (Y := YX6_goes) (pc := 113) (i := 2) dX6_goes_113 rfl rfl ?_
    refine jm_icN (Y := YX6_goes) (pc := 114) 1 dX6_goes_114 rfl ?_
    refine jm_addN (Y := YX6_goes) (pc := 115) dX6_goes_115 ?_
    refine jm_ialN (Y := YX6_goes) (pc := 116) dX6_goes_116 (by first | assumption | exact jm_arR1 ha | exact jm_arR2 ha | exact jm_arR3 ha | exact jm_arR1 hb | exact jm_arR2 hb | exact jm_arR3 hb | rfl) (by first | omega | exact jm_lt hb _) (by first | assumption | exact jm_rdW | rfl) ?_
    refine jm_iasW (Y := YX6_goes) (pc := 117) (M0 := M0) (w := w) dX6_goes_117 hi rfl (by omega) ?_
    first | (unfold p_g4; rw [if_pos h_105]; exact c_goes5 i _ k f t M0 hi (fun j => by unfold wU; by_cases hj : j = 17 + 4 * k + 1 <;> simp [hj] <;> exact hb _) hk hf ht _ rfl) | (unfold p_g4; rw [if_neg h_105]; exact c_goes5 i _ k f t M0 hi (fun j => by unfold wU; by_cases hj : j = 17 + 4 * k + 1 <;> simp [hj] <;> exact hb _) hk hf ht _ rfl) | fail
  · refine jm_icN (Y := YX6_goes) (pc := 108) 0 dX6_goes_108 rfl ?_
    refine jm_goto (Y := YX6_goes) (pc := 109) dX6_goes_109 rfl ?_
    refine jm_iasW (Y := YX6_goes) (pc := 117) (M0 := M0) (w := w) dX6_goes_117 hi rfl (by omega) ?_
    first | (unfold p_g4; rw [if_pos h_105]; exact c_goes5 i _ k f t M0 hi (fun j => by unfold wU; by_cases hj : j = 17 + 4 * k + 1 <;> simp [hj] <;> exact hb _) hk hf ht _ rfl) | (unfold p_g4; rw [if_neg h_105]; exact c_goes5 i _ k f t M0 hi (fun j => by unfold wU; by_cases hj : j = 17 + 4 * k + 1 <;> simp [hj] <;> exact hb _) hk hf ht _ rfl) | fail
theorem c_goes3b (i : Nat) (w : Nat → Nat) (k f t : Nat) (M0 : jm_M) (hi : jm_ar i = some (0, 45)) (hb : ∀ j, w j ≤ 20000) (hk : k < 7) (hf : f ≤ 20000) (ht : t ≤ 20000) : jm_J none YX6_goes 81 [some (.ref i), some (.int (nI k)), some (.int (nI (17 + 4 * k))), some (.int (nI f)), some (.int (nI t)), none] [.int (jm_b (w 2 ≤ t))] (jm_sf M0 i (jm_n w)) (jm_is none (jm_sf M0 i (jm_n (p_g5 (p_g4 (p_g3 w k f t) k (w 2) t) k)))) := by
  refine jm_ist (Y := YX6_goes) (pc := 81) (ls' := [_, _, _, _, _, _]) dX6_goes_81 (Nat.le_of_ble_eq_true rfl) rfl rfl ?_
  refine jm_ald_n (Y := YX6_goes) (pc := 83) (i := 0) dX6_goes_83 rfl rfl ?_
  refine jm_ild_n (Y := YX6_goes) (pc := 84) (i := 2) dX6_goes_84 rfl rfl ?_
  refine jm_icN (Y := YX6_goes) (pc := 85) 2 dX6_goes_85 rfl ?_
  refine jm_addN (Y := YX6_goes) (pc := 86) dX6_goes_86 ?_
  refine jm_iload (Y := YX6_goes) (pc := 87) dX6_goes_87 rfl ?_
  refine jm_if_eqB (Y := YX6_goes) (pc := 89) dX6_goes_89 rfl (fun h_89 => ?_) (fun h_89 => ?_)
  · refine jm_iload (Y := YX6_goes) (pc := 96) dX6_goes_96 rfl ?_
    refine jm_iasW (Y := YX6_goes) (pc := 98) (M0 := M0) (w := w) dX6_goes_98 hi rfl (by omega) ?_
    have e2 : p_g3 w k f t 2 = w 2 := wU_n _ _ (by omega)
    first | (have e3 : p_g3 w k f t = wU w (17 + 4 * k + 2) f := by { unfold p_g3; rw [if_pos h_89] }; rw [e3]; exact c_goes4 i _ k f t M0 hi (fun j => by unfold wU; by_cases hj : j = 17 + 4 * k + 2 <;> simp [hj] <;> first | exact hb _ | assumption) hk hf ht _) | (have e3 : p_g3 w k f t = wU w (17 + 4 * k + 2) t := by { unfold p_g3; rw [if_neg h_89] }; rw [e3]; exact c_goes4 i _ k f t M0 hi (fun j => by unfold wU; by_cases hj : j = 17 + 4 * k + 2 <;> simp [hj] <;> first | exact hb _ | assumption) hk hf ht _) | fail
  · refine jm_ild_n (Y := YX6_goes) (pc := 92) (i := 3) dX6_goes_92 rfl rfl ?_
    refine jm_goto (Y := YX6_goes) (pc := 93) dX6_goes_93 rfl ?_
    refine jm_iasW (Y := YX6_goes) (pc := 98) (M0 := M0) (w := w) dX6_goes_98 hi rfl (by omega) ?_
    have e2 : p_g3 w k f t 2 = w 2 := wU_n _ _ (by omega)
    first | (have e3 : p_g3 w k f t = wU w (17 + 4 * k + 2) f := by { unfold p_g3; rw [if_pos h_89] }; rw [e3]; exact c_goes4 i _ k f t M0 hi (fun j => by unfold wU; by_cases hj : j = 17 + 4 * k + 2 <;> simp [hj] <;> first | exact hb _ | assumption) hk hf ht _) | (have e3 : p_g3 w k f t = wU w (17 + 4 * k + 2) t := by { unfold p_g3; rw [if_neg h_89] }; rw [e3]; exact c_goes4 i _ k f t M0 hi (fun j => by unfold wU; by_cases hj : j = 17 + 4 * k + 2 <;> simp [hj] <;> first | exact hb _ | assumption) hk hf ht _) | fail
theorem c_goes3 (i : Nat) (w : Nat → Nat) (k f t : Nat) (M0 : jm_M) (hi : jm_ar i = some (0, 45)) (hb : ∀ j, w j ≤ 20000) (hk : k < 7) (hf : f ≤ 20000) (ht : t ≤ 20000) : jm_J none YX6_goes 68 [some (.ref i), some (.int (nI k)), some (.int (nI (17 + 4 * k))), some (.int (nI f)), some (.int (nI t)), none] [] (jm_sf M0 i (jm_n w)) (jm_is none (jm_sf M0 i (jm_n (p_g5 (p_g4 (p_g3 w k f t) k (w 2) t) k)))) := by
  refine jm_iload (Y := YX6_goes) (pc := 68) dX6_goes_68 rfl ?_
  refine jm_ald_n (Y := YX6_goes) (pc := 70) (i := 0) dX6_goes_70 rfl rfl ?_
  refine jm_icN (Y := YX6_goes) (pc := 71) 2 dX6_goes_71 rfl ?_
  refine jm_ialN (Y := YX6_goes) (pc := 72) dX6_goes_72 (by first | assumption | exact jm_arR1 ha | exact jm_arR2 ha | exact jm_arR3 ha | exact jm_arR1 hb | exact jm_arR2 hb | exact jm_arR3 hb | rfl) (by first | omega | exact jm_lt hb _) (by first | assumption | exact jm_rdW | rfl) ?_
  refine jm_icmp_ltN (Y := YX6_goes) (pc := 73) dX6_goes_73 rfl (by first | omega | exact jm_lt hb _) (by first | omega | exact jm_lt hb _) (fun h_73 => ?_) (fun h_73 => ?_)
  · refine jm_icN (Y := YX6_goes) (pc := 80) 0 dX6_goes_80 rfl ?_
    first | (have e := c_goes3b i w k f t M0 hi hb hk hf ht; rw [jm_b_t (show w 2 ≤ t by omega)] at e; exact e) | (have e := c_goes3b i w k f t M0 hi hb hk hf ht; rw [jm_b_f (show ¬ w 2 ≤ t by omega)] at e; exact e) | fail
  · refine jm_icN (Y := YX6_goes) (pc := 76) 1 dX6_goes_76 rfl ?_
    refine jm_goto (Y := YX6_goes) (pc := 77) dX6_goes_77 rfl ?_
    first | (have e := c_goes3b i w k f t M0 hi hb hk hf ht; rw [jm_b_t (show w 2 ≤ t by omega)] at e; exact e) | (have e := c_goes3b i w k f t M0 hi hb hk hf ht; rw [jm_b_f (show ¬ w 2 ≤ t by omega)] at e; exact e) | fail
theorem c_goes2 (i : Nat) (w : Nat → Nat) (k f t : Nat) (M0 : jm_M) (hi : jm_ar i = some (0, 45)) (hb : ∀ j, w j ≤ 20000) (hk : k < 7) (hf : f ≤ 20000) (ht : t ≤ 20000) : jm_J none YX6_goes 44 [some (.ref i), some (.int (nI k)), some (.int (nI (17 + 4 * k))), some (.int (nI f)), some (.int (nI t)), none] [] (jm_sf M0 i (jm_n w)) (jm_is none (jm_sf M0 i (jm_n (p_g5 (p_g4 (p_g3 (p_g2 w k) k f t) k (w 2) t) k)))) := by
  refine jm_ald_n (Y := YX6_goes) (pc := 44) (i := 0) dX6_goes_44 rfl rfl ?_
  refine jm_ild_n (Y := YX6_goes) (pc := 45) (i := 2) dX6_goes_45 rfl rfl ?_
  refine jm_ialN (Y := YX6_goes) (pc := 46) dX6_goes_46 (by first | assumption | exact jm_arR1 ha | exact jm_arR2 ha | exact jm_arR3 ha | exact jm_arR1 hb | exact jm_arR2 hb | exact jm_arR3 hb | rfl) (by first | omega | exact jm_lt hb _ | exact Nat.lt_of_not_le (by omega)) (by first | assumption | exact jm_rdW | rfl) ?_
  refine jm_icN (Y := YX6_goes) (pc := 47) 2 dX6_goes_47 rfl ?_
  refine jm_icmp_neN (Y := YX6_goes) (pc := 48) dX6_goes_48 rfl (by first | omega | exact jm_lt hb _ | exact Nat.lt_of_not_le (by omega)) (by first | omega | exact jm_lt hb _ | exact Nat.lt_of_not_le (by omega)) (fun h_48 => ?_) (fun h_48 => ?_)
  · first | (have e : p_g2 w k = wU w (17 + 4 * k + 1) (w (17 + 4 * k + 1) - 1) := by { unfold p_g2; rw [if_pos ⟨h_48, h_56⟩] }; have e2 : w 2 = wU w (17 + 4 * k + 1) (w (17 + 4 * k + 1) - 1) 2 := (wU_n _ _ (by omega)).symm; rw [e, e2]; exact c_goes3 i _ k f t M0 hi (fun j => by unfold wU; by_cases hj : j = 17 + 4 * k + 1 <;> simp only [hj, if_true, if_false] <;> first | exact hb _ | (have := hb (17 + 4 * k + 1); omega)) hk hf ht) | (have e : p_g2 w k = w := by { unfold p_g2; rw [if_neg (by omega)] }; rw [e]; exact c_goes3 i _ k f t M0 hi hb hk hf ht) | fail
  · refine jm_ald_n (Y := YX6_goes) (pc := 51) (i := 0) dX6_goes_51 rfl rfl ?_
    refine jm_ild_n (Y := YX6_goes) (pc := 52) (i := 2) dX6_goes_52 rfl rfl ?_
    refine jm_icN (Y := YX6_goes) (pc := 53) 1 dX6_goes_53 rfl ?_
    refine jm_addN (Y := YX6_goes) (pc := 54) dX6_goes_54 ?_
    refine jm_ialN (Y := YX6_goes) (pc := 55) dX6_goes_55 (by first | assumption | exact jm_arR1 ha | exact jm_arR2 ha | exact jm_arR3 ha | exact jm_arR1 hb | exact jm_arR2 hb | exact jm_arR3 hb | rfl) (by first | omega | exact jm_lt hb _ | exact Nat.lt_of_not_le (by omega)) (by first | assumption | exact jm_rdW | rfl) ?_
    refine jm_if_leN (Y := YX6_goes) (pc := 56) dX6_goes_56 rfl (by first | omega | exact jm_lt hb _ | exact Nat.lt_of_not_le (by omega)) (fun h_56 => ?_) (fun h_56 => ?_)
    · first | (have e : p_g2 w k = wU w (17 + 4 * k + 1) (w (17 + 4 * k + 1) - 1) := by { unfold p_g2; rw [if_pos ⟨h_48, h_56⟩] }; have e2 : w 2 = wU w (17 + 4 * k + 1) (w (17 + 4 * k + 1) - 1) 2 := (wU_n _ _ (by omega)).symm; rw [e, e2]; exact c_goes3 i _ k f t M0 hi (fun j => by unfold wU; by_cases hj : j = 17 + 4 * k + 1 <;> simp only [hj, if_true, if_false] <;> first | exact hb _ | (have := hb (17 + 4 * k + 1); omega)) hk hf ht) | (have e : p_g2 w k = w := by { unfold p_g2; rw [if_neg (by omega)] }; rw [e]; exact c_goes3 i _ k f t M0 hi hb hk hf ht) | fail
    · refine jm_ald_n (Y := YX6_goes) (pc := 59) (i := 0) dX6_goes_59 rfl rfl ?_
      refine jm_ild_n (Y := YX6_goes) (pc := 60) (i := 2) dX6_goes_60 rfl rfl ?_
      refine jm_icN (Y := YX6_goes) (pc := 61) 1 dX6_goes_61 rfl ?_
      refine jm_addN (Y := YX6_goes) (pc := 62) dX6_goes_62 ?_
      refine jm_dup2 (Y := YX6_goes) (pc := 63) dX6_goes_63 rfl rfl ?_
      refine jm_ialN (Y := YX6_goes) (pc := 64) dX6_goes_64 (by first | assumption | exact jm_arR1 ha | exact jm_arR2 ha | exact jm_arR3 ha | exact jm_arR1 hb | exact jm_arR2 hb | exact jm_arR3 hb | rfl) (by first | omega | exact jm_lt hb _ | exact Nat.lt_of_not_le (by omega)) (by first | assumption | exact jm_rdW | rfl) ?_
      refine jm_icN (Y := YX6_goes) (pc := 65) 1 dX6_goes_65 rfl ?_
      refine jm_subN (Y := YX6_goes) (pc := 66) dX6_goes_66 (by first | omega | exact jm_lt hb _ | exact Nat.lt_of_not_le (by omega)) ?_
      refine jm_iasW (Y := YX6_goes) (pc := 67) (M0 := M0) (w := w) dX6_goes_67 hi rfl (by omega) ?_
      first | (have e : p_g2 w k = wU w (17 + 4 * k + 1) (w (17 + 4 * k + 1) - 1) := by { unfold p_g2; rw [if_pos ⟨h_48, h_56⟩] }; have e2 : w 2 = wU w (17 + 4 * k + 1) (w (17 + 4 * k + 1) - 1) 2 := (wU_n _ _ (by omega)).symm; rw [e, e2]; exact c_goes3 i _ k f t M0 hi (fun j => by unfold wU; by_cases hj : j = 17 + 4 * k + 1 <;> simp only [hj, if_true, if_false] <;> first | exact hb _ | (have := hb (17 + 4 * k + 1); omega)) hk hf ht) | (have e : p_g2 w k = w := by { unfold p_g2; rw [if_neg (by omega)] }; rw [e]; exact c_goes3 i _ k f t M0 hi hb hk hf ht) | fail
theorem c_goes1 (i : Nat) (w : Nat → Nat) (k f t : Nat) (M0 : jm_M) (hi : jm_ar i = some (0, 45)) (hb : ∀ j, w j ≤ 20000) (hk : k < 7) (hf : f ≤ 20000) (ht : t ≤ 20000) : jm_J none YX6_goes 20 [some (.ref i), some (.int (nI k)), some (.int (nI (17 + 4 * k))), some (.int (nI f)), some (.int (nI t)), none] [] (jm_sf M0 i (jm_n w)) (jm_is none (jm_sf M0 i (jm_n (p_g5 (p_g4 (p_g3 (p_g2 (p_g1 w k f t) k) k f t) k (w 2) t) k)))) := by
  refine jm_ild_n (Y := YX6_goes) (pc := 20) (i := 3) dX6_goes_20 rfl rfl ?_
  refine jm_ald_n (Y := YX6_goes) (pc := 21) (i := 0) dX6_goes_21 rfl rfl ?_
  refine jm_icN (Y := YX6_goes) (pc := 22) 1 dX6_goes_22 rfl ?_
  refine jm_ialN (Y := YX6_goes) (pc := 23) dX6_goes_23 (by first | assumption | exact jm_arR1 ha | exact jm_arR2 ha | exact jm_arR3 ha | exact jm_arR1 hb | exact jm_arR2 hb | exact jm_arR3 hb | rfl) (by first | omega | exact jm_lt hb _) (by first | assumption | exact jm_rdW | rfl) ?_
  refine jm_icmp_gtN (Y := YX6_goes) (pc := 24) dX6_goes_24 rfl (by first | omega | exact jm_lt hb _) (by first | omega | exact jm_lt hb _) (fun h_24 => ?_) (fun h_24 => ?_)
  · first | (have e : p_g1 w k f t = wU w (17 + 4 * k + 1) (w (17 + 4 * k + 1) / 2) := by { unfold p_g1; rw [if_pos ⟨h_24, h_32⟩] }; have e2 : w 2 = wU w (17 + 4 * k + 1) (w (17 + 4 * k + 1) / 2) 2 := (wU_n _ _ (by omega)).symm; rw [e, e2]; exact c_goes2 i _ k f t M0 hi (fun j => by unfold wU; by_cases hj : j = 17 + 4 * k + 1 <;> simp only [hj, if_true, if_false] <;> first | exact hb _ | (have := hb (17 + 4 * k + 1); omega)) hk hf ht) | (have e : p_g1 w k f t = w := by { unfold p_g1; rw [if_neg (by omega)] }; rw [e]; exact c_goes2 i _ k f t M0 hi hb hk hf ht) | fail
  · refine jm_iload (Y := YX6_goes) (pc := 27) dX6_goes_27 rfl ?_
    refine jm_ald_n (Y := YX6_goes) (pc := 29) (i := 0) dX6_goes_29 rfl rfl ?_
    refine jm_icN (Y := YX6_goes) (pc := 30) 1 dX6_goes_30 rfl ?_
    refine jm_ialN (Y := YX6_goes) (pc := 31) dX6_goes_31 (by first | assumption | exact jm_arR1 ha | exact jm_arR2 ha | exact jm_arR3 ha | exact jm_arR1 hb | exact jm_arR2 hb | exact jm_arR3 hb | rfl) (by first | omega | exact jm_lt hb _) (by first | assumption | exact jm_rdW | rfl) ?_
    refine jm_icmp_leN (Y := YX6_goes) (pc := 32) dX6_goes_32 rfl (by first | omega | exact jm_lt hb _) (by first | omega | exact jm_lt hb _) (fun h_32 => ?_) (fun h_32 => ?_)
    · first | (have e : p_g1 w k f t = wU w (17 + 4 * k + 1) (w (17 + 4 * k + 1) / 2) := by { unfold p_g1; rw [if_pos ⟨h_24, h_32⟩] }; have e2 : w 2 = wU w (17 + 4 * k + 1) (w (17 + 4 * k + 1) / 2) 2 := (wU_n _ _ (by omega)).symm; rw [e, e2]; exact c_goes2 i _ k f t M0 hi (fun j => by unfold wU; by_cases hj : j = 17 + 4 * k + 1 <;> simp only [hj, if_true, if_false] <;> first | exact hb _ | (have := hb (17 + 4 * k + 1); omega)) hk hf ht) | (have e : p_g1 w k f t = w := by { unfold p_g1; rw [if_neg (by omega)] }; rw [e]; exact c_goes2 i _ k f t M0 hi hb hk hf ht) | fail
    · refine jm_ald_n (Y := YX6_goes) (pc := 35) (i := 0) dX6_goes_35 rfl rfl ?_
      refine jm_ild_n (Y := YX6_goes) (pc := 36) (i := 2) dX6_goes_36 rfl rfl ?_
      refine jm_icN (Y := YX6_goes) (pc := 37) 1 dX6_goes_37 rfl ?_
      refine jm_addN (Y := YX6_goes) (pc := 38) dX6_goes_38 ?_
      refine jm_dup2 (Y := YX6_goes) (pc := 39) dX6_goes_39 rfl rfl ?_
      refine jm_ialN (Y := YX6_goes) (pc := 40) dX6_goes_40 (by first | assumption | exact jm_arR1 ha | exact jm_arR2 ha | exact jm_arR3 ha | exact jm_arR1 hb | exact jm_arR2 hb | exact jm_arR3 hb | rfl) (by first | omega | exact jm_lt hb _) (by first | assumption | exact jm_rdW | rfl) ?_
      refine jm_icN (Y := YX6_goes) (pc := 41) 2 dX6_goes_41 rfl ?_
      refine jm_divN (Y := YX6_goes) (pc := 42) dX6_goes_42 (by first | omega | exact jm_lt hb _) (by first | omega | exact jm_lt hb _) (by first | omega | exact jm_lt hb _) ?_
      refine jm_iasW (Y := YX6_goes) (pc := 43) (M0 := M0) (w := w) dX6_goes_43 hi rfl (by omega) ?_
      first | (have e : p_g1 w k f t = wU w (17 + 4 * k + 1) (w (17 + 4 * k + 1) / 2) := by { unfold p_g1; rw [if_pos ⟨h_24, h_32⟩] }; have e2 : w 2 = wU w (17 + 4 * k + 1) (w (17 + 4 * k + 1) / 2) 2 := (wU_n _ _ (by omega)).symm; rw [e, e2]; exact c_goes2 i _ k f t M0 hi (fun j => by unfold wU; by_cases hj : j = 17 + 4 * k + 1 <;> simp only [hj, if_true, if_false] <;> first | exact hb _ | (have := hb (17 + 4 * k + 1); omega)) hk hf ht) | (have e : p_g1 w k f t = w := by { unfold p_g1; rw [if_neg (by omega)] }; rw [e]; exact c_goes2 i _ k f t M0 hi hb hk hf ht) | fail
theorem p_to_le {w : Nat → Nat} (hp : ∀ c, w (5 + c) ≤ 3) (k : Nat) : p_to w k ≤ w (17 + 4 * k + 2) + 4 := by
  have h1 := p_pace_le w (w (17 + 4 * k + 2))
  have h2 := hp (w (17 + 4 * k + 2))
  have h3 := p_up_le w (w (17 + 4 * k + 2)) (w (17 + 4 * k + 1))
  have h4 := p_up_le w (p_up w (w (17 + 4 * k + 2)) (w (17 + 4 * k + 1))) (w (17 + 4 * k + 1))
  unfold p_to
  repeat' split
  all_goals omega
theorem c_goes (i : Nat) (w : Nat → Nat) (k : Nat) (M : jm_M) (hi : jm_ar i = some (0, 45)) (hM : M i = jm_n w) (hb : ∀ j, w j ≤ 20000) (hk : k < 7) (hc : w (17 + 4 * k + 2) < 12) (hk1 : 1 ≤ w (17 + 4 * k)) (ht : p_to w k ≤ 20000) : jm_J none YX6_goes 0 [some (.ref i), some (.int (nI k)), none, none, none, none] [] M (jm_is none (jm_sf M i (jm_n (p_goes w k)))) := by
  refine jm_bpN (Y := YX6_goes) (pc := 0) 17 dX6_goes_0 rfl ?_
  refine jm_icN (Y := YX6_goes) (pc := 2) 4 dX6_goes_2 rfl ?_
  refine jm_ild_n (Y := YX6_goes) (pc := 3) (i := 1) dX6_goes_3 rfl rfl ?_
  refine jm_mulN (Y := YX6_goes) (pc := 4) dX6_goes_4 ?_
  refine jm_addN (Y := YX6_goes) (pc := 5) dX6_goes_5 ?_
  refine jm_ist_n (Y := YX6_goes) (pc := 6) (i := 2) (ls' := [_, _, _, _, _, _]) dX6_goes_6 rfl (Nat.le_of_ble_eq_true rfl) rfl rfl ?_
  refine jm_ald_n (Y := YX6_goes) (pc := 7) (i := 0) dX6_goes_7 rfl rfl ?_
  refine jm_ild_n (Y := YX6_goes) (pc := 8) (i := 2) dX6_goes_8 rfl rfl ?_
  refine jm_icN (Y := YX6_goes) (pc := 9) 2 dX6_goes_9 rfl ?_
  refine jm_addN (Y := YX6_goes) (pc := 10) dX6_goes_10 ?_
  refine jm_ialN (Y := YX6_goes) (pc := 11) dX6_goes_11 (by first | assumption | exact jm_arR1 ha | exact jm_arR2 ha | exact jm_arR3 ha | exact jm_arR1 hb | exact jm_arR2 hb | exact jm_arR3 hb | rfl) (by first | omega | exact jm_lt hb _ | exact p_pace_lt hb _) (by first | assumption | exact jm_rdN hM | rfl) ?_
  refine jm_ist_n (Y := YX6_goes) (pc := 12) (i := 3) (ls' := [_, _, _, _, _, _]) dX6_goes_12 rfl (Nat.le_of_ble_eq_true rfl) rfl rfl ?_
  refine jm_ald_n (Y := YX6_goes) (pc := 13) (i := 0) dX6_goes_13 rfl rfl ?_
  refine jm_ild_n (Y := YX6_goes) (pc := 14) (i := 1) dX6_goes_14 rfl rfl ?_
  refine jm_S2ie (Y := YX6_goes) (pc := 15) dX6_goes_15 lk_RX6_154 ⟨_, rfl⟩ rfl rfl (by decide) (Nat.le_of_ble_eq_true rfl) ⟨by decide, by decide⟩ (c_goesTo _ w _ _ hi hM hb (by omega) (by omega) (by omega)) ?_
  refine jm_ist (Y := YX6_goes) (pc := 18) (ls' := [_, _, _, _, _, _]) dX6_goes_18 (Nat.le_of_ble_eq_true rfl) rfl rfl ?_
  have e : M = jm_sf M i (jm_n w) := (jm_sfid hM).symm
  have key := c_goes1 i w k (w (17 + 4 * k + 2)) (p_to w k) M hi hb hk (hb _) ht
  rw [← e] at key
  exact key
