/-! the class: the chance -/
theorem jm_mx1 {d : Nat} (h : 0 < d) (hd : d < 2147483648) : (if nI 1 < nI d then nI d else nI 1) = nI d := by
  have e : nI 1 < nI d ↔ 1 < d := nI_ltI (by decide) hd
  by_cases h1 : 1 < d
  · rw [if_pos (e.mpr h1)]
  · have h2 : d = 1 := by omega
    rw [if_neg (fun z => h1 (e.mp z)), h2]
theorem w_power0 (b n : Nat) (hn : n ≤ 100) (M : jm_M) : ∀ (m : Nat) (j : Nat), j ≤ n → n - j < m → jm_J none YX5_power 4 [some (.int (nI b)), some (.int (nI n)), some (.int (nI (b ^ j))), some (.int (nI j))] [] M (jm_is (some (.int (nI (b ^ n)))) M) := by
  intro m
  induction m with
  | zero => intros; omega
  | succ m ih =>
    intro j hj hmm
    refine jm_ild_n (Y := YX5_power) (pc := 4) (i := 3) dX5_power_4 rfl rfl ?_
    refine jm_ild_n (Y := YX5_power) (pc := 5) (i := 1) dX5_power_5 rfl rfl ?_
    refine jm_icmp_geN (Y := YX5_power) (pc := 6) dX5_power_6 rfl (by omega) (by omega) (fun h_6 => ?_) (fun h_6 => ?_)
    · refine jm_ild_n (Y := YX5_power) (pc := 19) (i := 2) dX5_power_19 rfl rfl ?_
      refine jm_ret (Y := YX5_power) (pc := 20) (st := []) dX5_power_20 rfl rfl ?_
      have e : j = n := by omega
      subst e
      exact ⟨rfl, rfl⟩
    · refine jm_ild_n (Y := YX5_power) (pc := 9) (i := 2) dX5_power_9 rfl rfl ?_
      refine jm_ild_n (Y := YX5_power) (pc := 10) (i := 0) dX5_power_10 rfl rfl ?_
      refine jm_mulN (Y := YX5_power) (pc := 11) dX5_power_11 ?_
      refine jm_ist_n (Y := YX5_power) (pc := 12) (i := 2) (ls' := [_, _, _, _]) dX5_power_12 rfl (Nat.le_of_ble_eq_true rfl) rfl rfl ?_
      refine jm_incN (Y := YX5_power) (pc := 13) (m := 1) (ls' := [_, _, _, _]) dX5_power_13 rfl rfl rfl rfl ?_
      refine jm_goto (Y := YX5_power) (pc := 16) dX5_power_16 rfl ?_
      rw [← Nat.pow_succ]
      exact ih (j + 1) (by omega) (by omega)
theorem w_power (b n : Nat) (hn : n ≤ 100) (M : jm_M) : jm_J none YX5_power 0 [some (.int (nI b)), some (.int (nI n)), none, none] [] M (jm_is (some (.int (nI (b ^ n)))) M) := by
  refine jm_icN (Y := YX5_power) (pc := 0) 1 dX5_power_0 rfl ?_
  refine jm_ist_n (Y := YX5_power) (pc := 1) (i := 2) (ls' := [_, _, _, _]) dX5_power_1 rfl (Nat.le_of_ble_eq_true rfl) rfl rfl ?_
  refine jm_icN (Y := YX5_power) (pc := 2) 0 dX5_power_2 rfl ?_
  refine jm_ist_n (Y := YX5_power) (pc := 3) (i := 3) (ls' := [_, _, _, _]) dX5_power_3 rfl (Nat.le_of_ble_eq_true rfl) rfl rfl ?_
  have key := w_power0 b n hn M (n + 1) 0 (by omega) (by omega)
  rw [Nat.pow_zero] at key
  exact key
theorem w_gcd0 (a b : Nat) (ha : a ≤ 100000000) (hb : b ≤ 100000000) (M : jm_M) : ∀ (m : Nat) (i r d : Nat) (l5 : Option Value), i ≤ 100 → r ≤ 100000000 → 0 < d → d ≤ 100000000 → Nat.gcd r d = Nat.gcd a b → (i = 0 ∨ (r < d ∧ r * d * 2 ^ i ≤ 20000000000000000)) → 101 - i < m → jm_J none YX5_commonDivisor 7 [some (.int (nI a)), some (.int (nI b)), some (.int (nI r)), some (.int (nI d)), some (.int (nI i)), l5] [] M (jm_is (some (.int (nI (Nat.gcd a b)))) M) := by
  intro m
  induction m with
  | zero => intros; omega
  | succ m ih =>
    intro i r d l5 hi hr hd hd2 hg hI hmm
    refine jm_iload (Y := YX5_commonDivisor) (pc := 7) dX5_commonDivisor_7 rfl ?_
    refine jm_bpN (Y := YX5_commonDivisor) (pc := 9) 100 dX5_commonDivisor_9 rfl ?_
    refine jm_icmp_geN (Y := YX5_commonDivisor) (pc := 11) dX5_commonDivisor_11 rfl (by omega) (by omega) (fun h_11 => ?_) (fun h_11 => ?_)
    · refine jm_icN (Y := YX5_commonDivisor) (pc := 34) 1 dX5_commonDivisor_34 rfl ?_
      refine jm_ild_n (Y := YX5_commonDivisor) (pc := 35) (i := 3) dX5_commonDivisor_35 rfl rfl ?_
      refine jm_mmax (Y := YX5_commonDivisor) (pc := 36) dX5_commonDivisor_36 mml_RX5_310 (by decide) (by decide) ?_
      rw [jm_mx1 hd (by omega)]
      refine jm_ret (Y := YX5_commonDivisor) (pc := 39) (st := []) dX5_commonDivisor_39 rfl rfl ?_
      have e0 : r = 0 := by
        first
        | omega
        | (rcases Nat.eq_zero_or_pos r with z | z
           · exact z
           · exfalso
             have ei : i = 100 := by omega
             subst ei
             rcases hI with y | ⟨y1, y2⟩
             · omega
             · have k1 : 1 ≤ r * d := Nat.mul_pos z hd
               have k2 : 1 * 2 ^ 100 ≤ r * d * 2 ^ 100 := Nat.mul_le_mul_right _ k1
               omega)
      rw [e0, Nat.gcd_zero_left] at hg
      exact jm_eqN hg
    · refine jm_ild_n (Y := YX5_commonDivisor) (pc := 14) (i := 2) dX5_commonDivisor_14 rfl rfl ?_
      refine jm_if_eqN (Y := YX5_commonDivisor) (pc := 15) dX5_commonDivisor_15 rfl (by omega) (fun h_15 => ?_) (fun h_15 => ?_)
      · refine jm_icN (Y := YX5_commonDivisor) (pc := 34) 1 dX5_commonDivisor_34 rfl ?_
        refine jm_ild_n (Y := YX5_commonDivisor) (pc := 35) (i := 3) dX5_commonDivisor_35 rfl rfl ?_
        refine jm_mmax (Y := YX5_commonDivisor) (pc := 36) dX5_commonDivisor_36 mml_RX5_310 (by decide) (by decide) ?_
        rw [jm_mx1 hd (by omega)]
        refine jm_ret (Y := YX5_commonDivisor) (pc := 39) (st := []) dX5_commonDivisor_39 rfl rfl ?_
        have e0 : r = 0 := by
          first
          | omega
          | (rcases Nat.eq_zero_or_pos r with z | z
             · exact z
             · exfalso
               have ei : i = 100 := by omega
               subst ei
               rcases hI with y | ⟨y1, y2⟩
               · omega
               · have k1 : 1 ≤ r * d := Nat.mul_pos z hd
                 have k2 : 1 * 2 ^ 100 ≤ r * d * 2 ^ 100 := Nat.mul_le_mul_right _ k1
                 omega)
        rw [e0, Nat.gcd_zero_left] at hg
        exact jm_eqN hg
      · refine jm_ild_n (Y := YX5_commonDivisor) (pc := 18) (i := 3) dX5_commonDivisor_18 rfl rfl ?_
        refine jm_ild_n (Y := YX5_commonDivisor) (pc := 19) (i := 2) dX5_commonDivisor_19 rfl rfl ?_
        refine jm_remN (Y := YX5_commonDivisor) (pc := 20) dX5_commonDivisor_20 (by omega) (by omega) (by omega) ?_
        refine jm_ist (Y := YX5_commonDivisor) (pc := 21) (ls' := [_, _, _, _, _, _]) dX5_commonDivisor_21 (Nat.le_of_ble_eq_true rfl) rfl rfl ?_
        refine jm_ild_n (Y := YX5_commonDivisor) (pc := 23) (i := 2) dX5_commonDivisor_23 rfl rfl ?_
        refine jm_ist_n (Y := YX5_commonDivisor) (pc := 24) (i := 3) (ls' := [_, _, _, _, _, _]) dX5_commonDivisor_24 rfl (Nat.le_of_ble_eq_true rfl) rfl rfl ?_
        refine jm_iload (Y := YX5_commonDivisor) (pc := 25) dX5_commonDivisor_25 rfl ?_
        refine jm_ist_n (Y := YX5_commonDivisor) (pc := 27) (i := 2) (ls' := [_, _, _, _, _, _]) dX5_commonDivisor_27 rfl (Nat.le_of_ble_eq_true rfl) rfl rfl ?_
        refine jm_incN (Y := YX5_commonDivisor) (pc := 28) (m := 1) (ls' := [_, _, _, _, _, _]) dX5_commonDivisor_28 rfl rfl rfl rfl ?_
        refine jm_goto (Y := YX5_commonDivisor) (pc := 31) dX5_commonDivisor_31 rfl ?_
        have e1 : Nat.gcd (d % r) r = Nat.gcd a b := by rw [← hg, Nat.gcd_rec r d]
        have m1 : d % r < r := Nat.mod_lt _ (by omega)
        refine ih (i + 1) (d % r) r _ (by omega) (by omega) (by omega) (by omega) e1 (Or.inr ⟨m1, ?_⟩) (by omega)
        rcases hI with z | ⟨z1, z2⟩
        · subst z
          have k1 : d % r * r ≤ 100000000 * 100000000 := Nat.mul_le_mul (by omega) hr
          rw [Nat.zero_add, Nat.pow_one]
          omega
        · have k0 : d / r * r + d % r = d := by rw [Nat.mul_comm]; exact Nat.div_add_mod d r
          have k3 : 0 < d / r := Nat.div_pos (by omega) (by omega)
          have k4 : r ≤ d / r * r := Nat.le_mul_of_pos_left r k3
          have k2 : d % r * 2 ≤ d := by omega
          have k5 : d % r * r * 2 ^ (i + 1) = d % r * 2 * (r * 2 ^ i) := by rw [Nat.pow_succ]; simp only [Nat.mul_assoc, Nat.mul_comm, Nat.mul_left_comm]
          have k6 : d % r * 2 * (r * 2 ^ i) ≤ d * (r * 2 ^ i) := Nat.mul_le_mul_right _ k2
          have k7 : d * (r * 2 ^ i) = r * d * 2 ^ i := by simp only [Nat.mul_assoc, Nat.mul_comm, Nat.mul_left_comm]
          omega
theorem w_gcd (a b : Nat) (ha : a ≤ 100000000) (hb : b ≤ 100000000) (h0 : 0 < b) (M : jm_M) : jm_J none YX5_commonDivisor 0 [some (.int (nI a)), some (.int (nI b)), none, none, none, none] [] M (jm_is (some (.int (nI (Nat.gcd a b)))) M) := by
  refine jm_ild_n (Y := YX5_commonDivisor) (pc := 0) (i := 0) dX5_commonDivisor_0 rfl rfl ?_
  refine jm_ist_n (Y := YX5_commonDivisor) (pc := 1) (i := 2) (ls' := [_, _, _, _, _, _]) dX5_commonDivisor_1 rfl (Nat.le_of_ble_eq_true rfl) rfl rfl ?_
  refine jm_ild_n (Y := YX5_commonDivisor) (pc := 2) (i := 1) dX5_commonDivisor_2 rfl rfl ?_
  refine jm_ist_n (Y := YX5_commonDivisor) (pc := 3) (i := 3) (ls' := [_, _, _, _, _, _]) dX5_commonDivisor_3 rfl (Nat.le_of_ble_eq_true rfl) rfl rfl ?_
  refine jm_icN (Y := YX5_commonDivisor) (pc := 4) 0 dX5_commonDivisor_4 rfl ?_
  refine jm_ist (Y := YX5_commonDivisor) (pc := 5) (ls' := [_, _, _, _, _, _]) dX5_commonDivisor_5 (Nat.le_of_ble_eq_true rfl) rfl rfl ?_
  exact w_gcd0 a b ha hb M 102 0 a b none (by omega) ha h0 hb rfl (Or.inl rfl) (by omega)
theorem p_wy_pw (c s : Nat) : ∀ n, p_wy c s n = c ^ p_on1 s n * (10 - c) ^ (n - p_on1 s n)
  | 0 => rfl
  | n + 1 => by
    have e1 : p_wy c s (n + 1) = p_wy c s n * (if s / 2 ^ n % 2 = 1 then c else 10 - c) := rfl
    have e2 : p_on1 s (n + 1) = p_on1 s n + s / 2 ^ n % 2 := rfl
    have l1 := p_on1_le s n
    rw [e1, e2, p_wy_pw c s n]
    rcases (show s / 2 ^ n % 2 = 1 ∨ s / 2 ^ n % 2 = 0 by omega) with z | z
    · rw [if_pos z, z, Nat.pow_succ, show n + 1 - (p_on1 s n + 1) = n - p_on1 s n by omega]
      simp only [Nat.mul_assoc, Nat.mul_comm, Nat.mul_left_comm]
    · rw [if_neg (by omega), z, Nat.add_zero, show n + 1 - p_on1 s n = n - p_on1 s n + 1 by omega, Nat.pow_succ]
      simp only [Nat.mul_assoc, Nat.mul_comm, Nat.mul_left_comm]
theorem p_on1_st {s N : Nat} (h : s < 2 ^ N) : ∀ d, p_on1 s (N + d) = p_on1 s N
  | 0 => rfl
  | d + 1 => by
    have e2 : p_on1 s (N + (d + 1)) = p_on1 s (N + d) + s / 2 ^ (N + d) % 2 := rfl
    have z : s / 2 ^ (N + d) = 0 := Nat.div_eq_of_lt (Nat.lt_of_lt_of_le h (Nat.pow_le_pow_right (by decide) (by omega)))
    rw [e2, z, p_on1_st h d, Nat.zero_mod, Nat.add_zero]
theorem p_wy_ones {c s N : Nat} (hN : N ≤ 12) (h : s < 2 ^ N) : c ^ p_ones s * (10 - c) ^ (N - p_ones s) = p_wy c s N := by
  have e : p_ones s = p_on1 s N := by
    have q := p_on1_st h (12 - N)
    rw [show N + (12 - N) = 12 by omega] at q
    exact q
  rw [e, p_wy_pw]
theorem p_ab_s (w : Nat → Nat) (k n c s : Nat) : p_ab w k n c (s + 1) = p_ab w k n c s + (if p_ch w s n (17 + 4 * k + 3) = 1 then p_wy c s n else 0) := rfl
theorem m_ch_g {w : Nat → Nat} (hg : rG w) {a : Nat} (ha : a < w 3) {s n : Nat} (hn : w 4 + n ≤ 19000) : (m_ch w a s n).1 = 0 ↔ p_ch w s n (17 + 4 * a + 3) = 1 := by
  obtain ⟨i0, i1, i2⟩ := m_chs hg ha s n hn
  have hG := p_ch_rG hg s n hn
  have e3 : p_ch w s n 3 = w 3 := i0 3 (by decide) (by decide) (by decide)
  rw [m_gone hG (by rw [e3]; exact ha), i2]
theorem w_chance1 (w : Nat → Nat) (M : jm_M) (hR : RV M 0 w) (hg : rG w) (hm : w 4 ≤ 9999) (k N c : Nat) (a : Int32) (hk : k < w 3) (hN : N ≤ 8) (hc : c ≤ 10) (ha : a.toInt = 0 ∨ a.toInt = 1) (l6 l7 : Option Value) : jm_J none YX5_chance 111 [some (.ref 0), some (.int (nI k)), some (.int (nI N)), some (.int (nI c)), some (.int a), some (.int (nI (p_ab w k N c (2 ^ N)))), l6, l7] [] M (jm_t M (p_cr (p_ab w k N c (2 ^ N)) N a)) := by
  have hb := hg.hb
  have g0 := hg.1.1
  have g1 := hg.1.2.1
  have g2 := hg.1.2.2.1
  have g3 := hg.1.2.2.2.1
  have g4 := hg.1.2.2.2.2
  have pa := p_ab_lt (w := w) (k := k) hc hN (Nat.le_refl (2 ^ N))
  have p1 := p_10 hN
  have p0 : 0 < 10 ^ N := Nat.pow_pos (by decide)
  have gp : 0 < Nat.gcd (p_ab w k N c (2 ^ N)) (10 ^ N) := Nat.gcd_pos_of_pos_right _ p0
  have gl : Nat.gcd (p_ab w k N c (2 ^ N)) (10 ^ N) ≤ 10 ^ N := Nat.gcd_le_right _ p0
  refine jm_bpN (Y := YX5_chance) (pc := 111) 10 dX5_chance_111 rfl ?_
  refine jm_ild_n (Y := YX5_chance) (pc := 113) (i := 2) dX5_chance_113 rfl rfl ?_
  refine jm_S2ie (Y := YX5_chance) (pc := 114) dX5_chance_114 lk_RX5_239 ⟨_, rfl⟩ rfl rfl (by decide) (Nat.le_of_ble_eq_true rfl) ⟨by decide, by decide⟩ (w_power _ _ (by omega) _) ?_
  refine jm_ist (Y := YX5_chance) (pc := 117) (ls' := [_, _, _, _, _, _, _, _]) dX5_chance_117 (Nat.le_of_ble_eq_true rfl) rfl rfl ?_
  refine jm_iload (Y := YX5_chance) (pc := 119) dX5_chance_119 rfl ?_
  refine jm_iload (Y := YX5_chance) (pc := 121) dX5_chance_121 rfl ?_
  refine jm_S2ie (Y := YX5_chance) (pc := 123) dX5_chance_123 lk_RX5_242 ⟨_, rfl⟩ rfl rfl (by decide) (Nat.le_of_ble_eq_true rfl) ⟨by decide, by decide⟩ (w_gcd _ _ pa p1 p0 _) ?_
  refine jm_ist (Y := YX5_chance) (pc := 126) (ls' := [_, _, _, _, _, _, _, _]) dX5_chance_126 (Nat.le_of_ble_eq_true rfl) rfl rfl ?_
  refine jm_iload (Y := YX5_chance) (pc := 128) dX5_chance_128 rfl ?_
  refine jm_if_ne (Y := YX5_chance) (pc := 130) dX5_chance_130 rfl (fun h_130 => ?_) (fun h_130 => ?_)
  · refine jm_iload (Y := YX5_chance) (pc := 138) dX5_chance_138 rfl ?_
    refine jm_iload (Y := YX5_chance) (pc := 140) dX5_chance_140 rfl ?_
    first | refine jm_divN (Y := YX5_chance) (pc := 142) dX5_chance_142 (by omega) gp (by omega) ?_ | fail | fail
    refine jm_ret (Y := YX5_chance) (pc := 143) (st := []) dX5_chance_143 rfl rfl ?_
    unfold p_cr
    first | exact jm_ti (Eq.symm (by rw [if_pos (i_z.mp h_130)])) (RF_0 1 M) | exact jm_ti (Eq.symm (by rw [if_neg (fun z => h_130 (i_z.mpr z))])) (RF_0 1 M) | fail
  · refine jm_iload (Y := YX5_chance) (pc := 133) dX5_chance_133 rfl ?_
    refine jm_goto (Y := YX5_chance) (pc := 135) dX5_chance_135 rfl ?_
    refine jm_iload (Y := YX5_chance) (pc := 140) dX5_chance_140 rfl ?_
    first | refine jm_divN (Y := YX5_chance) (pc := 142) dX5_chance_142 (by omega) gp (by omega) ?_ | fail | fail
    refine jm_ret (Y := YX5_chance) (pc := 143) (st := []) dX5_chance_143 rfl rfl ?_
    unfold p_cr
    first | exact jm_ti (Eq.symm (by rw [if_pos (i_z.mp h_130)])) (RF_0 1 M) | exact jm_ti (Eq.symm (by rw [if_neg (fun z => h_130 (i_z.mpr z))])) (RF_0 1 M) | fail
theorem w_chance0 (w : Nat → Nat) (M : jm_M) (hR : RV M 0 w) (hg : rG w) (hm : w 4 ≤ 9999) (k N c : Nat) (a : Int32) (hk : k < w 3) (hN : N ≤ 8) (hc : c ≤ 10) (ha : a.toInt = 0 ∨ a.toInt = 1) : ∀ (m : Nat) (s : Nat) (l7 : Option Value), s ≤ 2 ^ N → 2 ^ N - s < m → jm_J none YX5_chance 50 [some (.ref 0), some (.int (nI k)), some (.int (nI N)), some (.int (nI c)), some (.int a), some (.int (nI (p_ab w k N c s))), some (.int (nI s)), l7] [] M (jm_t M (p_cr (p_ab w k N c (2 ^ N)) N a)) := by
  intro m
  induction m with
  | zero => intros; omega
  | succ m ih =>
    intro s l7 hs hmm
    have hb := hg.hb
    have g0 := hg.1.1
    have g1 := hg.1.2.1
    have g2 := hg.1.2.2.1
    have g3 := hg.1.2.2.2.1
    have g4 := hg.1.2.2.2.2
    have p2 : 2 ^ N ≤ 2 ^ 8 := Nat.pow_le_pow_right (by decide) hN
    have p3 : 2 ^ 8 = 256 := by decide
    have cb := m_ch_b hg hk s N
    have cg := m_ch_g hg hk (s := s) (n := N) (by omega)
    have es := p_ab_s w k N c s
    have on12 : p_ones s ≤ 12 := p_on1_le s 12
    refine jm_iload (Y := YX5_chance) (pc := 50) dX5_chance_50 rfl ?_
    refine jm_icN (Y := YX5_chance) (pc := 52) 1 dX5_chance_52 rfl ?_
    refine jm_ild_n (Y := YX5_chance) (pc := 53) (i := 2) dX5_chance_53 rfl rfl ?_
    refine jm_shlN (Y := YX5_chance) (pc := 54) dX5_chance_54 (by omega) (by omega) ?_
    refine jm_icmp_geN (Y := YX5_chance) (pc := 55) dX5_chance_55 rfl (by first | omega | exact jm_lt hb _) (by first | omega | exact jm_lt hb _) (fun h_55 => ?_) (fun h_55 => ?_)
    · have e : s = 2 ^ N := by omega
      rw [e]
      exact w_chance1 w M hR hg hm k N c a hk hN hc ha _ _
    · refine jm_ald_n (Y := YX5_chance) (pc := 58) (i := 0) dX5_chance_58 rfl rfl ?_
      refine jm_getR (Y := YX5_chance) (pc := 59) dX5_chance_59 fr_RX5_33 rfl (by decide) rfl ?_
      refine jm_ild_n (Y := YX5_chance) (pc := 62) (i := 1) dX5_chance_62 rfl rfl ?_
      refine jm_ild_n (Y := YX5_chance) (pc := 63) (i := 2) dX5_chance_63 rfl rfl ?_
      refine jm_iload (Y := YX5_chance) (pc := 64) dX5_chance_64 rfl ?_
      refine jm_V3ie (Y := YX5_chance) (pc := 66) dX5_chance_66 lk_RX5_236 ⟨_, rfl⟩ (by first | exact jm_obR ha | exact jm_obR hb | rfl) rfl rfl rfl (by decide) (Nat.le_of_ble_eq_true rfl) ⟨by decide, by decide⟩ (m_foretoldIn 0 (by decide) w _ hR hg k hk N s hN (by omega) hm) ?_
      refine jm_S1ie (Y := YX5_chance) (pc := 69) dX5_chance_69 lk_RX5_179 ⟨_, rfl⟩ rfl (by decide) (Nat.le_of_ble_eq_true rfl) ⟨by decide, by decide⟩ (m_isGone _ _ _ (by omega) (by omega)) ?_
      refine jm_if_eqB (Y := YX5_chance) (pc := 72) dX5_chance_72 rfl (fun h_72 => ?_) (fun h_72 => ?_)
      · refine jm_incN (Y := YX5_chance) (pc := 105) (m := 1) (ls' := [_, _, _, _, _, _, _, _]) dX5_chance_105 rfl rfl rfl rfl ?_
        refine jm_goto (Y := YX5_chance) (pc := 108) dX5_chance_108 rfl ?_
        first
          | (rw [if_pos (cg.mp h_72)] at es; rw [← es]; exact ih (s + 1) _ (by omega) (by omega))
          | (have es2 : p_ab w k N c (s + 1) = p_ab w k N c s := es.trans (congrArg (fun z => p_ab w k N c s + z) (if_neg (fun z => h_72 (cg.mpr z)))); rw [← es2]; exact ih (s + 1) _ (by omega) (by omega))
          | fail
      · refine jm_iload (Y := YX5_chance) (pc := 75) dX5_chance_75 rfl ?_
        refine jm_S1ie (Y := YX5_chance) (pc := 77) dX5_chance_77 lk_RX5_211 ⟨_, rfl⟩ rfl (by decide) (Nat.le_of_ble_eq_true rfl) ⟨by decide, by decide⟩ (j_bits _ (by omega) _) ?_
        refine jm_ist (Y := YX5_chance) (pc := 80) (ls' := [_, _, _, _, _, _, _, _]) dX5_chance_80 (Nat.le_of_ble_eq_true rfl) rfl rfl ?_
        have hsN : s < 2 ^ N := (by omega)
        have onN : p_ones s ≤ N := p_on1_z hsN 12
        refine jm_iload (Y := YX5_chance) (pc := 82) dX5_chance_82 rfl ?_
        refine jm_ild_n (Y := YX5_chance) (pc := 84) (i := 3) dX5_chance_84 rfl rfl ?_
        refine jm_iload (Y := YX5_chance) (pc := 85) dX5_chance_85 rfl ?_
        refine jm_S2ie (Y := YX5_chance) (pc := 87) dX5_chance_87 lk_RX5_239 ⟨_, rfl⟩ rfl rfl (by decide) (Nat.le_of_ble_eq_true rfl) ⟨by decide, by decide⟩ (w_power _ _ (by omega) _) ?_
        refine jm_bpN (Y := YX5_chance) (pc := 90) 10 dX5_chance_90 rfl ?_
        refine jm_ild_n (Y := YX5_chance) (pc := 92) (i := 3) dX5_chance_92 rfl rfl ?_
        refine jm_subN (Y := YX5_chance) (pc := 93) dX5_chance_93 (by first | omega | exact jm_lt hb _) ?_
        refine jm_ild_n (Y := YX5_chance) (pc := 94) (i := 2) dX5_chance_94 rfl rfl ?_
        refine jm_iload (Y := YX5_chance) (pc := 95) dX5_chance_95 rfl ?_
        refine jm_subN (Y := YX5_chance) (pc := 97) dX5_chance_97 (by first | omega | exact jm_lt hb _) ?_
        refine jm_S2ie (Y := YX5_chance) (pc := 98) dX5_chance_98 lk_RX5_239 ⟨_, rfl⟩ rfl rfl (by decide) (Nat.le_of_ble_eq_true rfl) ⟨by decide, by decide⟩ (w_power _ _ (by omega) _) ?_
        refine jm_mulN (Y := YX5_chance) (pc := 101) dX5_chance_101 ?_
        rw [p_wy_ones (by omega) hsN]
        refine jm_addN (Y := YX5_chance) (pc := 102) dX5_chance_102 ?_
        refine jm_ist (Y := YX5_chance) (pc := 103) (ls' := [_, _, _, _, _, _, _, _]) dX5_chance_103 (Nat.le_of_ble_eq_true rfl) rfl rfl ?_
        refine jm_incN (Y := YX5_chance) (pc := 105) (m := 1) (ls' := [_, _, _, _, _, _, _, _]) dX5_chance_105 rfl rfl rfl rfl ?_
        refine jm_goto (Y := YX5_chance) (pc := 108) dX5_chance_108 rfl ?_
        first
          | (rw [if_pos (cg.mp h_72)] at es; rw [← es]; exact ih (s + 1) _ (by omega) (by omega))
          | (have es2 : p_ab w k N c (s + 1) = p_ab w k N c s := es.trans (congrArg (fun z => p_ab w k N c s + z) (if_neg (fun z => h_72 (cg.mpr z)))); rw [← es2]; exact ih (s + 1) _ (by omega) (by omega))
          | fail
theorem w_chance (w : Nat → Nat) (M : jm_M) (hR : RV M 0 w) (hg : rG w) (hm : w 4 ≤ 9999) (v n c a : Int32) : jm_J none YX5_chance 0 [some (.ref 0), some (.int v), some (.int n), some (.int c), some (.int a), none, none, none] [] M (jm_t M (q_chance w v n c a)) := by
  have hb := hg.hb
  have g0 := hg.1.1
  have g1 := hg.1.2.1
  have g2 := hg.1.2.2.1
  have g3 := hg.1.2.2.2.1
  have g4 := hg.1.2.2.2.2
  refine jm_ald_n (Y := YX5_chance) (pc := 0) (i := 0) dX5_chance_0 rfl rfl ?_
  refine jm_getR (Y := YX5_chance) (pc := 1) dX5_chance_1 fr_RX5_33 rfl (by decide) rfl ?_
  refine jm_ild_n (Y := YX5_chance) (pc := 4) (i := 1) dX5_chance_4 rfl rfl ?_
  refine jm_V1ie (Y := YX5_chance) (pc := 5) dX5_chance_5 lk_RX5_150 ⟨_, rfl⟩ (by first | exact jm_obR ha | exact jm_obR hb | rfl) rfl (by decide) (Nat.le_of_ble_eq_true rfl) ⟨by decide, by decide⟩ (m_hasWord 0 (by decide) w _ hR hg _) ?_
  refine jm_if_eqB (Y := YX5_chance) (pc := 8) dX5_chance_8 rfl (fun h_8 => ?_) (fun h_8 => ?_)
  · refine jm_ldc (Y := YX5_chance) (pc := 41) (v := -1000001) dX5_chance_41 kc_RX5_64 ?_
    refine jm_ret (Y := YX5_chance) (pc := 43) (st := []) dX5_chance_43 rfl rfl ?_
    unfold q_chance
    first | exact jm_ti (Eq.symm (by rw [if_neg (by omega)])) (RF_0 1 M) | fail
  · refine jm_ild_n (Y := YX5_chance) (pc := 11) (i := 2) dX5_chance_11 rfl rfl ?_
    refine jm_icN (Y := YX5_chance) (pc := 12) 0 dX5_chance_12 rfl ?_
    refine jm_bpN (Y := YX5_chance) (pc := 13) 8 dX5_chance_13 rfl ?_
    refine jm_S3ie (Y := YX5_chance) (pc := 15) dX5_chance_15 lk_RX5_98 ⟨_, rfl⟩ rfl rfl rfl (by decide) (Nat.le_of_ble_eq_true rfl) ⟨by decide, by decide⟩ (w_wiN _ _ _ _ (by decide) (by decide)) ?_
    refine jm_if_eqB (Y := YX5_chance) (pc := 18) dX5_chance_18 rfl (fun h_18 => ?_) (fun h_18 => ?_)
    · refine jm_ldc (Y := YX5_chance) (pc := 41) (v := -1000001) dX5_chance_41 kc_RX5_64 ?_
      refine jm_ret (Y := YX5_chance) (pc := 43) (st := []) dX5_chance_43 rfl rfl ?_
      unfold q_chance
      first | exact jm_ti (Eq.symm (by rw [if_neg (by omega)])) (RF_0 1 M) | fail
    · refine jm_ild_n (Y := YX5_chance) (pc := 21) (i := 3) dX5_chance_21 rfl rfl ?_
      refine jm_icN (Y := YX5_chance) (pc := 22) 0 dX5_chance_22 rfl ?_
      refine jm_bpN (Y := YX5_chance) (pc := 23) 10 dX5_chance_23 rfl ?_
      refine jm_S3ie (Y := YX5_chance) (pc := 25) dX5_chance_25 lk_RX5_98 ⟨_, rfl⟩ rfl rfl rfl (by decide) (Nat.le_of_ble_eq_true rfl) ⟨by decide, by decide⟩ (w_wiN _ _ _ _ (by decide) (by decide)) ?_
      refine jm_if_eqB (Y := YX5_chance) (pc := 28) dX5_chance_28 rfl (fun h_28 => ?_) (fun h_28 => ?_)
      · refine jm_ldc (Y := YX5_chance) (pc := 41) (v := -1000001) dX5_chance_41 kc_RX5_64 ?_
        refine jm_ret (Y := YX5_chance) (pc := 43) (st := []) dX5_chance_43 rfl rfl ?_
        unfold q_chance
        first | exact jm_ti (Eq.symm (by rw [if_neg (by omega)])) (RF_0 1 M) | fail
      · refine jm_iload (Y := YX5_chance) (pc := 31) dX5_chance_31 rfl ?_
        refine jm_icN (Y := YX5_chance) (pc := 33) 0 dX5_chance_33 rfl ?_
        refine jm_icN (Y := YX5_chance) (pc := 34) 1 dX5_chance_34 rfl ?_
        refine jm_S3ie (Y := YX5_chance) (pc := 35) dX5_chance_35 lk_RX5_98 ⟨_, rfl⟩ rfl rfl rfl (by decide) (Nat.le_of_ble_eq_true rfl) ⟨by decide, by decide⟩ (w_wiN _ _ _ _ (by decide) (by decide)) ?_
        refine jm_if_neB (Y := YX5_chance) (pc := 38) dX5_chance_38 rfl (fun h_38 => ?_) (fun h_38 => ?_)
        · obtain ⟨k, h_k, rfl, t_k, n_k⟩ := jm_ofL (v := v) (n := w 3) (by omega) (by omega)
          obtain ⟨N, h_N, rfl, t_N, n_N⟩ := jm_ofL (v := n) (n := 9) (by omega) (by omega)
          obtain ⟨cc, h_cc, rfl, t_cc, n_cc⟩ := jm_ofL (v := c) (n := 11) (by omega) (by omega)
          refine jm_icN (Y := YX5_chance) (pc := 44) 0 dX5_chance_44 rfl ?_
          refine jm_ist (Y := YX5_chance) (pc := 45) (ls' := [_, _, _, _, _, _, _, _]) dX5_chance_45 (Nat.le_of_ble_eq_true rfl) rfl rfl ?_
          refine jm_icN (Y := YX5_chance) (pc := 47) 0 dX5_chance_47 rfl ?_
          refine jm_ist (Y := YX5_chance) (pc := 48) (ls' := [_, _, _, _, _, _, _, _]) dX5_chance_48 (Nat.le_of_ble_eq_true rfl) rfl rfl ?_
          have e : q_chance w (nI k) (nI N) (nI cc) a = p_cr (p_ab w k N cc (2 ^ N)) N a := (by unfold q_chance; rw [if_pos (by omega), n_k, n_N, n_cc])
          rw [e]
          exact w_chance0 w M hR hg hm k N cc a (by omega) (by omega) (by omega) (by omega) (2 ^ N + 1) 0 none (Nat.zero_le _) (Nat.lt_succ_of_le (Nat.sub_le _ _))
        · refine jm_ldc (Y := YX5_chance) (pc := 41) (v := -1000001) dX5_chance_41 kc_RX5_64 ?_
          refine jm_ret (Y := YX5_chance) (pc := 43) (st := []) dX5_chance_43 rfl rfl ?_
          unfold q_chance
          first | exact jm_ti (Eq.symm (by rw [if_neg (by omega)])) (RF_0 1 M) | fail
