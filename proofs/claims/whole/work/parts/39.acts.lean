/-! the class: its acts -/
def p_row (f : Nat → Nat) (r : Nat) : Nat → Nat := fun i => if i < 45 then f (45 * r + i) else 0
/-- now, and what the acts kept -/
def CA (M : jm_M) (w pf : Nat → Nat) (n : Nat) : Prop := RV M 0 w ∧ M 0 8 = nI n ∧ ∃ p, p < 24 ∧ M 0 7 = nI p ∧ ∀ j, j < n → RV M (2 + (p + 23 - j) % 24) (p_row pf (n - 1 - j))
def AF (M M1 : jm_M) : Prop := (∀ i, i ≠ 0 → ¬ (32 ≤ i ∧ i < 136) → M1 i = M i) ∧ M1 0 9 = M 0 9
theorem AF_0 (M : jm_M) : AF M M := ⟨fun _ _ _ => rfl, rfl⟩
theorem AF_t {M M1 M2 : jm_M} (h : AF M M1) (h2 : AF M1 M2) : AF M M2 := ⟨fun i a b => (h2.1 i a b).trans (h.1 i a b), h2.2.trans h.2⟩
theorem AF_r {M M1 : jm_M} {r : Nat} (h : RF r M M1) (hr : r < 26) : AF M M1 := ⟨fun i a b => h i (by omega), by rw [h 0 (by omega)]⟩
theorem CA_w {M M1 : jm_M} {w w' pf : Nat → Nat} {n : Nat} (h : CA M w pf n) (hF : RF 0 M M1) (hV : RV M1 0 w') : CA M1 w' pf n := by
  obtain ⟨h1, h2, p, hp, h3, h4⟩ := h
  refine ⟨hV, by rw [hF 0 (by omega)]; exact h2, p, hp, by rw [hF 0 (by omega)]; exact h3, fun j hj => ?_⟩
  exact RV_fr (fun i a b => hF i (by omega)) (h4 j hj)
theorem CA_f {M M1 : jm_M} {w pf : Nat → Nat} {n : Nat} (h : CA M w pf n) (h0 : M1 0 7 = M 0 7 ∧ M1 0 8 = M 0 8) (hF : ∀ i, 32 ≤ i → i < 136 → ¬ (36 ≤ i ∧ i < 40) → M1 i = M i) : CA M1 w pf n := by
  obtain ⟨h1, h2, p, hp, h3, h4⟩ := h
  refine ⟨RV_fr (fun i a b => hF i (by omega) (by omega) (by omega)) h1, h0.2.trans h2, p, hp, h0.1.trans h3, fun j hj => ?_⟩
  have := Nat.mod_lt (p + 23 - j) (show 0 < 24 by decide)
  exact RV_fr (fun i a b => hF i (by omega) (by omega) (by omega)) (h4 j hj)
theorem p_row_nt {w pf : Nat → Nat} {n : Nat} (hn : n ≤ 24) (hz : ∀ j, 45 ≤ j → w j = 0) : p_row (p_nt w pf n) (p_na n - 1) = w := by
  funext i
  unfold p_row
  by_cases h : i < 45
  · rw [if_pos h]
    unfold p_nt p_na
    by_cases e : n = 24
    · rw [if_pos e, if_pos e]
      unfold p_cp
      rw [if_pos (by omega)]
      exact congrArg w (by omega)
    · rw [if_neg e, if_neg e]
      unfold p_cp
      rw [if_pos (by omega)]
      exact congrArg w (by omega)
  · rw [if_neg h, hz i (by omega)]
theorem p_row_no {w pf : Nat → Nat} {n j : Nat} (hn : n ≤ 24) (h1 : 1 ≤ j) (h2 : j < p_na n) : p_row (p_nt w pf n) (p_na n - 1 - j) = p_row pf (n - 1 - (j - 1)) := by
  funext i
  unfold p_row
  by_cases h : i < 45
  · rw [if_pos h, if_pos h]
    unfold p_nt
    unfold p_na at h2 ⊢
    by_cases e : n = 24
    · rw [if_pos e] at h2 ⊢
      rw [if_pos e]
      unfold p_cp
      rw [if_neg (by omega)]
      unfold p_sh
      rw [if_pos (by omega)]
      exact congrArg pf (by omega)
    · rw [if_neg e] at h2 ⊢
      rw [if_neg e]
      unfold p_cp
      rw [if_neg (by omega)]
      exact congrArg pf (by omega)
  · rw [if_neg h, if_neg h]
theorem CA_k {M M1 : jm_M} {w pf : Nat → Nat} {n p : Nat} (hn : n ≤ 24) (hz : ∀ j, 45 ≤ j → w j = 0) (hp : p < 24) (h1 : RV M 0 w) (h4 : ∀ j, j < n → RV M (2 + (p + 23 - j) % 24) (p_row pf (n - 1 - j))) (hV : RV M1 (2 + p) w) (hF : ∀ i, i ≠ 0 → ¬ (32 + 4 * (2 + p) ≤ i ∧ i < 36 + 4 * (2 + p)) → M1 i = M i) (h7 : M1 0 7 = nI ((p + 1) % 24)) (h8 : M1 0 8 = nI (p_na n)) : CA M1 w (p_nt w pf n) (p_na n) := by
  refine ⟨RV_fr (fun i a b => hF i (by omega) (by omega)) h1, h8, (p + 1) % 24, Nat.mod_lt _ (by decide), h7, fun j hj => ?_⟩
  have lna : p_na n ≤ 24 := p_na_le hn
  by_cases e : j = 0
  · subst e
    have e1 : ((p + 1) % 24 + 23 - 0) % 24 = p := by omega
    rw [e1, Nat.sub_zero, p_row_nt hn hz]
    exact hV
  · rw [p_row_no hn (by omega) hj]
    have hjn : j - 1 < n := by unfold p_na at hj; split at hj <;> omega
    have e1 : ((p + 1) % 24 + 23 - j) % 24 = (p + 23 - (j - 1)) % 24 := by omega
    rw [e1]
    have ne : (p + 23 - (j - 1)) % 24 ≠ p := by omega
    exact RV_fr (fun i a b => hF i (by omega) (by omega)) (h4 (j - 1) hjn)
theorem w_min {n : Nat} (hn : n ≤ 24) : (if nI 24 < nI (n + 1) then nI 24 else nI (n + 1)) = nI (p_na n) := by
  unfold p_na
  by_cases e : n = 24
  · subst e; rfl
  · rw [if_neg e, if_neg (fun z => by
      have q := Int32.lt_iff_toInt_lt.mp z
      rw [jm_tI (by decide), jm_tI (by omega)] at q
      omega)]
theorem w_keepAct0 (w : Nat → Nat) (n p : Nat) (M : jm_M) (hR : RV M 0 w) (hg : rG w) (hn : n ≤ 24) (hp : p < 24) (h7 : M 0 7 = nI p) (h8 : M 0 8 = nI n) : jm_J none YX5_keepAct 0 [some (.ref 0)] [] M ((fun o M1 => o = none ∧ RV M1 (2 + p) w ∧ (∀ i, i ≠ 0 → ¬ (32 + 4 * (2 + p) ≤ i ∧ i < 36 + 4 * (2 + p)) → M1 i = M i) ∧ M1 0 7 = nI ((p + 1) % 24) ∧ M1 0 8 = nI (p_na n) ∧ M1 0 9 = M 0 9)) := by
  have g2 := hg.1.2.2.1
  have g3 := hg.1.2.2.2.1
  have ha : 2 + p < 28 := by omega
  refine jm_ald_n (Y := YX5_keepAct) (pc := 0) (i := 0) dX5_keepAct_0 rfl rfl ?_
  refine jm_getR (Y := YX5_keepAct) (pc := 1) dX5_keepAct_1 fr_RX5_40 rfl (by decide) rfl ?_
  refine jm_ald_n (Y := YX5_keepAct) (pc := 4) (i := 0) dX5_keepAct_4 rfl rfl ?_
  refine jm_getE (Y := YX5_keepAct) (pc := 5) dX5_keepAct_5 fw_RX5_47 rfl (by decide) rfl (h7) ?_
  refine jm_aalN (Y := YX5_keepAct) (pc := 8) dX5_keepAct_8 rfl (by decide) (by omega) rfl ?_
  rw [show 40 + 4 * p = 32 + 4 * (2 + p) by omega]
  refine jm_ald_n (Y := YX5_keepAct) (pc := 9) (i := 0) dX5_keepAct_9 rfl rfl ?_
  refine jm_getR (Y := YX5_keepAct) (pc := 10) dX5_keepAct_10 fr_RX5_33 rfl (by decide) rfl ?_
  refine jm_V1v (Y := YX5_keepAct) (pc := 13) dX5_keepAct_13 lk_RX5_120 rfl (by first | exact jm_obR ha | exact jm_obR hb | rfl) rfl (by decide) (Nat.le_of_ble_eq_true rfl) ⟨by decide, by decide⟩ (m_become (2 + p) 0 (by omega) (by decide) (by omega) w M hR g2 g3) (fun M_13 q_13 => ?_)
  obtain ⟨-, hV, hF⟩ := q_13
  refine jm_ald_n (Y := YX5_keepAct) (pc := 16) (i := 0) dX5_keepAct_16 rfl rfl ?_
  refine jm_ald_n (Y := YX5_keepAct) (pc := 17) (i := 0) dX5_keepAct_17 rfl rfl ?_
  refine jm_getE (Y := YX5_keepAct) (pc := 18) dX5_keepAct_18 fw_RX5_47 rfl (by decide) rfl ((show _ = nI p from (congrFun (hF 0 (by omega)) 7).trans h7)) ?_
  refine jm_icN (Y := YX5_keepAct) (pc := 21) 1 dX5_keepAct_21 rfl ?_
  refine jm_addN (Y := YX5_keepAct) (pc := 22) dX5_keepAct_22 ?_
  refine jm_bpN (Y := YX5_keepAct) (pc := 23) 24 dX5_keepAct_23 rfl ?_
  refine jm_remN (Y := YX5_keepAct) (pc := 25) dX5_keepAct_25 (by omega) (by omega) (by omega) ?_
  refine jm_put (Y := YX5_keepAct) (pc := 26) dX5_keepAct_26 fw_RX5_47 rfl (by decide) rfl ?_
  refine jm_ald_n (Y := YX5_keepAct) (pc := 29) (i := 0) dX5_keepAct_29 rfl rfl ?_
  refine jm_ald_n (Y := YX5_keepAct) (pc := 30) (i := 0) dX5_keepAct_30 rfl rfl ?_
  refine jm_getE (Y := YX5_keepAct) (pc := 31) dX5_keepAct_31 fw_RX5_51 rfl (by decide) rfl ((show _ = nI n from (congrFun (hF 0 (by omega)) 8).trans h8)) ?_
  refine jm_icN (Y := YX5_keepAct) (pc := 34) 1 dX5_keepAct_34 rfl ?_
  refine jm_addN (Y := YX5_keepAct) (pc := 35) dX5_keepAct_35 ?_
  refine jm_bpN (Y := YX5_keepAct) (pc := 36) 24 dX5_keepAct_36 rfl ?_
  refine jm_mmin (Y := YX5_keepAct) (pc := 38) dX5_keepAct_38 mml_RX5_289 (by decide) (by decide) ?_
  refine jm_put (Y := YX5_keepAct) (pc := 41) dX5_keepAct_41 fw_RX5_51 rfl (by decide) rfl ?_
  refine jm_retv (Y := YX5_keepAct) (pc := 44) (st := []) dX5_keepAct_44 rfl ?_
  refine ⟨rfl, RV_fr (fun i a b => by rw [jm_sf_n _ _ (by omega), jm_sf_n _ _ (by omega)]) hV, fun i a b => by rw [jm_sf_n _ _ a, jm_sf_n _ _ a, hF i b], ?_, ?_, ?_⟩
  · rw [jm_sf_s, upd_n _ _ (by decide), jm_sf_s, upd_s]
  · rw [jm_sf_s, upd_s]; exact w_min hn
  · rw [jm_sf_s, upd_n _ _ (by decide), jm_sf_s, upd_n _ _ (by decide), hF 0 (by omega)]
theorem w_keepAct (w pf : Nat → Nat) (n : Nat) (M : jm_M) (hC : CA M w pf n) (hg : rG w) (hn : n ≤ 24) : jm_J none YX5_keepAct 0 [some (.ref 0)] [] M (fun o M1 => o = none ∧ CA M1 w (p_nt w pf n) (p_na n) ∧ AF M M1) := by
  obtain ⟨h1, h2, p, hp, h3, h4⟩ := hC
  refine jm_wk (w_keepAct0 w n p M h1 hg hn hp h3 h2) (fun o M1 q => ?_)
  obtain ⟨q0, q1, q2, q3, q4, q5⟩ := q
  exact ⟨q0, CA_k hn hg.z hp h1 h4 q1 q2 q3 q4, fun i a b => q2 i a (by omega), q5⟩
theorem w_forget (M : jm_M) : jm_J none YX5_forgetActs 0 [some (.ref 0)] [] M (jm_is none (jm_sf M 0 (upd (upd (M 0) 7 (nI 0)) 8 (nI 0)))) := by
  refine jm_ald_n (Y := YX5_forgetActs) (pc := 0) (i := 0) dX5_forgetActs_0 rfl rfl ?_
  refine jm_icN (Y := YX5_forgetActs) (pc := 1) 0 dX5_forgetActs_1 rfl ?_
  refine jm_put (Y := YX5_forgetActs) (pc := 2) dX5_forgetActs_2 fw_RX5_47 rfl (by decide) rfl ?_
  refine jm_ald_n (Y := YX5_forgetActs) (pc := 5) (i := 0) dX5_forgetActs_5 rfl rfl ?_
  refine jm_icN (Y := YX5_forgetActs) (pc := 6) 0 dX5_forgetActs_6 rfl ?_
  refine jm_put (Y := YX5_forgetActs) (pc := 7) dX5_forgetActs_7 fw_RX5_51 rfl (by decide) rfl ?_
  rw [jm_sf_s, jm_sfsf]
  refine jm_retv (Y := YX5_forgetActs) (pc := 10) (st := []) dX5_forgetActs_10 rfl ?_
  exact ⟨rfl, rfl⟩
theorem w_say (w pf : Nat → Nat) (n : Nat) (M : jm_M) (hC : CA M w pf n) (hg : rG w) (hn : n ≤ 24) (hm : w 4 ≤ 9999) (v z c : Int32) : jm_J none YX5_say 0 [some (.ref 0), some (.int v), some (.int z), some (.int c), none] [] M ((fun o M1 => (q_say w v z c → o = some (.int (nI (w (17 + 4 * v.toInt.toNat + 1)))) ∧ CA M1 (p_says w v.toInt.toNat z.toInt.toNat c.toInt.toNat) ((p_nt w pf n)) ((p_na n)) ∧ AF M M1) ∧ (¬ q_say w v z c → o = some (.int (-1000001)) ∧ M1 = M))) := by
  have hR := hC.1
  have hb := hg.hb
  have g0 := hg.1.1
  have g1 := hg.1.2.1
  have g2 := hg.1.2.2.1
  have g3 := hg.1.2.2.2.1
  have g4 := hg.1.2.2.2.2
  refine jm_ald_n (Y := YX5_say) (pc := 0) (i := 0) dX5_say_0 rfl rfl ?_
  refine jm_getR (Y := YX5_say) (pc := 1) dX5_say_1 fr_RX5_33 rfl (by decide) rfl ?_
  refine jm_ild_n (Y := YX5_say) (pc := 4) (i := 1) dX5_say_4 rfl rfl ?_
  refine jm_V1ie (Y := YX5_say) (pc := 5) dX5_say_5 lk_RX5_150 ⟨_, rfl⟩ (by first | exact jm_obR ha | exact jm_obR hb | rfl) rfl (by decide) (Nat.le_of_ble_eq_true rfl) ⟨by decide, by decide⟩ (m_hasWord 0 (by decide) w _ hR hg _) ?_
  refine jm_if_eqB (Y := YX5_say) (pc := 8) dX5_say_8 rfl (fun h_8 => ?_) (fun h_8 => ?_)
  · refine jm_ldc (Y := YX5_say) (pc := 32) (v := -1000001) dX5_say_32 kc_RX5_64 ?_
    refine jm_ret (Y := YX5_say) (pc := 34) (st := []) dX5_say_34 rfl rfl ?_
    unfold q_say
    first | exact ⟨fun z => absurd z (by omega), fun _ => ⟨rfl, rfl⟩⟩ | exact ⟨fun _ => ⟨by rw [n_k], by rw [n_k, n_zz, n_cc]; exact CA_w hC1 (fun i hi => jm_sf_n _ _ (by omega)) (RV_says hR1 (k := k) zz cc g2), AF_t hA1 (AF_r (r := 0) (fun i hi => jm_sf_n _ _ (by omega)) (by decide))⟩, fun z => absurd (by omega) z⟩ | fail
  · refine jm_ild_n (Y := YX5_say) (pc := 11) (i := 2) dX5_say_11 rfl rfl ?_
    refine jm_icN (Y := YX5_say) (pc := 12) 1 dX5_say_12 rfl ?_
    refine jm_bpN (Y := YX5_say) (pc := 13) 60 dX5_say_13 rfl ?_
    refine jm_S3ie (Y := YX5_say) (pc := 15) dX5_say_15 lk_RX5_98 ⟨_, rfl⟩ rfl rfl rfl (by decide) (Nat.le_of_ble_eq_true rfl) ⟨by decide, by decide⟩ (w_wiN _ _ _ _ (by decide) (by decide)) ?_
    refine jm_if_eqB (Y := YX5_say) (pc := 18) dX5_say_18 rfl (fun h_18 => ?_) (fun h_18 => ?_)
    · refine jm_ldc (Y := YX5_say) (pc := 32) (v := -1000001) dX5_say_32 kc_RX5_64 ?_
      refine jm_ret (Y := YX5_say) (pc := 34) (st := []) dX5_say_34 rfl rfl ?_
      unfold q_say
      first | exact ⟨fun z => absurd z (by omega), fun _ => ⟨rfl, rfl⟩⟩ | exact ⟨fun _ => ⟨by rw [n_k], by rw [n_k, n_zz, n_cc]; exact CA_w hC1 (fun i hi => jm_sf_n _ _ (by omega)) (RV_says hR1 (k := k) zz cc g2), AF_t hA1 (AF_r (r := 0) (fun i hi => jm_sf_n _ _ (by omega)) (by decide))⟩, fun z => absurd (by omega) z⟩ | fail
    · refine jm_ald_n (Y := YX5_say) (pc := 21) (i := 0) dX5_say_21 rfl rfl ?_
      refine jm_getR (Y := YX5_say) (pc := 22) dX5_say_22 fr_RX5_33 rfl (by decide) rfl ?_
      refine jm_ild_n (Y := YX5_say) (pc := 25) (i := 3) dX5_say_25 rfl rfl ?_
      refine jm_V1ie (Y := YX5_say) (pc := 26) dX5_say_26 lk_RX5_153 ⟨_, rfl⟩ (by first | exact jm_obR ha | exact jm_obR hb | rfl) rfl (by decide) (Nat.le_of_ble_eq_true rfl) ⟨by decide, by decide⟩ (m_hasCell 0 (by decide) w _ hR hg _) ?_
      refine jm_if_neB (Y := YX5_say) (pc := 29) dX5_say_29 rfl (fun h_29 => ?_) (fun h_29 => ?_)
      · obtain ⟨k, h_k, rfl, t_k, n_k⟩ := jm_ofL (v := v) (n := w 3) (by omega) (by omega)
        obtain ⟨zz, h_zz, rfl, t_zz, n_zz⟩ := jm_ofL (v := z) (n := 61) (by omega) (by omega)
        obtain ⟨cc, h_cc, rfl, t_cc, n_cc⟩ := jm_ofL (v := c) (n := w 2) (by omega) (by omega)
        refine jm_ald_n (Y := YX5_say) (pc := 35) (i := 0) dX5_say_35 rfl rfl ?_
        refine jm_getR (Y := YX5_say) (pc := 36) dX5_say_36 fr_RX5_33 rfl (by decide) rfl ?_
        refine jm_ild_n (Y := YX5_say) (pc := 39) (i := 1) dX5_say_39 rfl rfl ?_
        refine jm_V1ie (Y := YX5_say) (pc := 40) dX5_say_40 lk_RX5_156 ⟨_, rfl⟩ (by first | exact jm_obR ha | exact jm_obR hb | rfl) rfl (by decide) (Nat.le_of_ble_eq_true rfl) ⟨by decide, by decide⟩ (m_sizeOf 0 (by decide) w _ hR hg _ (by omega)) ?_
        refine jm_ist (Y := YX5_say) (pc := 43) (ls' := [_, _, _, _, _]) dX5_say_43 (Nat.le_of_ble_eq_true rfl) rfl rfl ?_
        refine jm_ald_n (Y := YX5_say) (pc := 45) (i := 0) dX5_say_45 rfl rfl ?_
        refine jm_V0v (Y := YX5_say) (pc := 46) dX5_say_46 lk_RX5_140 rfl rfl (by decide) (Nat.le_of_ble_eq_true rfl) ⟨by decide, by decide⟩ (w_keepAct w pf n _ hC hg hn) (fun M_46 q_46 => ?_)
        obtain ⟨-, hC1, hA1⟩ := q_46
        have hR1 := hC1.1
        refine jm_ald_n (Y := YX5_say) (pc := 49) (i := 0) dX5_say_49 rfl rfl ?_
        refine jm_getR (Y := YX5_say) (pc := 50) dX5_say_50 fr_RX5_33 rfl (by decide) rfl ?_
        refine jm_getR (Y := YX5_say) (pc := 53) dX5_say_53 fr_RX5_159 (by first | exact jm_obR ha | exact jm_obR hb | rfl) (by decide) (by first | exact jm_rf7 | rfl) ?_
        refine jm_ild_n (Y := YX5_say) (pc := 56) (i := 1) dX5_say_56 rfl rfl ?_
        refine jm_ild_n (Y := YX5_say) (pc := 57) (i := 2) dX5_say_57 rfl rfl ?_
        refine jm_ild_n (Y := YX5_say) (pc := 58) (i := 3) dX5_say_58 rfl rfl ?_
        refine jm_S2ie (Y := YX5_say) (pc := 59) dX5_say_59 lk_RX5_163 ⟨_, rfl⟩ rfl rfl (by decide) (Nat.le_of_ble_eq_true rfl) ⟨by decide, by decide⟩ (m_packed _ _ _ (by omega) (by omega)) ?_
        refine jm_iasN (Y := YX5_say) (pc := 62) dX5_say_62 rfl (by omega) ?_
        refine jm_iload (Y := YX5_say) (pc := 63) dX5_say_63 rfl ?_
        refine jm_ret (Y := YX5_say) (pc := 65) (st := []) dX5_say_65 rfl rfl ?_
        unfold q_say
        first | exact ⟨fun z => absurd z (by omega), fun _ => ⟨rfl, rfl⟩⟩ | exact ⟨fun _ => ⟨by rw [n_k], by rw [n_k, n_zz, n_cc]; exact CA_w hC1 (fun i hi => jm_sf_n _ _ (by omega)) (RV_says hR1 (k := k) zz cc g2), AF_t hA1 (AF_r (r := 0) (fun i hi => jm_sf_n _ _ (by omega)) (by decide))⟩, fun z => absurd (by omega) z⟩ | fail
      · refine jm_ldc (Y := YX5_say) (pc := 32) (v := -1000001) dX5_say_32 kc_RX5_64 ?_
        refine jm_ret (Y := YX5_say) (pc := 34) (st := []) dX5_say_34 rfl rfl ?_
        unfold q_say
        first | exact ⟨fun z => absurd z (by omega), fun _ => ⟨rfl, rfl⟩⟩ | exact ⟨fun _ => ⟨by rw [n_k], by rw [n_k, n_zz, n_cc]; exact CA_w hC1 (fun i hi => jm_sf_n _ _ (by omega)) (RV_says hR1 (k := k) zz cc g2), AF_t hA1 (AF_r (r := 0) (fun i hi => jm_sf_n _ _ (by omega)) (by decide))⟩, fun z => absurd (by omega) z⟩ | fail
theorem w_speed (w pf : Nat → Nat) (n : Nat) (M : jm_M) (hC : CA M w pf n) (hg : rG w) (hn : n ≤ 24) (hm : w 4 ≤ 9999) (c v : Int32) : jm_J none YX5_speed 0 [some (.ref 0), some (.int c), some (.int v), none] [] M ((fun o M1 => (q_speed w c v → o = some (.int (nI (w (5 + c.toInt.toNat)))) ∧ CA M1 (wU w (5 + c.toInt.toNat) v.toInt.toNat) ((p_nt w pf n)) ((p_na n)) ∧ AF M M1) ∧ (¬ q_speed w c v → o = some (.int (-1000001)) ∧ M1 = M))) := by
  have hR := hC.1
  have hb := hg.hb
  have g0 := hg.1.1
  have g1 := hg.1.2.1
  have g2 := hg.1.2.2.1
  have g3 := hg.1.2.2.2.1
  have g4 := hg.1.2.2.2.2
  refine jm_ald_n (Y := YX5_speed) (pc := 0) (i := 0) dX5_speed_0 rfl rfl ?_
  refine jm_getR (Y := YX5_speed) (pc := 1) dX5_speed_1 fr_RX5_33 rfl (by decide) rfl ?_
  refine jm_ild_n (Y := YX5_speed) (pc := 4) (i := 1) dX5_speed_4 rfl rfl ?_
  refine jm_V1ie (Y := YX5_speed) (pc := 5) dX5_speed_5 lk_RX5_153 ⟨_, rfl⟩ (by first | exact jm_obR ha | exact jm_obR hb | rfl) rfl (by decide) (Nat.le_of_ble_eq_true rfl) ⟨by decide, by decide⟩ (m_hasCell 0 (by decide) w _ hR hg _) ?_
  refine jm_if_eqB (Y := YX5_speed) (pc := 8) dX5_speed_8 rfl (fun h_8 => ?_) (fun h_8 => ?_)
  · refine jm_ldc (Y := YX5_speed) (pc := 20) (v := -1000001) dX5_speed_20 kc_RX5_64 ?_
    refine jm_ret (Y := YX5_speed) (pc := 22) (st := []) dX5_speed_22 rfl rfl ?_
    unfold q_speed
    first | exact ⟨fun z => absurd z (by omega), fun _ => ⟨rfl, rfl⟩⟩ | exact ⟨fun _ => ⟨by rw [n_k], by rw [n_k, n_z]; exact CA_w hC1 (fun i hi => jm_sf_n _ _ (by omega)) (RV_sp hR1 (c := k) z (by omega)), AF_t hA1 (AF_r (r := 0) (fun i hi => jm_sf_n _ _ (by omega)) (by decide))⟩, fun z => absurd (by omega) z⟩ | fail
  · refine jm_ild_n (Y := YX5_speed) (pc := 11) (i := 2) dX5_speed_11 rfl rfl ?_
    refine jm_icN (Y := YX5_speed) (pc := 12) 0 dX5_speed_12 rfl ?_
    refine jm_icN (Y := YX5_speed) (pc := 13) 3 dX5_speed_13 rfl ?_
    refine jm_S3ie (Y := YX5_speed) (pc := 14) dX5_speed_14 lk_RX5_98 ⟨_, rfl⟩ rfl rfl rfl (by decide) (Nat.le_of_ble_eq_true rfl) ⟨by decide, by decide⟩ (w_wiN _ _ _ _ (by decide) (by decide)) ?_
    refine jm_if_neB (Y := YX5_speed) (pc := 17) dX5_speed_17 rfl (fun h_17 => ?_) (fun h_17 => ?_)
    · obtain ⟨k, h_k, rfl, t_k, n_k⟩ := jm_ofL (v := c) (n := w 2) (by omega) (by omega)
      obtain ⟨z, h_z, rfl, t_z, n_z⟩ := jm_ofL (v := v) (n := 4) (by omega) (by omega)
      refine jm_ald_n (Y := YX5_speed) (pc := 23) (i := 0) dX5_speed_23 rfl rfl ?_
      refine jm_getR (Y := YX5_speed) (pc := 24) dX5_speed_24 fr_RX5_33 rfl (by decide) rfl ?_
      refine jm_getR (Y := YX5_speed) (pc := 27) dX5_speed_27 fr_RX5_167 (by first | exact jm_obR ha | exact jm_obR hb | rfl) (by decide) (by first | exact jm_rf5 | rfl) ?_
      refine jm_ild_n (Y := YX5_speed) (pc := 30) (i := 1) dX5_speed_30 rfl rfl ?_
      refine jm_ialN (Y := YX5_speed) (pc := 31) dX5_speed_31 (by first | assumption | exact jm_arR1 ha | exact jm_arR2 ha | exact jm_arR3 ha | exact jm_arR1 hb | exact jm_arR2 hb | exact jm_arR3 hb | rfl) (by first | omega | exact jm_lt hb _) (by first | assumption | exact hR.1.1 | exact hR.1.2.1 | exact hR.1.2.2.1 | exact hR.1.2.2.2.1 | exact hR.1.2.2.2.2 | exact hR.2.1 _ (by omega) | exact (hR.2.2 _ (by omega)).1 | exact (hR.2.2 _ (by omega)).2 | rfl) ?_
      refine jm_ist_n (Y := YX5_speed) (pc := 32) (i := 3) (ls' := [_, _, _, _]) dX5_speed_32 rfl (Nat.le_of_ble_eq_true rfl) rfl rfl ?_
      refine jm_ald_n (Y := YX5_speed) (pc := 33) (i := 0) dX5_speed_33 rfl rfl ?_
      refine jm_V0v (Y := YX5_speed) (pc := 34) dX5_speed_34 lk_RX5_140 rfl rfl (by decide) (Nat.le_of_ble_eq_true rfl) ⟨by decide, by decide⟩ (w_keepAct w pf n _ hC hg hn) (fun M_34 q_34 => ?_)
      obtain ⟨-, hC1, hA1⟩ := q_34
      have hR1 := hC1.1
      refine jm_ald_n (Y := YX5_speed) (pc := 37) (i := 0) dX5_speed_37 rfl rfl ?_
      refine jm_getR (Y := YX5_speed) (pc := 38) dX5_speed_38 fr_RX5_33 rfl (by decide) rfl ?_
      refine jm_getR (Y := YX5_speed) (pc := 41) dX5_speed_41 fr_RX5_167 (by first | exact jm_obR ha | exact jm_obR hb | rfl) (by decide) (by first | exact jm_rf5 | rfl) ?_
      refine jm_ild_n (Y := YX5_speed) (pc := 44) (i := 1) dX5_speed_44 rfl rfl ?_
      refine jm_ild_n (Y := YX5_speed) (pc := 45) (i := 2) dX5_speed_45 rfl rfl ?_
      refine jm_iasN (Y := YX5_speed) (pc := 46) dX5_speed_46 rfl (by omega) ?_
      refine jm_ild_n (Y := YX5_speed) (pc := 47) (i := 3) dX5_speed_47 rfl rfl ?_
      refine jm_ret (Y := YX5_speed) (pc := 48) (st := []) dX5_speed_48 rfl rfl ?_
      unfold q_speed
      first | exact ⟨fun z => absurd z (by omega), fun _ => ⟨rfl, rfl⟩⟩ | exact ⟨fun _ => ⟨by rw [n_k], by rw [n_k, n_z]; exact CA_w hC1 (fun i hi => jm_sf_n _ _ (by omega)) (RV_sp hR1 (c := k) z (by omega)), AF_t hA1 (AF_r (r := 0) (fun i hi => jm_sf_n _ _ (by omega)) (by decide))⟩, fun z => absurd (by omega) z⟩ | fail
    · refine jm_ldc (Y := YX5_speed) (pc := 20) (v := -1000001) dX5_speed_20 kc_RX5_64 ?_
      refine jm_ret (Y := YX5_speed) (pc := 22) (st := []) dX5_speed_22 rfl rfl ?_
      unfold q_speed
      first | exact ⟨fun z => absurd z (by omega), fun _ => ⟨rfl, rfl⟩⟩ | exact ⟨fun _ => ⟨by rw [n_k], by rw [n_k, n_z]; exact CA_w hC1 (fun i hi => jm_sf_n _ _ (by omega)) (RV_sp hR1 (c := k) z (by omega)), AF_t hA1 (AF_r (r := 0) (fun i hi => jm_sf_n _ _ (by omega)) (by decide))⟩, fun z => absurd (by omega) z⟩ | fail
theorem w_rain (w pf : Nat → Nat) (n : Nat) (M : jm_M) (hC : CA M w pf n) (hg : rG w) (hn : n ≤ 24) (hm : w 4 ≤ 9999) (v : Int32) : jm_J none YX5_rain 0 [some (.ref 0), some (.int v), none] [] M ((fun o M1 => if w 2 = 0 then o = some (.int (-1000002)) ∧ M1 = M else if 0 ≤ v.toInt ∧ v.toInt ≤ 15 then o = some (.int (nI (w 0))) ∧ CA M1 (wU w 0 v.toInt.toNat) ((p_nt w pf n)) ((p_na n)) ∧ AF M M1 else o = some (.int (-1000001)) ∧ M1 = M)) := by
  have hR := hC.1
  have hb := hg.hb
  have g0 := hg.1.1
  have g1 := hg.1.2.1
  have g2 := hg.1.2.2.1
  have g3 := hg.1.2.2.2.1
  have g4 := hg.1.2.2.2.2
  refine jm_ald_n (Y := YX5_rain) (pc := 0) (i := 0) dX5_rain_0 rfl rfl ?_
  refine jm_V0ie (Y := YX5_rain) (pc := 1) dX5_rain_1 lk_RX5_133 ⟨_, rfl⟩ rfl (by decide) (Nat.le_of_ble_eq_true rfl) ⟨by decide, by decide⟩ (w_hasRiver w _ hR hg hm) ?_
  refine jm_if_neB (Y := YX5_rain) (pc := 4) dX5_rain_4 rfl (fun h_4 => ?_) (fun h_4 => ?_)
  · refine jm_ild_n (Y := YX5_rain) (pc := 10) (i := 1) dX5_rain_10 rfl rfl ?_
    refine jm_icN (Y := YX5_rain) (pc := 11) 0 dX5_rain_11 rfl ?_
    refine jm_bpN (Y := YX5_rain) (pc := 12) 15 dX5_rain_12 rfl ?_
    refine jm_S3ie (Y := YX5_rain) (pc := 14) dX5_rain_14 lk_RX5_98 ⟨_, rfl⟩ rfl rfl rfl (by decide) (Nat.le_of_ble_eq_true rfl) ⟨by decide, by decide⟩ (w_wiN _ _ _ _ (by decide) (by decide)) ?_
    refine jm_if_neB (Y := YX5_rain) (pc := 17) dX5_rain_17 rfl (fun h_17 => ?_) (fun h_17 => ?_)
    · obtain ⟨z, h_z, rfl, t_z, n_z⟩ := jm_ofL (v := v) (n := 16) (by omega) (by omega)
      refine jm_ald_n (Y := YX5_rain) (pc := 23) (i := 0) dX5_rain_23 rfl rfl ?_
      refine jm_getR (Y := YX5_rain) (pc := 24) dX5_rain_24 fr_RX5_33 rfl (by decide) rfl ?_
      first | refine jm_getE (Y := YX5_rain) (pc := 27) dX5_rain_27 fw_RX5_170 (by first | exact jm_obR ha | exact jm_obR hb | rfl) (by decide) (by first | exact jm_rf3 | rfl) (by assumption) ?_ | refine jm_getE (Y := YX5_rain) (pc := 27) dX5_rain_27 fw_RX5_170 (by first | exact jm_obR ha | exact jm_obR hb | rfl) (by decide) (by first | exact jm_rf3 | rfl) (by exact hR.1.1) ?_ | refine jm_getE (Y := YX5_rain) (pc := 27) dX5_rain_27 fw_RX5_170 (by first | exact jm_obR ha | exact jm_obR hb | rfl) (by decide) (by first | exact jm_rf3 | rfl) (by exact hR.1.2.1) ?_ | refine jm_getE (Y := YX5_rain) (pc := 27) dX5_rain_27 fw_RX5_170 (by first | exact jm_obR ha | exact jm_obR hb | rfl) (by decide) (by first | exact jm_rf3 | rfl) (by exact hR.1.2.2.1) ?_ | refine jm_getE (Y := YX5_rain) (pc := 27) dX5_rain_27 fw_RX5_170 (by first | exact jm_obR ha | exact jm_obR hb | rfl) (by decide) (by first | exact jm_rf3 | rfl) (by exact hR.1.2.2.2.1) ?_ | refine jm_getE (Y := YX5_rain) (pc := 27) dX5_rain_27 fw_RX5_170 (by first | exact jm_obR ha | exact jm_obR hb | rfl) (by decide) (by first | exact jm_rf3 | rfl) (by exact hR.1.2.2.2.2) ?_ | refine jm_getE (Y := YX5_rain) (pc := 27) dX5_rain_27 fw_RX5_170 (by first | exact jm_obR ha | exact jm_obR hb | rfl) (by decide) (by first | exact jm_rf3 | rfl) (by exact hR.2.1 _ (by omega)) ?_ | refine jm_getE (Y := YX5_rain) (pc := 27) dX5_rain_27 fw_RX5_170 (by first | exact jm_obR ha | exact jm_obR hb | rfl) (by decide) (by first | exact jm_rf3 | rfl) (by exact (hR.2.2 _ (by omega)).1) ?_ | refine jm_getE (Y := YX5_rain) (pc := 27) dX5_rain_27 fw_RX5_170 (by first | exact jm_obR ha | exact jm_obR hb | rfl) (by decide) (by first | exact jm_rf3 | rfl) (by exact (hR.2.2 _ (by omega)).2) ?_ | refine jm_getI (Y := YX5_rain) (pc := 27) dX5_rain_27 fw_RX5_170.F (by first | exact jm_obR ha | exact jm_obR hb | rfl) (by decide) (by first | exact jm_rf3 | rfl) ?_ | fail
      refine jm_ist_n (Y := YX5_rain) (pc := 30) (i := 2) (ls' := [_, _, _]) dX5_rain_30 rfl (Nat.le_of_ble_eq_true rfl) rfl rfl ?_
      refine jm_ald_n (Y := YX5_rain) (pc := 31) (i := 0) dX5_rain_31 rfl rfl ?_
      refine jm_V0v (Y := YX5_rain) (pc := 32) dX5_rain_32 lk_RX5_140 rfl rfl (by decide) (Nat.le_of_ble_eq_true rfl) ⟨by decide, by decide⟩ (w_keepAct w pf n _ hC hg hn) (fun M_32 q_32 => ?_)
      obtain ⟨-, hC1, hA1⟩ := q_32
      have hR1 := hC1.1
      refine jm_ald_n (Y := YX5_rain) (pc := 35) (i := 0) dX5_rain_35 rfl rfl ?_
      refine jm_getR (Y := YX5_rain) (pc := 36) dX5_rain_36 fr_RX5_33 rfl (by decide) rfl ?_
      refine jm_ild_n (Y := YX5_rain) (pc := 39) (i := 1) dX5_rain_39 rfl rfl ?_
      refine jm_put (Y := YX5_rain) (pc := 40) dX5_rain_40 fw_RX5_170 rfl (by decide) rfl ?_
      refine jm_ild_n (Y := YX5_rain) (pc := 43) (i := 2) dX5_rain_43 rfl rfl ?_
      refine jm_ret (Y := YX5_rain) (pc := 44) (st := []) dX5_rain_44 rfl rfl ?_
      first | (rw [if_pos (by omega)]; exact ⟨rfl, rfl⟩) | (rw [if_neg (by omega), if_pos (by omega), n_z]; exact ⟨rfl, CA_w hC1 (fun i hi => jm_sf_n _ _ (by omega)) (RV_0 hR1 z), AF_t hA1 (AF_r (r := 0) (fun i hi => jm_sf_n _ _ (by omega)) (by decide))⟩) | (rw [if_neg (by omega), if_neg (by omega)]; exact ⟨rfl, rfl⟩) | fail
    · refine jm_ldc (Y := YX5_rain) (pc := 20) (v := -1000001) dX5_rain_20 kc_RX5_64 ?_
      refine jm_ret (Y := YX5_rain) (pc := 22) (st := []) dX5_rain_22 rfl rfl ?_
      first | (rw [if_pos (by omega)]; exact ⟨rfl, rfl⟩) | (rw [if_neg (by omega), if_pos (by omega), n_z]; exact ⟨rfl, CA_w hC1 (fun i hi => jm_sf_n _ _ (by omega)) (RV_0 hR1 z), AF_t hA1 (AF_r (r := 0) (fun i hi => jm_sf_n _ _ (by omega)) (by decide))⟩) | (rw [if_neg (by omega), if_neg (by omega)]; exact ⟨rfl, rfl⟩) | fail
  · refine jm_ldc (Y := YX5_rain) (pc := 7) (v := -1000002) dX5_rain_7 kc_RX5_136 ?_
    refine jm_ret (Y := YX5_rain) (pc := 9) (st := []) dX5_rain_9 rfl rfl ?_
    first | (rw [if_pos (by omega)]; exact ⟨rfl, rfl⟩) | (rw [if_neg (by omega), if_pos (by omega), n_z]; exact ⟨rfl, CA_w hC1 (fun i hi => jm_sf_n _ _ (by omega)) (RV_0 hR1 z), AF_t hA1 (AF_r (r := 0) (fun i hi => jm_sf_n _ _ (by omega)) (by decide))⟩) | (rw [if_neg (by omega), if_neg (by omega)]; exact ⟨rfl, rfl⟩) | fail
theorem w_minutes0 (w pf : Nat → Nat) (n : Nat) (M0 : jm_M) (hg : rG w) (hn : n ≤ 24) (hm : w 4 ≤ 9999) (N : Nat) (hN : N ≤ 24) : ∀ (m : Nat) (k : Nat) (M : jm_M), k ≤ N → CA M (p_on w k) (p_mp w pf n k).1 (p_mp w pf n k).2 → AF M0 M → N - k < m → jm_J none YX5_minutes 43 [some (.ref 0), some (.int (nI N)), some (.int (nI k))] [] M ((fun o M1 => o = some (.int (nI (p_gn (p_on w N) (w 3)))) ∧ CA M1 (p_on w N) (p_mp w pf n N).1 (p_mp w pf n N).2 ∧ AF M0 M1)) := by
  intro m
  induction m with
  | zero => intros; omega
  | succ m ih =>
    intro k M hk hC hA hmm
    have hG := p_on_rG hg k (by omega)
    have h3 := hg.1.2.2.2.1
    have hl := p_mp_le (w := w) (pf := pf) hn k
    have hR := hC.1
    refine jm_ild_n (Y := YX5_minutes) (pc := 43) (i := 2) dX5_minutes_43 rfl rfl ?_
    refine jm_ild_n (Y := YX5_minutes) (pc := 44) (i := 1) dX5_minutes_44 rfl rfl ?_
    refine jm_icmp_geN (Y := YX5_minutes) (pc := 45) dX5_minutes_45 rfl (by omega) (by omega) (fun h_45 => ?_) (fun h_45 => ?_)
    · refine jm_ald_n (Y := YX5_minutes) (pc := 65) (i := 0) dX5_minutes_65 rfl rfl ?_
      refine jm_getR (Y := YX5_minutes) (pc := 66) dX5_minutes_66 fr_RX5_33 rfl (by decide) rfl ?_
      refine jm_V0ie (Y := YX5_minutes) (pc := 69) dX5_minutes_69 lk_RX5_146 ⟨_, rfl⟩ (by first | exact jm_obR ha | exact jm_obR hb | rfl) (by decide) (Nat.le_of_ble_eq_true rfl) ⟨by decide, by decide⟩ (m_goneBits 0 (by decide) (p_on w k) _ hR hG) ?_
      refine jm_ret (Y := YX5_minutes) (pc := 72) (st := []) dX5_minutes_72 rfl rfl ?_
      have ek : k = N := by omega
      subst ek
      exact ⟨by rw [p_on_hd w (by decide) (by decide)], hC, hA⟩
    · refine jm_ald_n (Y := YX5_minutes) (pc := 48) (i := 0) dX5_minutes_48 rfl rfl ?_
      refine jm_V0v (Y := YX5_minutes) (pc := 49) dX5_minutes_49 lk_RX5_140 rfl rfl (by decide) (Nat.le_of_ble_eq_true rfl) ⟨by decide, by decide⟩ (w_keepAct (p_on w k) _ _ _ hC hG hl) (fun M_49 q_49 => ?_)
      obtain ⟨-, hC1, hA1⟩ := q_49
      have hR1 := hC1.1
      refine jm_ald_n (Y := YX5_minutes) (pc := 52) (i := 0) dX5_minutes_52 rfl rfl ?_
      refine jm_getR (Y := YX5_minutes) (pc := 53) dX5_minutes_53 fr_RX5_33 rfl (by decide) rfl ?_
      refine jm_V0v (Y := YX5_minutes) (pc := 56) dX5_minutes_56 lk_RX5_143 rfl (by first | exact jm_obR ha | exact jm_obR hb | rfl) (by decide) (Nat.le_of_ble_eq_true rfl) ⟨by decide, by decide⟩ (m_passMinute 0 (by decide) (p_on w k) _ hR1 hG) (fun M_56 q_56 => ?_)
      obtain ⟨-, hV2, hF2⟩ := q_56
      refine jm_incN (Y := YX5_minutes) (pc := 59) (m := 1) (ls' := [_, _, _]) dX5_minutes_59 rfl rfl rfl rfl ?_
      refine jm_goto (Y := YX5_minutes) (pc := 62) dX5_minutes_62 rfl ?_
      exact ih (k + 1) _ (by omega) (CA_w hC1 hF2 hV2) (AF_t hA (AF_t hA1 (AF_r hF2 (by decide)))) (by omega)
theorem w_minutes (w pf : Nat → Nat) (n : Nat) (M : jm_M) (hC : CA M w pf n) (hg : rG w) (hn : n ≤ 24) (hm : w 4 ≤ 9999) (v : Int32) : jm_J none YX5_minutes 0 [some (.ref 0), some (.int v), none] [] M ((fun o M1 => if w 2 = 0 then o = some (.int (-1000002)) ∧ M1 = M else if 1 ≤ v.toInt ∧ v.toInt ≤ 24 then (if w 4 + v.toInt.toNat ≤ 9999 then o = some (.int (nI (p_gn (p_on w v.toInt.toNat) (w 3)))) ∧ CA M1 (p_on w v.toInt.toNat) ((p_mp w pf n v.toInt.toNat).1) ((p_mp w pf n v.toInt.toNat).2) ∧ AF M M1 else o = some (.int (-1000003)) ∧ M1 = M) else o = some (.int (-1000001)) ∧ M1 = M)) := by
  have hR := hC.1
  have hb := hg.hb
  have g0 := hg.1.1
  have g1 := hg.1.2.1
  have g2 := hg.1.2.2.1
  have g3 := hg.1.2.2.2.1
  have g4 := hg.1.2.2.2.2
  refine jm_ald_n (Y := YX5_minutes) (pc := 0) (i := 0) dX5_minutes_0 rfl rfl ?_
  refine jm_V0ie (Y := YX5_minutes) (pc := 1) dX5_minutes_1 lk_RX5_133 ⟨_, rfl⟩ rfl (by decide) (Nat.le_of_ble_eq_true rfl) ⟨by decide, by decide⟩ (w_hasRiver w _ hR hg hm) ?_
  refine jm_if_neB (Y := YX5_minutes) (pc := 4) dX5_minutes_4 rfl (fun h_4 => ?_) (fun h_4 => ?_)
  · refine jm_ild_n (Y := YX5_minutes) (pc := 10) (i := 1) dX5_minutes_10 rfl rfl ?_
    refine jm_icN (Y := YX5_minutes) (pc := 11) 1 dX5_minutes_11 rfl ?_
    refine jm_bpN (Y := YX5_minutes) (pc := 12) 24 dX5_minutes_12 rfl ?_
    refine jm_S3ie (Y := YX5_minutes) (pc := 14) dX5_minutes_14 lk_RX5_98 ⟨_, rfl⟩ rfl rfl rfl (by decide) (Nat.le_of_ble_eq_true rfl) ⟨by decide, by decide⟩ (w_wiN _ _ _ _ (by decide) (by decide)) ?_
    refine jm_if_neB (Y := YX5_minutes) (pc := 17) dX5_minutes_17 rfl (fun h_17 => ?_) (fun h_17 => ?_)
    · obtain ⟨N, h_N, rfl, t_N, n_N⟩ := jm_ofL (v := v) (n := 25) (by omega) (by omega)
      refine jm_ald_n (Y := YX5_minutes) (pc := 23) (i := 0) dX5_minutes_23 rfl rfl ?_
      refine jm_getR (Y := YX5_minutes) (pc := 24) dX5_minutes_24 fr_RX5_33 rfl (by decide) rfl ?_
      first | refine jm_getE (Y := YX5_minutes) (pc := 27) dX5_minutes_27 fw_RX5_137 (by first | exact jm_obR ha | exact jm_obR hb | rfl) (by decide) (by first | exact jm_rf4 | rfl) (by assumption) ?_ | refine jm_getE (Y := YX5_minutes) (pc := 27) dX5_minutes_27 fw_RX5_137 (by first | exact jm_obR ha | exact jm_obR hb | rfl) (by decide) (by first | exact jm_rf4 | rfl) (by exact hR.1.1) ?_ | refine jm_getE (Y := YX5_minutes) (pc := 27) dX5_minutes_27 fw_RX5_137 (by first | exact jm_obR ha | exact jm_obR hb | rfl) (by decide) (by first | exact jm_rf4 | rfl) (by exact hR.1.2.1) ?_ | refine jm_getE (Y := YX5_minutes) (pc := 27) dX5_minutes_27 fw_RX5_137 (by first | exact jm_obR ha | exact jm_obR hb | rfl) (by decide) (by first | exact jm_rf4 | rfl) (by exact hR.1.2.2.1) ?_ | refine jm_getE (Y := YX5_minutes) (pc := 27) dX5_minutes_27 fw_RX5_137 (by first | exact jm_obR ha | exact jm_obR hb | rfl) (by decide) (by first | exact jm_rf4 | rfl) (by exact hR.1.2.2.2.1) ?_ | refine jm_getE (Y := YX5_minutes) (pc := 27) dX5_minutes_27 fw_RX5_137 (by first | exact jm_obR ha | exact jm_obR hb | rfl) (by decide) (by first | exact jm_rf4 | rfl) (by exact hR.1.2.2.2.2) ?_ | refine jm_getE (Y := YX5_minutes) (pc := 27) dX5_minutes_27 fw_RX5_137 (by first | exact jm_obR ha | exact jm_obR hb | rfl) (by decide) (by first | exact jm_rf4 | rfl) (by exact hR.2.1 _ (by omega)) ?_ | refine jm_getE (Y := YX5_minutes) (pc := 27) dX5_minutes_27 fw_RX5_137 (by first | exact jm_obR ha | exact jm_obR hb | rfl) (by decide) (by first | exact jm_rf4 | rfl) (by exact (hR.2.2 _ (by omega)).1) ?_ | refine jm_getE (Y := YX5_minutes) (pc := 27) dX5_minutes_27 fw_RX5_137 (by first | exact jm_obR ha | exact jm_obR hb | rfl) (by decide) (by first | exact jm_rf4 | rfl) (by exact (hR.2.2 _ (by omega)).2) ?_ | refine jm_getI (Y := YX5_minutes) (pc := 27) dX5_minutes_27 fw_RX5_137.F (by first | exact jm_obR ha | exact jm_obR hb | rfl) (by decide) (by first | exact jm_rf4 | rfl) ?_ | fail
      refine jm_ild_n (Y := YX5_minutes) (pc := 30) (i := 1) dX5_minutes_30 rfl rfl ?_
      refine jm_addN (Y := YX5_minutes) (pc := 31) dX5_minutes_31 ?_
      refine jm_spN (Y := YX5_minutes) (pc := 32) 9999 dX5_minutes_32 rfl ?_
      refine jm_icmp_leN (Y := YX5_minutes) (pc := 35) dX5_minutes_35 rfl (by first | omega | exact jm_lt hb _) (by first | omega | exact jm_lt hb _) (fun h_35 => ?_) (fun h_35 => ?_)
      · refine jm_icN (Y := YX5_minutes) (pc := 41) 0 dX5_minutes_41 rfl ?_
        refine jm_ist_n (Y := YX5_minutes) (pc := 42) (i := 2) (ls' := [_, _, _]) dX5_minutes_42 rfl (Nat.le_of_ble_eq_true rfl) rfl rfl ?_
        refine jm_wk (Y := YX5_minutes) (pc := 43) (w_minutes0 w pf n M hg hn hm N (by omega) (N + 1) 0 M (by omega) hC (AF_0 M) (by omega)) (fun o M1 q => ?_)
        rw [if_neg (by omega), if_pos (by omega), n_N, if_pos h_35]
        exact q
      · refine jm_ldc (Y := YX5_minutes) (pc := 38) (v := -1000003) dX5_minutes_38 kc_RX5_105 ?_
        refine jm_ret (Y := YX5_minutes) (pc := 40) (st := []) dX5_minutes_40 rfl rfl ?_
        first | (rw [if_pos (by omega)]; exact ⟨rfl, rfl⟩) | (rw [if_neg (by omega), if_pos (by omega), n_N, if_neg (by omega)]; exact ⟨rfl, rfl⟩) | (rw [if_neg (by omega), if_neg (by omega)]; exact ⟨rfl, rfl⟩) | fail
    · refine jm_ldc (Y := YX5_minutes) (pc := 20) (v := -1000001) dX5_minutes_20 kc_RX5_64 ?_
      refine jm_ret (Y := YX5_minutes) (pc := 22) (st := []) dX5_minutes_22 rfl rfl ?_
      first | (rw [if_pos (by omega)]; exact ⟨rfl, rfl⟩) | (rw [if_neg (by omega), if_pos (by omega), n_N, if_neg (by omega)]; exact ⟨rfl, rfl⟩) | (rw [if_neg (by omega), if_neg (by omega)]; exact ⟨rfl, rfl⟩) | fail
  · refine jm_ldc (Y := YX5_minutes) (pc := 7) (v := -1000002) dX5_minutes_7 kc_RX5_136 ?_
    refine jm_ret (Y := YX5_minutes) (pc := 9) (st := []) dX5_minutes_9 rfl rfl ?_
    first | (rw [if_pos (by omega)]; exact ⟨rfl, rfl⟩) | (rw [if_neg (by omega), if_pos (by omega), n_N, if_neg (by omega)]; exact ⟨rfl, rfl⟩) | (rw [if_neg (by omega), if_neg (by omega)]; exact ⟨rfl, rfl⟩) | fail
theorem p_row_cp {w pf : Nat → Nat} (hz : ∀ j, 45 ≤ j → w j = 0) (r : Nat) : p_cp pf w (45 * r) 0 45 = p_row pf r := by
  funext i
  unfold p_cp p_row
  by_cases h : i < 45
  · rw [if_pos (by omega), if_pos h]; exact congrArg pf (by omega)
  · rw [if_neg (by omega), if_neg h, hz i (by omega)]
theorem CA_u {M M1 : jm_M} {w' pf : Nat → Nat} {n p : Nat} (hn : 0 < n) (hn24 : n ≤ 24) (hp : p < 24) (h4 : ∀ j, j < n → RV M (2 + (p + 23 - j) % 24) (p_row pf (n - 1 - j))) (hV : RV M1 0 w') (hF : ∀ i, i ≠ 0 → ¬ (32 ≤ i ∧ i < 36) → M1 i = M i) (h7 : M1 0 7 = nI ((p + 23) % 24)) (h8 : M1 0 8 = nI (n - 1)) : CA M1 w' pf (n - 1) := by
  refine ⟨hV, h8, (p + 23) % 24, Nat.mod_lt _ (by decide), h7, fun j hj => ?_⟩
  have q := h4 (j + 1) (by omega)
  have e1 : ((p + 23) % 24 + 23 - j) % 24 = (p + 23 - (j + 1)) % 24 := by omega
  have e2 : n - 1 - 1 - j = n - 1 - (j + 1) := by omega
  rw [e1, e2]
  exact RV_fr (fun i a b => hF i (by omega) (by omega)) q
theorem w_undo0 (w pf : Nat → Nat) (n p : Nat) (M : jm_M) (h8 : M 0 8 = nI n) (hn : n ≤ 24) (hp : p < 24) (h7 : M 0 7 = nI p) (h4 : ∀ j, j < n → RV M (2 + (p + 23 - j) % 24) (p_row pf (n - 1 - j))) (hr : ∀ r, r < n → rG (p_row pf r)) : jm_J none YX5_undo 0 [some (.ref 0)] [] M ((fun o M1 => if n = 0 then o = some (.int (-1000002)) ∧ M1 = M else o = some (.int (nI (n - 1))) ∧ CA M1 (p_row pf (n - 1)) (pf) (n - 1) ∧ AF M M1)) := by
  have ml := Nat.mod_lt (p + 23) (show 0 < 24 by decide)
  have ha : 2 + (p + 23) % 24 < 28 := by omega
  refine jm_ald_n (Y := YX5_undo) (pc := 0) (i := 0) dX5_undo_0 rfl rfl ?_
  refine jm_getE (Y := YX5_undo) (pc := 1) dX5_undo_1 fw_RX5_51 rfl (by decide) rfl (h8) ?_
  refine jm_if_neN (Y := YX5_undo) (pc := 4) dX5_undo_4 rfl (by omega) (fun h_4 => ?_) (fun h_4 => ?_)
  · have hG := hr (n - 1) (by omega)
    have g2 := hG.1.2.2.1
    have g3 := hG.1.2.2.2.1
    have hV0 := h4 0 (by omega)
    rw [Nat.sub_zero, Nat.sub_zero] at hV0
    refine jm_ald_n (Y := YX5_undo) (pc := 10) (i := 0) dX5_undo_10 rfl rfl ?_
    refine jm_ald_n (Y := YX5_undo) (pc := 11) (i := 0) dX5_undo_11 rfl rfl ?_
    refine jm_getE (Y := YX5_undo) (pc := 12) dX5_undo_12 fw_RX5_47 rfl (by decide) rfl (h7) ?_
    refine jm_bpN (Y := YX5_undo) (pc := 15) 24 dX5_undo_15 rfl ?_
    refine jm_addN (Y := YX5_undo) (pc := 17) dX5_undo_17 ?_
    refine jm_icN (Y := YX5_undo) (pc := 18) 1 dX5_undo_18 rfl ?_
    refine jm_subN (Y := YX5_undo) (pc := 19) dX5_undo_19 (by omega) ?_
    rw [show p + 24 - 1 = p + 23 by omega]
    refine jm_bpN (Y := YX5_undo) (pc := 20) 24 dX5_undo_20 rfl ?_
    refine jm_remN (Y := YX5_undo) (pc := 22) dX5_undo_22 (by omega) (by omega) (by omega) ?_
    refine jm_put (Y := YX5_undo) (pc := 23) dX5_undo_23 fw_RX5_47 rfl (by decide) rfl ?_
    refine jm_ald_n (Y := YX5_undo) (pc := 26) (i := 0) dX5_undo_26 rfl rfl ?_
    refine jm_dup (Y := YX5_undo) (pc := 27) dX5_undo_27 rfl ?_
    refine jm_getE (Y := YX5_undo) (pc := 28) dX5_undo_28 fw_RX5_51 rfl (by decide) rfl ((show _ = nI n from h8)) ?_
    refine jm_icN (Y := YX5_undo) (pc := 31) 1 dX5_undo_31 rfl ?_
    refine jm_subN (Y := YX5_undo) (pc := 32) dX5_undo_32 (by omega) ?_
    refine jm_put (Y := YX5_undo) (pc := 33) dX5_undo_33 fw_RX5_51 rfl (by decide) rfl ?_
    refine jm_ald_n (Y := YX5_undo) (pc := 36) (i := 0) dX5_undo_36 rfl rfl ?_
    refine jm_getR (Y := YX5_undo) (pc := 37) dX5_undo_37 fr_RX5_33 rfl (by decide) rfl ?_
    refine jm_ald_n (Y := YX5_undo) (pc := 40) (i := 0) dX5_undo_40 rfl rfl ?_
    refine jm_getR (Y := YX5_undo) (pc := 41) dX5_undo_41 fr_RX5_40 rfl (by decide) rfl ?_
    refine jm_ald_n (Y := YX5_undo) (pc := 44) (i := 0) dX5_undo_44 rfl rfl ?_
    refine jm_getE (Y := YX5_undo) (pc := 45) dX5_undo_45 fw_RX5_47 rfl (by decide) rfl ((show _ = nI ((p + 23) % 24) from rfl)) ?_
    refine jm_aalN (Y := YX5_undo) (pc := 48) dX5_undo_48 rfl (by decide) (by omega) rfl ?_
    rw [show 40 + 4 * ((p + 23) % 24) = 32 + 4 * (2 + (p + 23) % 24) by omega]
    refine jm_V1v (Y := YX5_undo) (pc := 49) dX5_undo_49 lk_RX5_120 rfl (by first | exact jm_obR ha | exact jm_obR hb | rfl) rfl (by decide) (Nat.le_of_ble_eq_true rfl) ⟨by decide, by decide⟩ (m_become 0 (2 + (p + 23) % 24) (by decide) (by omega) (by omega) (p_row pf (n - 1)) _ (RV_fr (fun i a b => by rw [jm_sf_n _ _ (by omega), jm_sf_n _ _ (by omega)]) hV0) g2 g3) (fun M_49 q_49 => ?_)
    obtain ⟨-, hV, hF⟩ := q_49
    refine jm_ald_n (Y := YX5_undo) (pc := 52) (i := 0) dX5_undo_52 rfl rfl ?_
    refine jm_getE (Y := YX5_undo) (pc := 53) dX5_undo_53 fw_RX5_51 rfl (by decide) rfl ((show _ = nI (n - 1) from (congrFun (hF 0 (by omega)) 8).trans rfl)) ?_
    refine jm_ret (Y := YX5_undo) (pc := 56) (st := []) dX5_undo_56 rfl rfl ?_
    rw [if_neg h_4]
    exact ⟨rfl, CA_u (M := M) (p := p) (by omega) hn hp h4 hV (fun i a b => by rw [hF i (by omega), jm_sf_n _ _ a, jm_sf_n _ _ a]) ((congrFun (hF 0 (by omega)) 7).trans rfl) ((congrFun (hF 0 (by omega)) 8).trans rfl), fun i a b => by rw [hF i (by omega), jm_sf_n _ _ a, jm_sf_n _ _ a], (congrFun (hF 0 (by omega)) 9).trans rfl⟩
  · refine jm_ldc (Y := YX5_undo) (pc := 7) (v := -1000002) dX5_undo_7 kc_RX5_136 ?_
    refine jm_ret (Y := YX5_undo) (pc := 9) (st := []) dX5_undo_9 rfl rfl ?_
    rw [if_pos (by omega)]; exact ⟨rfl, rfl⟩
theorem w_undo (w pf : Nat → Nat) (n : Nat) (M : jm_M) (hC : CA M w pf n) (hn : n ≤ 24) (hr : ∀ r, r < n → rG (p_row pf r)) : jm_J none YX5_undo 0 [some (.ref 0)] [] M (fun o M1 => if n = 0 then o = some (.int (-1000002)) ∧ M1 = M else o = some (.int (nI (n - 1))) ∧ CA M1 (p_row pf (n - 1)) (pf) (n - 1) ∧ AF M M1) := by
  obtain ⟨h1, h2, p, hp, h3, h4⟩ := hC
  exact w_undo0 w pf n p M h2 hn hp h3 h4 hr
def CI (M : jm_M) (im : Nat → Nat) (kp : Nat → Bool) : Prop := ∀ k, k < 2 → (kp k = true → RV M (26 + k) (p_row im k)) ∧ (¬ kp k = true → M (32 + 4 * (26 + k)) 0 = nI 0)
theorem CI_f {M M1 : jm_M} {im : Nat → Nat} {kp : Nat → Bool} (h : CI M im kp) (hF : ∀ i, 136 ≤ i → i < 144 → M1 i = M i) : CI M1 im kp := fun k hk => ⟨fun z => RV_fr (fun i a b => hF i (by omega) (by omega)) ((h k hk).1 z), fun z => by rw [hF _ (by omega) (by omega)]; exact (h k hk).2 z⟩
theorem p_row_im {w im : Nat → Nat} (hz : ∀ j, 45 ≤ j → w j = 0) (k : Nat) : p_row (p_cp w im 0 (45 * k) 45) k = w := by
  funext i
  unfold p_row
  by_cases h : i < 45
  · rw [if_pos h]
    unfold p_cp
    rw [if_pos (by omega)]; exact congrArg w (by omega)
  · rw [if_neg h, hz i (by omega)]
theorem p_row_io {w im : Nat → Nat} {k x : Nat} (h : x ≠ k) : p_row (p_cp w im 0 (45 * k) 45) x = p_row im x := by
  funext i
  unfold p_row
  by_cases h2 : i < 45
  · rw [if_pos h2, if_pos h2]
    unfold p_cp
    rw [if_neg (by omega)]
  · rw [if_neg h2, if_neg h2]
def kU (kp : Nat → Bool) (k : Nat) : Nat → Bool := fun j => if j = k then true else kp j
theorem CI_w {M M1 : jm_M} {w im : Nat → Nat} {kp : Nat → Bool} {k : Nat} (h : CI M im kp) (hk : k < 2) (hz : ∀ j, 45 ≤ j → w j = 0) (hV : RV M1 (26 + k) w) (hF : RF (26 + k) M M1) : CI M1 (p_cp w im 0 (45 * k) 45) (kU kp k) := fun x hx => by
  by_cases e : x = k
  · subst e
    refine ⟨fun _ => by rw [p_row_im hz]; exact hV, fun z => absurd (if_pos rfl) z⟩
  · have ek : kU kp k x = kp x := if_neg e
    rw [ek, p_row_io e]
    exact ⟨fun z => RV_fr (fun i a b => hF i (by omega)) ((h x hx).1 z), fun z => by rw [hF _ (by omega)]; exact (h x hx).2 z⟩
theorem w_image (w : Nat → Nat) (M : jm_M) (hR : RV M 0 w) (hg : rG w) (hm : w 4 ≤ 9999) (im : Nat → Nat) (kp : Nat → Bool) (hI : CI M im kp) (v : Int32) : jm_J none YX5_image 0 [some (.ref 0), some (.int v)] [] M ((fun o M1 => if 0 ≤ v.toInt ∧ v.toInt ≤ 1 then (if w 2 = 0 then o = some (.int (-1000002)) ∧ M1 = M else o = some (.int (nI 1)) ∧ CI M1 (p_cp w im 0 (45 * v.toInt.toNat) 45) (kU kp v.toInt.toNat) ∧ (∀ i, ¬ (136 ≤ i ∧ i < 144) → M1 i = M i)) else o = some (.int (-1000001)) ∧ M1 = M)) := by
  have hb := hg.hb
  have g0 := hg.1.1
  have g1 := hg.1.2.1
  have g2 := hg.1.2.2.1
  have g3 := hg.1.2.2.2.1
  have g4 := hg.1.2.2.2.2
  refine jm_ild_n (Y := YX5_image) (pc := 0) (i := 1) dX5_image_0 rfl rfl ?_
  refine jm_icN (Y := YX5_image) (pc := 1) 0 dX5_image_1 rfl ?_
  refine jm_icN (Y := YX5_image) (pc := 2) 1 dX5_image_2 rfl ?_
  refine jm_S3ie (Y := YX5_image) (pc := 3) dX5_image_3 lk_RX5_98 ⟨_, rfl⟩ rfl rfl rfl (by decide) (Nat.le_of_ble_eq_true rfl) ⟨by decide, by decide⟩ (w_wiN _ _ _ _ (by decide) (by decide)) ?_
  refine jm_if_neB (Y := YX5_image) (pc := 6) dX5_image_6 rfl (fun h_6 => ?_) (fun h_6 => ?_)
  · obtain ⟨k, h_k, rfl, t_k, n_k⟩ := jm_ofL (v := v) (n := 2) (by omega) (by omega)
    have ha : 26 + k < 28 := (by omega)
    refine jm_ald_n (Y := YX5_image) (pc := 12) (i := 0) dX5_image_12 rfl rfl ?_
    refine jm_V0ie (Y := YX5_image) (pc := 13) dX5_image_13 lk_RX5_133 ⟨_, rfl⟩ rfl (by decide) (Nat.le_of_ble_eq_true rfl) ⟨by decide, by decide⟩ (w_hasRiver w _ hR hg hm) ?_
    refine jm_if_neB (Y := YX5_image) (pc := 16) dX5_image_16 rfl (fun h_16 => ?_) (fun h_16 => ?_)
    · refine jm_ald_n (Y := YX5_image) (pc := 22) (i := 0) dX5_image_22 rfl rfl ?_
      refine jm_getR (Y := YX5_image) (pc := 23) dX5_image_23 fr_RX5_44 rfl (by decide) rfl ?_
      refine jm_ild_n (Y := YX5_image) (pc := 26) (i := 1) dX5_image_26 rfl rfl ?_
      refine jm_aalN (Y := YX5_image) (pc := 27) dX5_image_27 rfl (by decide) (by omega) rfl ?_
      rw [show 136 + 4 * k = 32 + 4 * (26 + k) by omega]
      refine jm_ald_n (Y := YX5_image) (pc := 28) (i := 0) dX5_image_28 rfl rfl ?_
      refine jm_getR (Y := YX5_image) (pc := 29) dX5_image_29 fr_RX5_33 rfl (by decide) rfl ?_
      refine jm_V1v (Y := YX5_image) (pc := 32) dX5_image_32 lk_RX5_120 rfl (by first | exact jm_obR ha | exact jm_obR hb | rfl) rfl (by decide) (Nat.le_of_ble_eq_true rfl) ⟨by decide, by decide⟩ (m_become (26 + k) 0 (by omega) (by decide) (by omega) w M hR (by omega) (by omega)) (fun M_32 q_32 => ?_)
      obtain ⟨-, hV, hF⟩ := q_32
      refine jm_icN (Y := YX5_image) (pc := 35) 1 dX5_image_35 rfl ?_
      refine jm_ret (Y := YX5_image) (pc := 36) (st := []) dX5_image_36 rfl rfl ?_
      first | (rw [if_neg (by omega)]; exact ⟨rfl, rfl⟩) | (rw [if_pos (by omega), if_pos (by omega)]; exact ⟨rfl, rfl⟩) | (rw [if_pos (by omega), if_neg (by omega), n_k]; exact ⟨rfl, CI_w hI h_k hg.z hV hF, fun i hi => hF i (by omega)⟩) | fail
    · refine jm_ldc (Y := YX5_image) (pc := 19) (v := -1000002) dX5_image_19 kc_RX5_136 ?_
      refine jm_ret (Y := YX5_image) (pc := 21) (st := []) dX5_image_21 rfl rfl ?_
      first | (rw [if_neg (by omega)]; exact ⟨rfl, rfl⟩) | (rw [if_pos (by omega), if_pos (by omega)]; exact ⟨rfl, rfl⟩) | (rw [if_pos (by omega), if_neg (by omega), n_k]; exact ⟨rfl, CI_w hI h_k hg.z hV hF, fun i hi => hF i (by omega)⟩) | fail
  · refine jm_ldc (Y := YX5_image) (pc := 9) (v := -1000001) dX5_image_9 kc_RX5_64 ?_
    refine jm_ret (Y := YX5_image) (pc := 11) (st := []) dX5_image_11 rfl rfl ?_
    first | (rw [if_neg (by omega)]; exact ⟨rfl, rfl⟩) | (rw [if_pos (by omega), if_pos (by omega)]; exact ⟨rfl, rfl⟩) | (rw [if_pos (by omega), if_neg (by omega), n_k]; exact ⟨rfl, CI_w hI h_k hg.z hV hF, fun i hi => hF i (by omega)⟩) | fail
theorem w_restore0 (w im pf : Nat → Nat) (n : Nat) (M : jm_M) (k : Nat) (h_k : k < 2) (hV0 : RV M (26 + k) (p_row im k)) (hG : rG (p_row im k)) (h2 : 0 < p_row im k 2) : jm_J none YX5_restore 12 [some (.ref 0), some (.int (nI k))] [] M ((fun o M1 => o = some (.int (nI 1)) ∧ CA M1 (p_row im k) (pf) (0) ∧ AF M M1)) := by
  have ha : 26 + k < 28 := (by omega)
  have g2 := hG.1.2.2.1
  have g3 := hG.1.2.2.2.1
  refine jm_ald_n (Y := YX5_restore) (pc := 12) (i := 0) dX5_restore_12 rfl rfl ?_
  refine jm_getR (Y := YX5_restore) (pc := 13) dX5_restore_13 fr_RX5_44 rfl (by decide) rfl ?_
  refine jm_ild_n (Y := YX5_restore) (pc := 16) (i := 1) dX5_restore_16 rfl rfl ?_
  refine jm_aalN (Y := YX5_restore) (pc := 17) dX5_restore_17 rfl (by decide) (by omega) rfl ?_
  rw [show 136 + 4 * k = 32 + 4 * (26 + k) by omega]
  refine jm_getE (Y := YX5_restore) (pc := 18) dX5_restore_18 fw_RX5_127 (by first | exact jm_obR ha | exact jm_obR hb | rfl) (by decide) (by first | exact jm_rf0 | rfl) ((hV0.1.1)) ?_
  refine jm_if_neN (Y := YX5_restore) (pc := 21) dX5_restore_21 rfl (by omega) (fun h_21 => ?_) (fun h_21 => by exfalso; omega)
  refine jm_ald_n (Y := YX5_restore) (pc := 27) (i := 0) dX5_restore_27 rfl rfl ?_
  refine jm_getR (Y := YX5_restore) (pc := 28) dX5_restore_28 fr_RX5_33 rfl (by decide) rfl ?_
  refine jm_ald_n (Y := YX5_restore) (pc := 31) (i := 0) dX5_restore_31 rfl rfl ?_
  refine jm_getR (Y := YX5_restore) (pc := 32) dX5_restore_32 fr_RX5_44 rfl (by decide) rfl ?_
  refine jm_ild_n (Y := YX5_restore) (pc := 35) (i := 1) dX5_restore_35 rfl rfl ?_
  refine jm_aalN (Y := YX5_restore) (pc := 36) dX5_restore_36 rfl (by decide) (by omega) rfl ?_
  rw [show 136 + 4 * k = 32 + 4 * (26 + k) by omega]
  refine jm_V1v (Y := YX5_restore) (pc := 37) dX5_restore_37 lk_RX5_120 rfl (by first | exact jm_obR ha | exact jm_obR hb | rfl) rfl (by decide) (Nat.le_of_ble_eq_true rfl) ⟨by decide, by decide⟩ (m_become 0 (26 + k) (by decide) (by omega) (by omega) (p_row im k) M hV0 g2 g3) (fun M_37 q_37 => ?_)
  obtain ⟨-, hV, hF⟩ := q_37
  refine jm_ald_n (Y := YX5_restore) (pc := 40) (i := 0) dX5_restore_40 rfl rfl ?_
  refine jm_V0ve (Y := YX5_restore) (pc := 41) dX5_restore_41 lk_RX5_124 rfl rfl (by decide) (Nat.le_of_ble_eq_true rfl) ⟨by decide, by decide⟩ (w_forget _) ?_
  refine jm_icN (Y := YX5_restore) (pc := 44) 1 dX5_restore_44 rfl ?_
  refine jm_ret (Y := YX5_restore) (pc := 45) (st := []) dX5_restore_45 rfl rfl ?_
  exact ⟨rfl, ⟨RV_fr (fun i a b => by rw [jm_sf_n _ _ (by omega)]) hV, by rw [jm_sf_s, upd_s], 0, by decide, by rw [jm_sf_s, upd_n _ _ (by decide), upd_s], fun j hj => absurd hj (Nat.not_lt_zero _)⟩, fun i a b => by rw [jm_sf_n _ _ a, hF i (by omega)], by rw [jm_sf_s, upd_n _ _ (by decide), upd_n _ _ (by decide), hF 0 (by omega)]⟩
theorem w_restore1 (M : jm_M) (k : Nat) (h_k : k < 2) (h0 : M (32 + 4 * (26 + k)) 0 = nI 0) : jm_J none YX5_restore 12 [some (.ref 0), some (.int (nI k))] [] M (jm_is (some (.int (-1000002))) M) := by
  have ha : 26 + k < 28 := (by omega)
  refine jm_ald_n (Y := YX5_restore) (pc := 12) (i := 0) dX5_restore_12 rfl rfl ?_
  refine jm_getR (Y := YX5_restore) (pc := 13) dX5_restore_13 fr_RX5_44 rfl (by decide) rfl ?_
  refine jm_ild_n (Y := YX5_restore) (pc := 16) (i := 1) dX5_restore_16 rfl rfl ?_
  refine jm_aalN (Y := YX5_restore) (pc := 17) dX5_restore_17 rfl (by decide) (by omega) rfl ?_
  rw [show 136 + 4 * k = 32 + 4 * (26 + k) by omega]
  refine jm_getE (Y := YX5_restore) (pc := 18) dX5_restore_18 fw_RX5_127 (by first | exact jm_obR ha | exact jm_obR hb | rfl) (by decide) (by first | exact jm_rf0 | rfl) (h0) ?_
  refine jm_if_neN (Y := YX5_restore) (pc := 21) dX5_restore_21 rfl (by omega) (fun h_21 => by exfalso; omega) (fun h_21 => ?_)
  refine jm_ldc (Y := YX5_restore) (pc := 24) (v := -1000002) dX5_restore_24 kc_RX5_136 ?_
  refine jm_ret (Y := YX5_restore) (pc := 26) (st := []) dX5_restore_26 rfl rfl ?_
  exact ⟨rfl, rfl⟩
theorem w_restore (im pf : Nat → Nat) (n : Nat) (kp : Nat → Bool) (M : jm_M) (hI : CI M im kp) (hk : ∀ k, k < 2 → kp k = true → rG (p_row im k) ∧ 0 < p_row im k 2) (v : Int32) : jm_J none YX5_restore 0 [some (.ref 0), some (.int v)] [] M ((fun o M1 => if 0 ≤ v.toInt ∧ v.toInt ≤ 1 then (if kp v.toInt.toNat = true then o = some (.int (nI 1)) ∧ CA M1 (p_row im v.toInt.toNat) (pf) (0) ∧ AF M M1 else o = some (.int (-1000002)) ∧ M1 = M) else o = some (.int (-1000001)) ∧ M1 = M)) := by
  refine jm_ild_n (Y := YX5_restore) (pc := 0) (i := 1) dX5_restore_0 rfl rfl ?_
  refine jm_icN (Y := YX5_restore) (pc := 1) 0 dX5_restore_1 rfl ?_
  refine jm_icN (Y := YX5_restore) (pc := 2) 1 dX5_restore_2 rfl ?_
  refine jm_S3ie (Y := YX5_restore) (pc := 3) dX5_restore_3 lk_RX5_98 ⟨_, rfl⟩ rfl rfl rfl (by decide) (Nat.le_of_ble_eq_true rfl) ⟨by decide, by decide⟩ (w_wiN _ _ _ _ (by decide) (by decide)) ?_
  refine jm_if_neB (Y := YX5_restore) (pc := 6) dX5_restore_6 rfl (fun h_6 => ?_) (fun h_6 => ?_)
  · obtain ⟨k, h_k, rfl, t_k, n_k⟩ := jm_ofL (v := v) (n := 2) (by omega) (by omega)
    by_cases z : kp k = true
    · refine jm_wk (Y := YX5_restore) (pc := 12) (w_restore0 (fun _ => 0) im pf n M k h_k ((hI k h_k).1 z) (hk k h_k z).1 (hk k h_k z).2) (fun o M1 q => ?_)
      rw [if_pos (by omega), n_k, if_pos z]
      exact q
    · refine jm_wk (Y := YX5_restore) (pc := 12) (w_restore1 M k h_k ((hI k h_k).2 z)) (fun o M1 q => ?_)
      rw [if_pos (by omega), n_k, if_neg z]
      exact q
  · refine jm_ldc (Y := YX5_restore) (pc := 9) (v := -1000001) dX5_restore_9 kc_RX5_64 ?_
    refine jm_ret (Y := YX5_restore) (pc := 11) (st := []) dX5_restore_11 rfl rfl ?_
    rw [if_neg (by omega)]; exact ⟨rfl, rfl⟩
