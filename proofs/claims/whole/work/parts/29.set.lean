/-! the class: rivers set, drawn, made swift -/
theorem RV_0 {M : jm_M} {r : Nat} {w : Nat → Nat} (hR : RV M r w) (x : Nat) : RV (jm_sf M (32 + 4 * r) (upd (M (32 + 4 * r)) 3 (nI x))) r (wU w 0 x) := by
  obtain ⟨⟨f0, f1, f2, f3, f4⟩, a, b⟩ := hR
  refine ⟨⟨?_, ?_, ?_, ?_, ?_⟩, fun c hc => ?_, fun k hk => ?_⟩
  · rw [jm_sf_s, upd_n _ _ (by decide), wU_n _ _ (by decide)]; exact f0
  · rw [jm_sf_s, upd_n _ _ (by decide), wU_n _ _ (by decide)]; exact f1
  · rw [jm_sf_s, upd_n _ _ (by decide), wU_n _ _ (by decide)]; exact f2
  · rw [jm_sf_s, upd_s, wU_s]
  · rw [jm_sf_s, upd_n _ _ (by decide), wU_n _ _ (by decide)]; exact f4
  · rw [wU_n _ _ (by decide)] at hc
    rw [jm_sf_n _ _ (by omega), wU_n _ _ (by omega)]; exact a c hc
  · rw [wU_n _ _ (by decide)] at hk
    rw [jm_sf_n _ _ (by omega), jm_sf_n _ _ (by omega), wU_n _ _ (by omega), wU_n _ _ (by omega), wU_n _ _ (by omega)]; exact b k hk
theorem RV_sp {M : jm_M} {r : Nat} {w : Nat → Nat} (hR : RV M r w) {c : Nat} (x : Nat) (hc : c < 12) : RV (jm_sf M (33 + 4 * r) (upd (M (33 + 4 * r)) c (nI x))) r (wU w (5 + c) x) := by
  obtain ⟨⟨f0, f1, f2, f3, f4⟩, a, b⟩ := hR
  refine ⟨⟨?_, ?_, ?_, ?_, ?_⟩, fun d hd => ?_, fun k hk => ?_⟩
  · rw [jm_sf_n _ _ (by omega), wU_n _ _ (by omega)]; exact f0
  · rw [jm_sf_n _ _ (by omega), wU_n _ _ (by omega)]; exact f1
  · rw [jm_sf_n _ _ (by omega), wU_n _ _ (by omega)]; exact f2
  · rw [jm_sf_n _ _ (by omega), wU_n _ _ (by omega)]; exact f3
  · rw [jm_sf_n _ _ (by omega), wU_n _ _ (by omega)]; exact f4
  · rw [wU_n _ _ (by omega)] at hd
    rw [jm_sf_s]
    by_cases z : d = c
    · subst z; rw [upd_s, wU_s]
    · rw [upd_n _ _ z, wU_n _ _ (by omega)]; exact a d hd
  · rw [wU_n _ _ (by omega)] at hk
    rw [jm_sf_n _ _ (by omega), jm_sf_n _ _ (by omega), wU_n _ _ (by omega), wU_n _ _ (by omega), wU_n _ _ (by omega)]; exact b k hk
theorem p_says_a (w : Nat → Nat) (k b c a : Nat) : p_says w k b c (17 + 4 * a) = w (17 + 4 * a) := by
  unfold p_says
  rw [wU_n _ _ (by omega), wU_n _ _ (by omega), wU_n _ _ (by omega)]
theorem p_says_k (w : Nat → Nat) (k b c : Nat) : p_says w k b c (17 + 4 * k + 1) = b ∧ p_says w k b c (17 + 4 * k + 2) = c := by
  unfold p_says
  exact ⟨by rw [wU_n _ _ (by omega), wU_n _ _ (by omega), wU_s], by rw [wU_n _ _ (by omega), wU_s]⟩
theorem p_says_n (w : Nat → Nat) {k a : Nat} (b c : Nat) (h : a ≠ k) : p_says w k b c (17 + 4 * a + 1) = w (17 + 4 * a + 1) ∧ p_says w k b c (17 + 4 * a + 2) = w (17 + 4 * a + 2) := by
  unfold p_says
  exact ⟨by rw [wU_n _ _ (by omega), wU_n _ _ (by omega), wU_n _ _ (by omega)], by rw [wU_n _ _ (by omega), wU_n _ _ (by omega), wU_n _ _ (by omega)]⟩
theorem RV_says {M : jm_M} {r : Nat} {w : Nat → Nat} (hR : RV M r w) {k : Nat} (x c : Nat) (h12 : w 2 ≤ 12) : RV (jm_sf M (35 + 4 * r) (upd (M (35 + 4 * r)) k (nI (16 * x + c)))) r (p_says w k x c) := by
  obtain ⟨⟨f0, f1, f2, f3, f4⟩, a, b⟩ := hR
  have hd : ∀ j, j < 17 → p_says w k x c j = w j := fun j hj => p_says_hd w k x c hj
  refine ⟨⟨?_, ?_, ?_, ?_, ?_⟩, fun d hc => ?_, fun q hk => ?_⟩
  · rw [jm_sf_n _ _ (by omega), hd _ (by omega)]; exact f0
  · rw [jm_sf_n _ _ (by omega), hd _ (by omega)]; exact f1
  · rw [jm_sf_n _ _ (by omega), hd _ (by omega)]; exact f2
  · rw [jm_sf_n _ _ (by omega), hd _ (by omega)]; exact f3
  · rw [jm_sf_n _ _ (by omega), hd _ (by omega)]; exact f4
  · rw [hd 2 (by omega)] at hc
    rw [jm_sf_n _ _ (by omega), hd _ (by omega)]; exact a d hc
  · rw [hd 3 (by omega)] at hk
    rw [jm_sf_n _ _ (by omega), jm_sf_s, p_says_a]
    refine ⟨(b q hk).1, ?_⟩
    by_cases z : q = k
    · subst z
      rw [upd_s, (p_says_k w q x c).1, (p_says_k w q x c).2]
    · rw [upd_n _ _ z, (p_says_n w x c z).1, (p_says_n w x c z).2]
      exact (b q hk).2
theorem m_sayDrawn (r : Nat) (ha : r < 28) (w : Nat → Nat) (M : jm_M) (hR : RV M r w) (hg : rG w) (x : Nat) (hx : x < 2147483647) : jm_J none YX2_sayDrawn 0 [some (.ref (32 + 4 * r)), some (.int (nI x)), none] [] M ((fun o M1 => if 0 < w 3 ∧ 0 < w 2 ∧ w (17 + 4 * (x % w 3) + 3) = 1 then o = some (.int (nI 1)) ∧ RV M1 r (p_says w (x % w 3) (x % 60 + 1) (x % w 2)) ∧ RF r M M1 else o = some (.int (nI 0)) ∧ M1 = M)) := by
  have hb := hg.hb
  have g0 := hg.1.1
  have g1 := hg.1.2.1
  have g2 := hg.1.2.2.1
  have g3 := hg.1.2.2.2.1
  have g4 := hg.1.2.2.2.2
  refine jm_ald_n (Y := YX2_sayDrawn) (pc := 0) (i := 0) dX2_sayDrawn_0 rfl rfl ?_
  first | refine jm_getE (Y := YX2_sayDrawn) (pc := 1) dX2_sayDrawn_1 fw_RX2_15 (by first | exact jm_obR ha | exact jm_obR hb | rfl) (by decide) (by first | exact jm_rf1 | rfl) (by assumption) ?_ | refine jm_getE (Y := YX2_sayDrawn) (pc := 1) dX2_sayDrawn_1 fw_RX2_15 (by first | exact jm_obR ha | exact jm_obR hb | rfl) (by decide) (by first | exact jm_rf1 | rfl) (by exact hR.1.1) ?_ | refine jm_getE (Y := YX2_sayDrawn) (pc := 1) dX2_sayDrawn_1 fw_RX2_15 (by first | exact jm_obR ha | exact jm_obR hb | rfl) (by decide) (by first | exact jm_rf1 | rfl) (by exact hR.1.2.1) ?_ | refine jm_getE (Y := YX2_sayDrawn) (pc := 1) dX2_sayDrawn_1 fw_RX2_15 (by first | exact jm_obR ha | exact jm_obR hb | rfl) (by decide) (by first | exact jm_rf1 | rfl) (by exact hR.1.2.2.1) ?_ | refine jm_getE (Y := YX2_sayDrawn) (pc := 1) dX2_sayDrawn_1 fw_RX2_15 (by first | exact jm_obR ha | exact jm_obR hb | rfl) (by decide) (by first | exact jm_rf1 | rfl) (by exact hR.1.2.2.2.1) ?_ | refine jm_getE (Y := YX2_sayDrawn) (pc := 1) dX2_sayDrawn_1 fw_RX2_15 (by first | exact jm_obR ha | exact jm_obR hb | rfl) (by decide) (by first | exact jm_rf1 | rfl) (by exact hR.1.2.2.2.2) ?_ | refine jm_getE (Y := YX2_sayDrawn) (pc := 1) dX2_sayDrawn_1 fw_RX2_15 (by first | exact jm_obR ha | exact jm_obR hb | rfl) (by decide) (by first | exact jm_rf1 | rfl) (by exact hR.2.1 _ (by omega)) ?_ | refine jm_getE (Y := YX2_sayDrawn) (pc := 1) dX2_sayDrawn_1 fw_RX2_15 (by first | exact jm_obR ha | exact jm_obR hb | rfl) (by decide) (by first | exact jm_rf1 | rfl) (by exact (hR.2.2 _ (by omega)).1) ?_ | refine jm_getE (Y := YX2_sayDrawn) (pc := 1) dX2_sayDrawn_1 fw_RX2_15 (by first | exact jm_obR ha | exact jm_obR hb | rfl) (by decide) (by first | exact jm_rf1 | rfl) (by exact (hR.2.2 _ (by omega)).2) ?_ | refine jm_getI (Y := YX2_sayDrawn) (pc := 1) dX2_sayDrawn_1 fw_RX2_15.F (by first | exact jm_obR ha | exact jm_obR hb | rfl) (by decide) (by first | exact jm_rf1 | rfl) ?_ | fail
  refine jm_if_eqN (Y := YX2_sayDrawn) (pc := 4) dX2_sayDrawn_4 rfl (by first | omega | exact jm_lt hb _) (fun h_4 => ?_) (fun h_4 => ?_)
  · refine jm_icN (Y := YX2_sayDrawn) (pc := 14) 0 dX2_sayDrawn_14 rfl ?_
    refine jm_ret (Y := YX2_sayDrawn) (pc := 15) (st := []) dX2_sayDrawn_15 rfl rfl ?_
    first
      | (rw [if_neg (by omega)]; exact ⟨rfl, rfl⟩)
      | (rw [if_neg (fun z => h_32 (qg.mp z.2.2))]; exact ⟨rfl, rfl⟩)
      | (rw [if_pos ⟨by omega, by omega, qg.mpr h_32⟩, Nat.add_comm (x % 60) 1]; exact ⟨rfl, RV_says hR _ _ (by omega), fun i hi => by rw [jm_sf_n _ _ (by omega)]⟩)
      | fail
  · refine jm_ald_n (Y := YX2_sayDrawn) (pc := 7) (i := 0) dX2_sayDrawn_7 rfl rfl ?_
    first | refine jm_getE (Y := YX2_sayDrawn) (pc := 8) dX2_sayDrawn_8 fw_RX2_9 (by first | exact jm_obR ha | exact jm_obR hb | rfl) (by decide) (by first | exact jm_rf0 | rfl) (by assumption) ?_ | refine jm_getE (Y := YX2_sayDrawn) (pc := 8) dX2_sayDrawn_8 fw_RX2_9 (by first | exact jm_obR ha | exact jm_obR hb | rfl) (by decide) (by first | exact jm_rf0 | rfl) (by exact hR.1.1) ?_ | refine jm_getE (Y := YX2_sayDrawn) (pc := 8) dX2_sayDrawn_8 fw_RX2_9 (by first | exact jm_obR ha | exact jm_obR hb | rfl) (by decide) (by first | exact jm_rf0 | rfl) (by exact hR.1.2.1) ?_ | refine jm_getE (Y := YX2_sayDrawn) (pc := 8) dX2_sayDrawn_8 fw_RX2_9 (by first | exact jm_obR ha | exact jm_obR hb | rfl) (by decide) (by first | exact jm_rf0 | rfl) (by exact hR.1.2.2.1) ?_ | refine jm_getE (Y := YX2_sayDrawn) (pc := 8) dX2_sayDrawn_8 fw_RX2_9 (by first | exact jm_obR ha | exact jm_obR hb | rfl) (by decide) (by first | exact jm_rf0 | rfl) (by exact hR.1.2.2.2.1) ?_ | refine jm_getE (Y := YX2_sayDrawn) (pc := 8) dX2_sayDrawn_8 fw_RX2_9 (by first | exact jm_obR ha | exact jm_obR hb | rfl) (by decide) (by first | exact jm_rf0 | rfl) (by exact hR.1.2.2.2.2) ?_ | refine jm_getE (Y := YX2_sayDrawn) (pc := 8) dX2_sayDrawn_8 fw_RX2_9 (by first | exact jm_obR ha | exact jm_obR hb | rfl) (by decide) (by first | exact jm_rf0 | rfl) (by exact hR.2.1 _ (by omega)) ?_ | refine jm_getE (Y := YX2_sayDrawn) (pc := 8) dX2_sayDrawn_8 fw_RX2_9 (by first | exact jm_obR ha | exact jm_obR hb | rfl) (by decide) (by first | exact jm_rf0 | rfl) (by exact (hR.2.2 _ (by omega)).1) ?_ | refine jm_getE (Y := YX2_sayDrawn) (pc := 8) dX2_sayDrawn_8 fw_RX2_9 (by first | exact jm_obR ha | exact jm_obR hb | rfl) (by decide) (by first | exact jm_rf0 | rfl) (by exact (hR.2.2 _ (by omega)).2) ?_ | refine jm_getI (Y := YX2_sayDrawn) (pc := 8) dX2_sayDrawn_8 fw_RX2_9.F (by first | exact jm_obR ha | exact jm_obR hb | rfl) (by decide) (by first | exact jm_rf0 | rfl) ?_ | fail
    refine jm_if_neN (Y := YX2_sayDrawn) (pc := 11) dX2_sayDrawn_11 rfl (by first | omega | exact jm_lt hb _) (fun h_11 => ?_) (fun h_11 => ?_)
    · have hlt : x % w 3 < w 3 := Nat.mod_lt _ (by omega)
      have hl2 : x % w 2 < w 2 := Nat.mod_lt _ (by omega)
      have hl6 : x % 60 < 60 := Nat.mod_lt _ (by decide)
      have q0 := hg.2.2.1 (x % w 3) (by omega)
      have qg : w (17 + 4 * (x % w 3) + 3) = 1 ↔ w (17 + 4 * (x % w 3) + 1) = 0 := m_gone hg hlt
      refine jm_ild_n (Y := YX2_sayDrawn) (pc := 16) (i := 1) dX2_sayDrawn_16 rfl rfl ?_
      refine jm_ald_n (Y := YX2_sayDrawn) (pc := 17) (i := 0) dX2_sayDrawn_17 rfl rfl ?_
      first | refine jm_getE (Y := YX2_sayDrawn) (pc := 18) dX2_sayDrawn_18 fw_RX2_15 (by first | exact jm_obR ha | exact jm_obR hb | rfl) (by decide) (by first | exact jm_rf1 | rfl) (by assumption) ?_ | refine jm_getE (Y := YX2_sayDrawn) (pc := 18) dX2_sayDrawn_18 fw_RX2_15 (by first | exact jm_obR ha | exact jm_obR hb | rfl) (by decide) (by first | exact jm_rf1 | rfl) (by exact hR.1.1) ?_ | refine jm_getE (Y := YX2_sayDrawn) (pc := 18) dX2_sayDrawn_18 fw_RX2_15 (by first | exact jm_obR ha | exact jm_obR hb | rfl) (by decide) (by first | exact jm_rf1 | rfl) (by exact hR.1.2.1) ?_ | refine jm_getE (Y := YX2_sayDrawn) (pc := 18) dX2_sayDrawn_18 fw_RX2_15 (by first | exact jm_obR ha | exact jm_obR hb | rfl) (by decide) (by first | exact jm_rf1 | rfl) (by exact hR.1.2.2.1) ?_ | refine jm_getE (Y := YX2_sayDrawn) (pc := 18) dX2_sayDrawn_18 fw_RX2_15 (by first | exact jm_obR ha | exact jm_obR hb | rfl) (by decide) (by first | exact jm_rf1 | rfl) (by exact hR.1.2.2.2.1) ?_ | refine jm_getE (Y := YX2_sayDrawn) (pc := 18) dX2_sayDrawn_18 fw_RX2_15 (by first | exact jm_obR ha | exact jm_obR hb | rfl) (by decide) (by first | exact jm_rf1 | rfl) (by exact hR.1.2.2.2.2) ?_ | refine jm_getE (Y := YX2_sayDrawn) (pc := 18) dX2_sayDrawn_18 fw_RX2_15 (by first | exact jm_obR ha | exact jm_obR hb | rfl) (by decide) (by first | exact jm_rf1 | rfl) (by exact hR.2.1 _ (by omega)) ?_ | refine jm_getE (Y := YX2_sayDrawn) (pc := 18) dX2_sayDrawn_18 fw_RX2_15 (by first | exact jm_obR ha | exact jm_obR hb | rfl) (by decide) (by first | exact jm_rf1 | rfl) (by exact (hR.2.2 _ (by omega)).1) ?_ | refine jm_getE (Y := YX2_sayDrawn) (pc := 18) dX2_sayDrawn_18 fw_RX2_15 (by first | exact jm_obR ha | exact jm_obR hb | rfl) (by decide) (by first | exact jm_rf1 | rfl) (by exact (hR.2.2 _ (by omega)).2) ?_ | refine jm_getI (Y := YX2_sayDrawn) (pc := 18) dX2_sayDrawn_18 fw_RX2_15.F (by first | exact jm_obR ha | exact jm_obR hb | rfl) (by decide) (by first | exact jm_rf1 | rfl) ?_ | fail
      refine jm_remN (Y := YX2_sayDrawn) (pc := 21) dX2_sayDrawn_21 (by first | omega | exact jm_lt hb _) (by first | omega | exact jm_lt hb _) (by first | omega | exact jm_lt hb _) ?_
      refine jm_ist_n (Y := YX2_sayDrawn) (pc := 22) (i := 2) (ls' := [_, _, _]) dX2_sayDrawn_22 rfl (Nat.le_of_ble_eq_true rfl) rfl rfl ?_
      refine jm_ald_n (Y := YX2_sayDrawn) (pc := 23) (i := 0) dX2_sayDrawn_23 rfl rfl ?_
      refine jm_getR (Y := YX2_sayDrawn) (pc := 24) dX2_sayDrawn_24 fr_RX2_34 (by first | exact jm_obR ha | exact jm_obR hb | rfl) (by decide) (by first | exact jm_rf7 | rfl) ?_
      refine jm_ild_n (Y := YX2_sayDrawn) (pc := 27) (i := 2) dX2_sayDrawn_27 rfl rfl ?_
      refine jm_ialN (Y := YX2_sayDrawn) (pc := 28) dX2_sayDrawn_28 (by first | assumption | exact jm_arR1 ha | exact jm_arR2 ha | exact jm_arR3 ha | exact jm_arR1 hb | exact jm_arR2 hb | exact jm_arR3 hb | rfl) (by first | omega | exact jm_lt hb _) (by first | assumption | exact hR.1.1 | exact hR.1.2.1 | exact hR.1.2.2.1 | exact hR.1.2.2.2.1 | exact hR.1.2.2.2.2 | exact hR.2.1 _ (by omega) | exact (hR.2.2 _ (by omega)).1 | exact (hR.2.2 _ (by omega)).2 | rfl) ?_
      refine jm_S1ie (Y := YX2_sayDrawn) (pc := 29) dX2_sayDrawn_29 lk_RX2_47 ⟨_, rfl⟩ rfl (by decide) (Nat.le_of_ble_eq_true rfl) ⟨by decide, by decide⟩ (m_isGone _ _ _ (by omega) (by omega)) ?_
      refine jm_if_neB (Y := YX2_sayDrawn) (pc := 32) dX2_sayDrawn_32 rfl (fun h_32 => ?_) (fun h_32 => ?_)
      · refine jm_ald_n (Y := YX2_sayDrawn) (pc := 37) (i := 0) dX2_sayDrawn_37 rfl rfl ?_
        refine jm_getR (Y := YX2_sayDrawn) (pc := 38) dX2_sayDrawn_38 fr_RX2_34 (by first | exact jm_obR ha | exact jm_obR hb | rfl) (by decide) (by first | exact jm_rf7 | rfl) ?_
        refine jm_ild_n (Y := YX2_sayDrawn) (pc := 41) (i := 2) dX2_sayDrawn_41 rfl rfl ?_
        refine jm_icN (Y := YX2_sayDrawn) (pc := 42) 1 dX2_sayDrawn_42 rfl ?_
        refine jm_ild_n (Y := YX2_sayDrawn) (pc := 43) (i := 1) dX2_sayDrawn_43 rfl rfl ?_
        refine jm_bpN (Y := YX2_sayDrawn) (pc := 44) 60 dX2_sayDrawn_44 rfl ?_
        refine jm_remN (Y := YX2_sayDrawn) (pc := 46) dX2_sayDrawn_46 (by first | omega | exact jm_lt hb _) (by first | omega | exact jm_lt hb _) (by first | omega | exact jm_lt hb _) ?_
        refine jm_addN (Y := YX2_sayDrawn) (pc := 47) dX2_sayDrawn_47 ?_
        refine jm_ild_n (Y := YX2_sayDrawn) (pc := 48) (i := 1) dX2_sayDrawn_48 rfl rfl ?_
        refine jm_ald_n (Y := YX2_sayDrawn) (pc := 49) (i := 0) dX2_sayDrawn_49 rfl rfl ?_
        first | refine jm_getE (Y := YX2_sayDrawn) (pc := 50) dX2_sayDrawn_50 fw_RX2_9 (by first | exact jm_obR ha | exact jm_obR hb | rfl) (by decide) (by first | exact jm_rf0 | rfl) (by assumption) ?_ | refine jm_getE (Y := YX2_sayDrawn) (pc := 50) dX2_sayDrawn_50 fw_RX2_9 (by first | exact jm_obR ha | exact jm_obR hb | rfl) (by decide) (by first | exact jm_rf0 | rfl) (by exact hR.1.1) ?_ | refine jm_getE (Y := YX2_sayDrawn) (pc := 50) dX2_sayDrawn_50 fw_RX2_9 (by first | exact jm_obR ha | exact jm_obR hb | rfl) (by decide) (by first | exact jm_rf0 | rfl) (by exact hR.1.2.1) ?_ | refine jm_getE (Y := YX2_sayDrawn) (pc := 50) dX2_sayDrawn_50 fw_RX2_9 (by first | exact jm_obR ha | exact jm_obR hb | rfl) (by decide) (by first | exact jm_rf0 | rfl) (by exact hR.1.2.2.1) ?_ | refine jm_getE (Y := YX2_sayDrawn) (pc := 50) dX2_sayDrawn_50 fw_RX2_9 (by first | exact jm_obR ha | exact jm_obR hb | rfl) (by decide) (by first | exact jm_rf0 | rfl) (by exact hR.1.2.2.2.1) ?_ | refine jm_getE (Y := YX2_sayDrawn) (pc := 50) dX2_sayDrawn_50 fw_RX2_9 (by first | exact jm_obR ha | exact jm_obR hb | rfl) (by decide) (by first | exact jm_rf0 | rfl) (by exact hR.1.2.2.2.2) ?_ | refine jm_getE (Y := YX2_sayDrawn) (pc := 50) dX2_sayDrawn_50 fw_RX2_9 (by first | exact jm_obR ha | exact jm_obR hb | rfl) (by decide) (by first | exact jm_rf0 | rfl) (by exact hR.2.1 _ (by omega)) ?_ | refine jm_getE (Y := YX2_sayDrawn) (pc := 50) dX2_sayDrawn_50 fw_RX2_9 (by first | exact jm_obR ha | exact jm_obR hb | rfl) (by decide) (by first | exact jm_rf0 | rfl) (by exact (hR.2.2 _ (by omega)).1) ?_ | refine jm_getE (Y := YX2_sayDrawn) (pc := 50) dX2_sayDrawn_50 fw_RX2_9 (by first | exact jm_obR ha | exact jm_obR hb | rfl) (by decide) (by first | exact jm_rf0 | rfl) (by exact (hR.2.2 _ (by omega)).2) ?_ | refine jm_getI (Y := YX2_sayDrawn) (pc := 50) dX2_sayDrawn_50 fw_RX2_9.F (by first | exact jm_obR ha | exact jm_obR hb | rfl) (by decide) (by first | exact jm_rf0 | rfl) ?_ | fail
        refine jm_remN (Y := YX2_sayDrawn) (pc := 53) dX2_sayDrawn_53 (by first | omega | exact jm_lt hb _) (by first | omega | exact jm_lt hb _) (by first | omega | exact jm_lt hb _) ?_
        refine jm_S2ie (Y := YX2_sayDrawn) (pc := 54) dX2_sayDrawn_54 lk_RX2_78 ⟨_, rfl⟩ rfl rfl (by decide) (Nat.le_of_ble_eq_true rfl) ⟨by decide, by decide⟩ (m_packed _ _ _ (by omega) (by omega)) ?_
        refine jm_iasN (Y := YX2_sayDrawn) (pc := 57) dX2_sayDrawn_57 (by first | assumption | exact jm_arR1 ha | exact jm_arR2 ha | exact jm_arR3 ha | exact jm_arR1 hb | exact jm_arR2 hb | exact jm_arR3 hb | rfl) (by first | omega | exact jm_lt hb _) ?_
        refine jm_icN (Y := YX2_sayDrawn) (pc := 58) 1 dX2_sayDrawn_58 rfl ?_
        refine jm_ret (Y := YX2_sayDrawn) (pc := 59) (st := []) dX2_sayDrawn_59 rfl rfl ?_
        first
          | (rw [if_neg (by omega)]; exact ⟨rfl, rfl⟩)
          | (rw [if_neg (fun z => h_32 (qg.mp z.2.2))]; exact ⟨rfl, rfl⟩)
          | (rw [if_pos ⟨by omega, by omega, qg.mpr h_32⟩, Nat.add_comm (x % 60) 1]; exact ⟨rfl, RV_says hR _ _ (by omega), fun i hi => by rw [jm_sf_n _ _ (by omega)]⟩)
          | fail
      · refine jm_icN (Y := YX2_sayDrawn) (pc := 35) 0 dX2_sayDrawn_35 rfl ?_
        refine jm_ret (Y := YX2_sayDrawn) (pc := 36) (st := []) dX2_sayDrawn_36 rfl rfl ?_
        first
          | (rw [if_neg (by omega)]; exact ⟨rfl, rfl⟩)
          | (rw [if_neg (fun z => h_32 (qg.mp z.2.2))]; exact ⟨rfl, rfl⟩)
          | (rw [if_pos ⟨by omega, by omega, qg.mpr h_32⟩, Nat.add_comm (x % 60) 1]; exact ⟨rfl, RV_says hR _ _ (by omega), fun i hi => by rw [jm_sf_n _ _ (by omega)]⟩)
          | fail
    · refine jm_icN (Y := YX2_sayDrawn) (pc := 14) 0 dX2_sayDrawn_14 rfl ?_
      refine jm_ret (Y := YX2_sayDrawn) (pc := 15) (st := []) dX2_sayDrawn_15 rfl rfl ?_
      first
        | (rw [if_neg (by omega)]; exact ⟨rfl, rfl⟩)
        | (rw [if_neg (fun z => h_32 (qg.mp z.2.2))]; exact ⟨rfl, rfl⟩)
        | (rw [if_pos ⟨by omega, by omega, qg.mpr h_32⟩, Nat.add_comm (x % 60) 1]; exact ⟨rfl, RV_says hR _ _ (by omega), fun i hi => by rw [jm_sf_n _ _ (by omega)]⟩)
        | fail
theorem p_sd_in (w : Nat → Nat) (s : Nat) {j : Nat} : ∀ c, j < c → p_sd w s c (5 + j) = if s / 2 ^ j % 2 = 1 then 3 else w (5 + j)
  | 0, h => absurd h (Nat.not_lt_zero _)
  | c + 1, h => by
    show wU (p_sd w s c) (5 + c) _ (5 + j) = _
    by_cases q : j = c
    · subst q; rw [wU_s]
    · rw [wU_n _ _ (by omega)]; exact p_sd_in w s c (by omega)
theorem m_takeSpeeds0 (r r2 : Nat) (ha : r < 28) (hb : r2 < 28) (hne : r ≠ r2) (w : Nat → Nat) (hg : rG w) (s : Nat) (hs : s < 4096) (M0 : jm_M) (h0 : M0 (32 + 4 * r) 0 = nI (w 2)) (hR : RV M0 r2 w) : ∀ (m : Nat) (c : Nat) (l4 : Option Value) (f : Nat → Int32), c ≤ w 2 → (∀ x, x < c → f x = nI (p_sd w s (w 2) (5 + x))) → w 2 - c < m → jm_J none YX2_takeSpeeds 2 [some (.ref (32 + 4 * r)), some (.ref (32 + 4 * r2)), some (.int (nI s)), some (.int (nI c)), l4] [] (jm_sf M0 (33 + 4 * r) f) ((fun o M1 => o = none ∧ ∃ f, M1 = jm_sf M0 (33 + 4 * r) f ∧ ∀ x, x < w 2 → f x = nI (p_sd w s (w 2) (5 + x)))) := by
  intro m
  induction m with
  | zero => intros; omega
  | succ m ih =>
    intro c l4 f hc hf hmm
    have g2 := hg.1.2.2.1
    have hbb := hg.hb
    refine jm_ild_n (Y := YX2_takeSpeeds) (pc := 2) (i := 3) dX2_takeSpeeds_2 rfl rfl ?_
    refine jm_ald_n (Y := YX2_takeSpeeds) (pc := 3) (i := 0) dX2_takeSpeeds_3 rfl rfl ?_
    refine jm_getE (Y := YX2_takeSpeeds) (pc := 4) dX2_takeSpeeds_4 fw_RX2_9 (by first | exact jm_obR ha | exact jm_obR hb | rfl) (by decide) (by first | exact jm_rf0 | rfl) (((congrFun (jm_sf_n _ _ (by omega)) _).trans h0)) ?_
    refine jm_icmp_geN (Y := YX2_takeSpeeds) (pc := 7) dX2_takeSpeeds_7 rfl (by first | omega | exact jm_lt hbb _) (by first | omega | exact jm_lt hbb _) (fun h_7 => ?_) (fun h_7 => ?_)
    · refine jm_retv (Y := YX2_takeSpeeds) (pc := 53) (st := []) dX2_takeSpeeds_53 rfl ?_
      exact ⟨rfl, f, rfl, fun x hx => hf x (by omega)⟩
    · refine jm_ild_n (Y := YX2_takeSpeeds) (pc := 10) (i := 2) dX2_takeSpeeds_10 rfl rfl ?_
      refine jm_ild_n (Y := YX2_takeSpeeds) (pc := 11) (i := 3) dX2_takeSpeeds_11 rfl rfl ?_
      refine jm_shrN (Y := YX2_takeSpeeds) (pc := 12) dX2_takeSpeeds_12 (by omega) (by omega) ?_
      refine jm_icN (Y := YX2_takeSpeeds) (pc := 13) 1 dX2_takeSpeeds_13 rfl ?_
      refine jm_and1 (Y := YX2_takeSpeeds) (pc := 14) dX2_takeSpeeds_14 (Nat.lt_of_le_of_lt (Nat.div_le_self _ _) (by omega)) ?_
      refine jm_icN (Y := YX2_takeSpeeds) (pc := 15) 1 dX2_takeSpeeds_15 rfl ?_
      refine jm_icmp_neN (Y := YX2_takeSpeeds) (pc := 16) dX2_takeSpeeds_16 rfl (by first | omega | exact jm_lt hbb _) (by first | omega | exact jm_lt hbb _) (fun h_16 => ?_) (fun h_16 => ?_)
      · refine jm_icN (Y := YX2_takeSpeeds) (pc := 23) 0 dX2_takeSpeeds_23 rfl ?_
        refine jm_ist (Y := YX2_takeSpeeds) (pc := 24) (ls' := [_, _, _, _, _]) dX2_takeSpeeds_24 (Nat.le_of_ble_eq_true rfl) rfl rfl ?_
        refine jm_ald_n (Y := YX2_takeSpeeds) (pc := 26) (i := 0) dX2_takeSpeeds_26 rfl rfl ?_
        refine jm_getR (Y := YX2_takeSpeeds) (pc := 27) dX2_takeSpeeds_27 fr_RX2_27 (by first | exact jm_obR ha | exact jm_obR hb | rfl) (by decide) (by first | exact jm_rf5 | rfl) ?_
        refine jm_ild_n (Y := YX2_takeSpeeds) (pc := 30) (i := 3) dX2_takeSpeeds_30 rfl rfl ?_
        refine jm_iload (Y := YX2_takeSpeeds) (pc := 31) dX2_takeSpeeds_31 rfl ?_
        refine jm_if_eqN (Y := YX2_takeSpeeds) (pc := 33) dX2_takeSpeeds_33 rfl (by first | omega | exact jm_lt hbb _) (fun h_33 => ?_) (fun h_33 => ?_)
        · refine jm_ald_n (Y := YX2_takeSpeeds) (pc := 40) (i := 1) dX2_takeSpeeds_40 rfl rfl ?_
          refine jm_getR (Y := YX2_takeSpeeds) (pc := 41) dX2_takeSpeeds_41 fr_RX2_27 (by first | exact jm_obR ha | exact jm_obR hb | rfl) (by decide) (by first | exact jm_rf5 | rfl) ?_
          refine jm_ild_n (Y := YX2_takeSpeeds) (pc := 44) (i := 3) dX2_takeSpeeds_44 rfl rfl ?_
          refine jm_ialN (Y := YX2_takeSpeeds) (pc := 45) dX2_takeSpeeds_45 (by first | assumption | exact jm_arR1 ha | exact jm_arR2 ha | exact jm_arR3 ha | exact jm_arR1 hb | exact jm_arR2 hb | exact jm_arR3 hb | rfl) (by first | omega | exact jm_lt hbb _) (((congrFun (jm_sf_n _ _ (by omega)) _).trans (hR.2.1 c (by omega)))) ?_
          refine jm_iasN (Y := YX2_takeSpeeds) (pc := 46) dX2_takeSpeeds_46 (jm_arR1 ha) (by omega) ?_
          rw [jm_sf_s, jm_sfsf]
          have ep := p_sd_in w s (j := c) (w 2) h_7
          have key : ∀ v : Int32, v = nI (p_sd w s (w 2) (5 + c)) → (∀ x, x < c + 1 → upd f c v x = nI (p_sd w s (w 2) (5 + x))) := fun v hv x hx => by
            by_cases z : x = c
            · subst z; rw [upd_s, hv]
            · rw [upd_n _ _ z]; exact hf x (by omega)
          refine jm_incN (Y := YX2_takeSpeeds) (pc := 47) (m := 1) (ls' := [_, _, _, _, _]) dX2_takeSpeeds_47 rfl rfl rfl rfl ?_
          refine jm_goto (Y := YX2_takeSpeeds) (pc := 50) dX2_takeSpeeds_50 rfl ?_
          first | exact absurd rfl h_33 | exact absurd h_33 (by decide) | exact ih (c + 1) _ _ (by omega) (key _ (by rw [ep, if_pos h_16])) (by omega) | exact ih (c + 1) _ _ (by omega) (key _ (by rw [ep, if_neg h_16])) (by omega) | fail
        · refine jm_icN (Y := YX2_takeSpeeds) (pc := 36) 3 dX2_takeSpeeds_36 rfl ?_
          refine jm_goto (Y := YX2_takeSpeeds) (pc := 37) dX2_takeSpeeds_37 rfl ?_
          refine jm_iasN (Y := YX2_takeSpeeds) (pc := 46) dX2_takeSpeeds_46 (jm_arR1 ha) (by omega) ?_
          rw [jm_sf_s, jm_sfsf]
          have ep := p_sd_in w s (j := c) (w 2) h_7
          have key : ∀ v : Int32, v = nI (p_sd w s (w 2) (5 + c)) → (∀ x, x < c + 1 → upd f c v x = nI (p_sd w s (w 2) (5 + x))) := fun v hv x hx => by
            by_cases z : x = c
            · subst z; rw [upd_s, hv]
            · rw [upd_n _ _ z]; exact hf x (by omega)
          refine jm_incN (Y := YX2_takeSpeeds) (pc := 47) (m := 1) (ls' := [_, _, _, _, _]) dX2_takeSpeeds_47 rfl rfl rfl rfl ?_
          refine jm_goto (Y := YX2_takeSpeeds) (pc := 50) dX2_takeSpeeds_50 rfl ?_
          first | exact absurd rfl h_33 | exact absurd h_33 (by decide) | exact ih (c + 1) _ _ (by omega) (key _ (by rw [ep, if_pos h_16])) (by omega) | exact ih (c + 1) _ _ (by omega) (key _ (by rw [ep, if_neg h_16])) (by omega) | fail
      · refine jm_icN (Y := YX2_takeSpeeds) (pc := 19) 1 dX2_takeSpeeds_19 rfl ?_
        refine jm_goto (Y := YX2_takeSpeeds) (pc := 20) dX2_takeSpeeds_20 rfl ?_
        refine jm_ist (Y := YX2_takeSpeeds) (pc := 24) (ls' := [_, _, _, _, _]) dX2_takeSpeeds_24 (Nat.le_of_ble_eq_true rfl) rfl rfl ?_
        refine jm_ald_n (Y := YX2_takeSpeeds) (pc := 26) (i := 0) dX2_takeSpeeds_26 rfl rfl ?_
        refine jm_getR (Y := YX2_takeSpeeds) (pc := 27) dX2_takeSpeeds_27 fr_RX2_27 (by first | exact jm_obR ha | exact jm_obR hb | rfl) (by decide) (by first | exact jm_rf5 | rfl) ?_
        refine jm_ild_n (Y := YX2_takeSpeeds) (pc := 30) (i := 3) dX2_takeSpeeds_30 rfl rfl ?_
        refine jm_iload (Y := YX2_takeSpeeds) (pc := 31) dX2_takeSpeeds_31 rfl ?_
        refine jm_if_eqN (Y := YX2_takeSpeeds) (pc := 33) dX2_takeSpeeds_33 rfl (by first | omega | exact jm_lt hbb _) (fun h_33 => ?_) (fun h_33 => ?_)
        · refine jm_ald_n (Y := YX2_takeSpeeds) (pc := 40) (i := 1) dX2_takeSpeeds_40 rfl rfl ?_
          refine jm_getR (Y := YX2_takeSpeeds) (pc := 41) dX2_takeSpeeds_41 fr_RX2_27 (by first | exact jm_obR ha | exact jm_obR hb | rfl) (by decide) (by first | exact jm_rf5 | rfl) ?_
          refine jm_ild_n (Y := YX2_takeSpeeds) (pc := 44) (i := 3) dX2_takeSpeeds_44 rfl rfl ?_
          refine jm_ialN (Y := YX2_takeSpeeds) (pc := 45) dX2_takeSpeeds_45 (by first | assumption | exact jm_arR1 ha | exact jm_arR2 ha | exact jm_arR3 ha | exact jm_arR1 hb | exact jm_arR2 hb | exact jm_arR3 hb | rfl) (by first | omega | exact jm_lt hbb _) (((congrFun (jm_sf_n _ _ (by omega)) _).trans (hR.2.1 c (by omega)))) ?_
          refine jm_iasN (Y := YX2_takeSpeeds) (pc := 46) dX2_takeSpeeds_46 (jm_arR1 ha) (by omega) ?_
          rw [jm_sf_s, jm_sfsf]
          have ep := p_sd_in w s (j := c) (w 2) h_7
          have key : ∀ v : Int32, v = nI (p_sd w s (w 2) (5 + c)) → (∀ x, x < c + 1 → upd f c v x = nI (p_sd w s (w 2) (5 + x))) := fun v hv x hx => by
            by_cases z : x = c
            · subst z; rw [upd_s, hv]
            · rw [upd_n _ _ z]; exact hf x (by omega)
          refine jm_incN (Y := YX2_takeSpeeds) (pc := 47) (m := 1) (ls' := [_, _, _, _, _]) dX2_takeSpeeds_47 rfl rfl rfl rfl ?_
          refine jm_goto (Y := YX2_takeSpeeds) (pc := 50) dX2_takeSpeeds_50 rfl ?_
          first | exact absurd rfl h_33 | exact absurd h_33 (by decide) | exact ih (c + 1) _ _ (by omega) (key _ (by rw [ep, if_pos h_16])) (by omega) | exact ih (c + 1) _ _ (by omega) (key _ (by rw [ep, if_neg h_16])) (by omega) | fail
        · refine jm_icN (Y := YX2_takeSpeeds) (pc := 36) 3 dX2_takeSpeeds_36 rfl ?_
          refine jm_goto (Y := YX2_takeSpeeds) (pc := 37) dX2_takeSpeeds_37 rfl ?_
          refine jm_iasN (Y := YX2_takeSpeeds) (pc := 46) dX2_takeSpeeds_46 (jm_arR1 ha) (by omega) ?_
          rw [jm_sf_s, jm_sfsf]
          have ep := p_sd_in w s (j := c) (w 2) h_7
          have key : ∀ v : Int32, v = nI (p_sd w s (w 2) (5 + c)) → (∀ x, x < c + 1 → upd f c v x = nI (p_sd w s (w 2) (5 + x))) := fun v hv x hx => by
            by_cases z : x = c
            · subst z; rw [upd_s, hv]
            · rw [upd_n _ _ z]; exact hf x (by omega)
          refine jm_incN (Y := YX2_takeSpeeds) (pc := 47) (m := 1) (ls' := [_, _, _, _, _]) dX2_takeSpeeds_47 rfl rfl rfl rfl ?_
          refine jm_goto (Y := YX2_takeSpeeds) (pc := 50) dX2_takeSpeeds_50 rfl ?_
          first | exact absurd rfl h_33 | exact absurd h_33 (by decide) | exact ih (c + 1) _ _ (by omega) (key _ (by rw [ep, if_pos h_16])) (by omega) | exact ih (c + 1) _ _ (by omega) (key _ (by rw [ep, if_neg h_16])) (by omega) | fail
theorem RV_sd {M : jm_M} {r : Nat} {w : Nat → Nat} (hg : rG w) (s : Nat) {f : Nat → Int32} (hf : ∀ x, x < w 2 → f x = nI (p_sd w s (w 2) (5 + x))) (hd : M (32 + 4 * r) 0 = nI (w 2) ∧ M (32 + 4 * r) 1 = nI (w 3) ∧ M (32 + 4 * r) 2 = nI (w 1) ∧ M (32 + 4 * r) 3 = nI (w 0) ∧ M (32 + 4 * r) 4 = nI (w 4)) (hw : ∀ a, a < w 3 → M (34 + 4 * r) a = nI (w (17 + 4 * a)) ∧ M (35 + 4 * r) a = nI (16 * w (17 + 4 * a + 1) + w (17 + 4 * a + 2))) : RV (jm_sf M (33 + 4 * r) f) r (p_sd w s (w 2)) := by
  have g2 := hg.1.2.2.1
  have o : ∀ j, j < 5 ∨ 5 + w 2 ≤ j → p_sd w s (w 2) j = w j := fun j h => p_sd_o w s (w 2) h
  refine ⟨?_, fun c hc => ?_, fun a hk => ?_⟩
  · rw [jm_sf_n _ _ (by omega), o 0 (by omega), o 1 (by omega), o 2 (by omega), o 3 (by omega), o 4 (by omega)]; exact hd
  · rw [o 2 (by omega)] at hc
    rw [jm_sf_s]; exact hf c hc
  · rw [o 3 (by omega)] at hk
    rw [jm_sf_n _ _ (by omega), jm_sf_n _ _ (by omega), o _ (by omega), o _ (by omega), o _ (by omega)]; exact hw a hk
theorem m_takeSpeeds (r r2 : Nat) (ha : r < 28) (hb : r2 < 28) (hne : r ≠ r2) (w : Nat → Nat) (hg : rG w) (s : Nat) (hs : s < 4096) (M : jm_M) (hd : M (32 + 4 * r) 0 = nI (w 2) ∧ M (32 + 4 * r) 1 = nI (w 3) ∧ M (32 + 4 * r) 2 = nI (w 1) ∧ M (32 + 4 * r) 3 = nI (w 0) ∧ M (32 + 4 * r) 4 = nI (w 4)) (hw : ∀ a, a < w 3 → M (34 + 4 * r) a = nI (w (17 + 4 * a)) ∧ M (35 + 4 * r) a = nI (16 * w (17 + 4 * a + 1) + w (17 + 4 * a + 2))) (hR : RV M r2 w) : jm_J none YX2_takeSpeeds 0 [some (.ref (32 + 4 * r)), some (.ref (32 + 4 * r2)), some (.int (nI s)), none, none] [] M (RX r (p_sd w s (w 2)) M) := by
  refine jm_icN (Y := YX2_takeSpeeds) (pc := 0) 0 dX2_takeSpeeds_0 rfl ?_
  refine jm_ist_n (Y := YX2_takeSpeeds) (pc := 1) (i := 3) (ls' := [_, _, _, _, _]) dX2_takeSpeeds_1 rfl (Nat.le_of_ble_eq_true rfl) rfl rfl ?_
  have key := m_takeSpeeds0 r r2 ha hb hne w hg s hs M hd.1 hR (w 2 + 1) 0 none (M (33 + 4 * r)) (by omega) (fun x hx => absurd hx (Nat.not_lt_zero _)) (by omega)
  rw [jm_sfid rfl] at key
  apply jm_wk key
  intro o M1 q
  obtain ⟨q1, f, rfl, q3⟩ := q
  exact ⟨q1, RV_sd hg s q3 hd hw, fun i hi => jm_sf_n _ _ (by omega)⟩
theorem m_empty (r : Nat) (ha : r < 28) (M : jm_M) : jm_J none YX2_empty 0 [some (.ref (32 + 4 * r))] [] M (RX r (fun _ => 0) M) := by
  refine jm_ald_n (Y := YX2_empty) (pc := 0) (i := 0) dX2_empty_0 rfl rfl ?_
  refine jm_icN (Y := YX2_empty) (pc := 1) 0 dX2_empty_1 rfl ?_
  refine jm_put (Y := YX2_empty) (pc := 2) dX2_empty_2 fw_RX2_9 (jm_obR ha) (by decide) jm_rf0 ?_
  skip
  refine jm_ald_n (Y := YX2_empty) (pc := 5) (i := 0) dX2_empty_5 rfl rfl ?_
  refine jm_icN (Y := YX2_empty) (pc := 6) 0 dX2_empty_6 rfl ?_
  refine jm_put (Y := YX2_empty) (pc := 7) dX2_empty_7 fw_RX2_15 (jm_obR ha) (by decide) jm_rf1 ?_
  rw [jm_sf_s, jm_sfsf]
  refine jm_ald_n (Y := YX2_empty) (pc := 10) (i := 0) dX2_empty_10 rfl rfl ?_
  refine jm_icN (Y := YX2_empty) (pc := 11) 0 dX2_empty_11 rfl ?_
  refine jm_put (Y := YX2_empty) (pc := 12) dX2_empty_12 fw_RX2_18 (jm_obR ha) (by decide) jm_rf2 ?_
  rw [jm_sf_s, jm_sfsf]
  refine jm_ald_n (Y := YX2_empty) (pc := 15) (i := 0) dX2_empty_15 rfl rfl ?_
  refine jm_icN (Y := YX2_empty) (pc := 16) 0 dX2_empty_16 rfl ?_
  refine jm_put (Y := YX2_empty) (pc := 17) dX2_empty_17 fw_RX2_21 (jm_obR ha) (by decide) jm_rf3 ?_
  rw [jm_sf_s, jm_sfsf]
  refine jm_ald_n (Y := YX2_empty) (pc := 20) (i := 0) dX2_empty_20 rfl rfl ?_
  refine jm_icN (Y := YX2_empty) (pc := 21) 0 dX2_empty_21 rfl ?_
  refine jm_put (Y := YX2_empty) (pc := 22) dX2_empty_22 fw_RX2_24 (jm_obR ha) (by decide) jm_rf4 ?_
  rw [jm_sf_s, jm_sfsf]
  refine jm_retv (Y := YX2_empty) (pc := 25) (st := []) dX2_empty_25 rfl ?_
  exact ⟨rfl, ⟨⟨by rw [jm_sf_s]; rfl, by rw [jm_sf_s]; rfl, by rw [jm_sf_s]; rfl, by rw [jm_sf_s]; rfl, by rw [jm_sf_s]; rfl⟩, fun c hc => absurd hc (Nat.not_lt_zero _), fun a hk => absurd hk (Nat.not_lt_zero _)⟩, fun i hi => jm_sf_n _ _ (by omega)⟩
