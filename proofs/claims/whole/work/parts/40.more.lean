/-! the class: feed, river, ask, rows -/
theorem w_feed (tn : Nat) (hl : tn ≤ 110) (M : jm_M) (h1 : M 2 1 = nI tn) (v : Int32) : jm_J none YX5_feed 0 [some (.ref 0), some (.int v)] [] M ((fun o M1 => if 0 ≤ v.toInt ∧ v.toInt ≤ 255 then (if tn = 110 then o = some (.int (-1000003)) ∧ M1 = M else o = some (.int (nI (tn + 1))) ∧ M1 = jm_sf (jm_sf M 7 (upd (M 7) tn v)) 2 (upd (M 2) 1 (nI (tn + 1)))) else o = some (.int (-1000001)) ∧ M1 = M)) := by
  refine jm_ild_n (Y := YX5_feed) (pc := 0) (i := 1) dX5_feed_0 rfl rfl ?_
  refine jm_icN (Y := YX5_feed) (pc := 1) 0 dX5_feed_1 rfl ?_
  refine jm_spN (Y := YX5_feed) (pc := 2) 255 dX5_feed_2 rfl ?_
  refine jm_S3ie (Y := YX5_feed) (pc := 5) dX5_feed_5 lk_RX5_98 ⟨_, rfl⟩ rfl rfl rfl (by decide) (Nat.le_of_ble_eq_true rfl) ⟨by decide, by decide⟩ (w_wiN _ _ _ _ (by decide) (by decide)) ?_
  refine jm_if_neB (Y := YX5_feed) (pc := 8) dX5_feed_8 rfl (fun h_8 => ?_) (fun h_8 => ?_)
  · refine jm_ald_n (Y := YX5_feed) (pc := 14) (i := 0) dX5_feed_14 rfl rfl ?_
    refine jm_getR (Y := YX5_feed) (pc := 15) dX5_feed_15 fr_RX5_19 rfl (by decide) rfl ?_
    refine jm_V0ie (Y := YX5_feed) (pc := 18) dX5_feed_18 lk_RX5_101 ⟨_, rfl⟩ rfl (by decide) (Nat.le_of_ble_eq_true rfl) ⟨by decide, by decide⟩ (t_isFull tn hl M h1) ?_
    refine jm_if_eqB (Y := YX5_feed) (pc := 21) dX5_feed_21 rfl (fun h_21 => ?_) (fun h_21 => ?_)
    · refine jm_ald_n (Y := YX5_feed) (pc := 27) (i := 0) dX5_feed_27 rfl rfl ?_
      refine jm_getR (Y := YX5_feed) (pc := 28) dX5_feed_28 fr_RX5_19 rfl (by decide) rfl ?_
      refine jm_ild_n (Y := YX5_feed) (pc := 31) (i := 1) dX5_feed_31 rfl rfl ?_
      refine jm_V1ie (Y := YX5_feed) (pc := 32) dX5_feed_32 lk_RX5_106 ⟨_, rfl⟩ rfl rfl (by decide) (Nat.le_of_ble_eq_true rfl) ⟨by decide, by decide⟩ (t_take tn (by omega) _ M h1) ?_
      refine jm_ret (Y := YX5_feed) (pc := 35) (st := []) dX5_feed_35 rfl rfl ?_
      first | (rw [if_neg (by omega)]; exact ⟨rfl, rfl⟩) | (rw [if_pos (by omega), if_pos (by omega)]; exact ⟨rfl, rfl⟩) | (rw [if_pos (by omega), if_neg (by omega)]; exact ⟨rfl, rfl⟩) | fail
    · refine jm_ldc (Y := YX5_feed) (pc := 24) (v := -1000003) dX5_feed_24 kc_RX5_105 ?_
      refine jm_ret (Y := YX5_feed) (pc := 26) (st := []) dX5_feed_26 rfl rfl ?_
      first | (rw [if_neg (by omega)]; exact ⟨rfl, rfl⟩) | (rw [if_pos (by omega), if_pos (by omega)]; exact ⟨rfl, rfl⟩) | (rw [if_pos (by omega), if_neg (by omega)]; exact ⟨rfl, rfl⟩) | fail
  · refine jm_ldc (Y := YX5_feed) (pc := 11) (v := -1000001) dX5_feed_11 kc_RX5_64 ?_
    refine jm_ret (Y := YX5_feed) (pc := 13) (st := []) dX5_feed_13 rfl rfl ?_
    first | (rw [if_neg (by omega)]; exact ⟨rfl, rfl⟩) | (rw [if_pos (by omega), if_pos (by omega)]; exact ⟨rfl, rfl⟩) | (rw [if_pos (by omega), if_neg (by omega)]; exact ⟨rfl, rfl⟩) | fail
theorem w_river0 (M : jm_M) (s : Nat × Nat) (g : Nat → Nat) (hg : rG g) (hT : jm_J none YX4_readInto 0 [some (.ref 2), some (.ref 36)] [] M (TI M s g)) (pf : Nat → Nat) : jm_J none YX5_river 0 [some (.ref 0), none] [] M ((fun o M1 => (s.2 = 0 → o = some (.int (nI (g 2))) ∧ CA M1 g pf 0 ∧ (∀ i, i ≠ 0 → i ≠ 2 → ¬ (32 ≤ i ∧ i < 40) → M1 i = M i) ∧ M1 0 9 = M 0 9 ∧ M1 2 1 = nI 0 ∧ M1 2 3 = M 2 3) ∧ (¬ s.2 = 0 → o = some (.int (-1000100 - nI s.1)) ∧ (∀ i, i ≠ 2 → ¬ (36 ≤ i ∧ i < 40) → M1 i = M i) ∧ M1 2 1 = nI 0 ∧ M1 2 3 = nI s.2))) := by
  have g2 := hg.1.2.2.1
  have g3 := hg.1.2.2.2.1
  refine jm_ald_n (Y := YX5_river) (pc := 0) (i := 0) dX5_river_0 rfl rfl ?_
  refine jm_getR (Y := YX5_river) (pc := 1) dX5_river_1 fr_RX5_19 rfl (by decide) rfl ?_
  refine jm_ald_n (Y := YX5_river) (pc := 4) (i := 0) dX5_river_4 rfl rfl ?_
  refine jm_getR (Y := YX5_river) (pc := 5) dX5_river_5 fr_RX5_37 rfl (by decide) rfl ?_
  refine jm_V1i (Y := YX5_river) (pc := 8) dX5_river_8 lk_RX5_109 ⟨_, rfl⟩ rfl rfl (by decide) (Nat.le_of_ble_eq_true rfl) ⟨by decide, by decide⟩ (hT) (fun r_8 M_8 q_8 => ?_)
  obtain ⟨eo, hf, h21, h22, h23, hV⟩ := q_8
  cases eo
  refine jm_ist_n (Y := YX5_river) (pc := 11) (i := 1) (ls' := [_, _]) dX5_river_11 rfl (Nat.le_of_ble_eq_true rfl) rfl rfl ?_
  refine jm_ald_n (Y := YX5_river) (pc := 12) (i := 0) dX5_river_12 rfl rfl ?_
  refine jm_getR (Y := YX5_river) (pc := 13) dX5_river_13 fr_RX5_19 rfl (by decide) rfl ?_
  refine jm_V0ve (Y := YX5_river) (pc := 16) dX5_river_16 lk_RX5_113 rfl rfl (by decide) (Nat.le_of_ble_eq_true rfl) ⟨by decide, by decide⟩ (t_wipe _) ?_
  refine jm_ild_n (Y := YX5_river) (pc := 19) (i := 1) dX5_river_19 rfl rfl ?_
  refine jm_if_neB (Y := YX5_river) (pc := 20) dX5_river_20 rfl (fun h_20 => ?_) (fun h_20 => ?_)
  · refine jm_ald_n (Y := YX5_river) (pc := 34) (i := 0) dX5_river_34 rfl rfl ?_
    refine jm_getR (Y := YX5_river) (pc := 35) dX5_river_35 fr_RX5_33 rfl (by decide) rfl ?_
    refine jm_ald_n (Y := YX5_river) (pc := 38) (i := 0) dX5_river_38 rfl rfl ?_
    refine jm_getR (Y := YX5_river) (pc := 39) dX5_river_39 fr_RX5_37 rfl (by decide) rfl ?_
    refine jm_V1v (Y := YX5_river) (pc := 42) dX5_river_42 lk_RX5_120 rfl (by first | exact jm_obR ha | exact jm_obR hb | rfl) rfl (by decide) (Nat.le_of_ble_eq_true rfl) ⟨by decide, by decide⟩ (m_become 0 1 (by decide) (by decide) (by decide) g _ (RV_fr (fun i a b => jm_sf_n _ _ (by omega)) (hV h_20)) g2 g3) (fun M_42 q_42 => ?_)
    obtain ⟨-, hV2, hF⟩ := q_42
    refine jm_ald_n (Y := YX5_river) (pc := 45) (i := 0) dX5_river_45 rfl rfl ?_
    refine jm_V0ve (Y := YX5_river) (pc := 46) dX5_river_46 lk_RX5_124 rfl rfl (by decide) (Nat.le_of_ble_eq_true rfl) ⟨by decide, by decide⟩ (w_forget _) ?_
    refine jm_ald_n (Y := YX5_river) (pc := 49) (i := 0) dX5_river_49 rfl rfl ?_
    refine jm_getR (Y := YX5_river) (pc := 50) dX5_river_50 fr_RX5_33 rfl (by decide) rfl ?_
    refine jm_getE (Y := YX5_river) (pc := 53) dX5_river_53 fw_RX5_127 (by first | exact jm_obR ha | exact jm_obR hb | rfl) (by decide) (by first | exact jm_rf0 | rfl) ((hV2.1.1)) ?_
    refine jm_ret (Y := YX5_river) (pc := 56) (st := []) dX5_river_56 rfl rfl ?_
    first
      | exact ⟨fun z => absurd z h_20, fun _ => ⟨rfl, fun i a b => by rw [jm_sf_n _ _ a, hf i a b], by rw [jm_sf_s, upd_s], by rw [jm_sf_s, upd_n _ _ (by decide), h23, if_neg h_20]⟩⟩
      | exact ⟨fun _ => ⟨rfl, ⟨RV_fr (fun i a b => by rw [jm_sf_n _ _ (by omega)]) hV2, by rw [jm_sf_s, upd_s], 0, by decide, by rw [jm_sf_s, upd_n _ _ (by decide), upd_s], fun j hj => absurd hj (Nat.not_lt_zero _)⟩, fun i a b c => by rw [jm_sf_n _ _ a, hF i (by omega), jm_sf_n _ _ b, hf i b (by omega)], by rw [jm_sf_s, upd_n _ _ (by decide), upd_n _ _ (by decide), hF 0 (by omega), jm_sf_n _ _ (by decide), hf 0 (by decide) (by omega)], by rw [jm_sf_n _ _ (by decide), hF 2 (by omega), jm_sf_s, upd_s], by rw [jm_sf_n _ _ (by decide), hF 2 (by omega), jm_sf_s, upd_n _ _ (by decide), h23, if_pos h_20]⟩, fun z => absurd h_20 z⟩
      | fail
  · refine jm_ldc (Y := YX5_river) (pc := 23) (v := -1000100) dX5_river_23 kc_RX5_116 ?_
    refine jm_ald_n (Y := YX5_river) (pc := 25) (i := 0) dX5_river_25 rfl rfl ?_
    refine jm_getR (Y := YX5_river) (pc := 26) dX5_river_26 fr_RX5_19 rfl (by decide) rfl ?_
    refine jm_getE (Y := YX5_river) (pc := 29) dX5_river_29 fw_RX5_117 rfl (by decide) rfl ((show _ = nI s.1 from h22)) ?_
    refine jm_isub (Y := YX5_river) (pc := 32) dX5_river_32 ?_
    refine jm_ret (Y := YX5_river) (pc := 33) (st := []) dX5_river_33 rfl rfl ?_
    first
      | exact ⟨fun z => absurd z h_20, fun _ => ⟨rfl, fun i a b => by rw [jm_sf_n _ _ a, hf i a b], by rw [jm_sf_s, upd_s], by rw [jm_sf_s, upd_n _ _ (by decide), h23, if_neg h_20]⟩⟩
      | exact ⟨fun _ => ⟨rfl, ⟨RV_fr (fun i a b => by rw [jm_sf_n _ _ (by omega)]) hV2, by rw [jm_sf_s, upd_s], 0, by decide, by rw [jm_sf_s, upd_n _ _ (by decide), upd_s], fun j hj => absurd hj (Nat.not_lt_zero _)⟩, fun i a b c => by rw [jm_sf_n _ _ a, hF i (by omega), jm_sf_n _ _ b, hf i b (by omega)], by rw [jm_sf_s, upd_n _ _ (by decide), upd_n _ _ (by decide), hF 0 (by omega), jm_sf_n _ _ (by decide), hf 0 (by decide) (by omega)], by rw [jm_sf_n _ _ (by decide), hF 2 (by omega), jm_sf_s, upd_s], by rw [jm_sf_n _ _ (by decide), hF 2 (by omega), jm_sf_s, upd_n _ _ (by decide), h23, if_pos h_20]⟩, fun z => absurd h_20 z⟩
      | fail
theorem w_ask10 (w : Nat → Nat) (M : jm_M) (hR : RV M 0 w) (hg : rG w) (hm : w 4 ≤ 9999) (k : Nat) (hk : k < w 3) (hkd : w (17 + 4 * k) = 1) : jm_J none YX5_ask 23 [some (.ref 0), some (.int (nI k)), some (.int (nI 0))] [] M ((fun o M1 => o = some (.int (nI (w (17 + 4 * k + 1)) + (nI (k + w (17 + 4 * k + 2))))) ∧ jm_tr 3 8 1 M1 [11, 10, 21, 20] ∧ ∀ i, i ≠ 3 → i ≠ 8 → M1 i = M i)) := by
  have hb := hg.hb
  have g0 := hg.1.1
  have g1 := hg.1.2.1
  have g2 := hg.1.2.2.1
  have g3 := hg.1.2.2.2.1
  have g4 := hg.1.2.2.2.2
  have q0 := hg.2.2.1 k (by omega)
  refine jm_ald_n (Y := YX5_ask) (pc := 23) (i := 0) dX5_ask_23 rfl rfl ?_
  refine jm_getR (Y := YX5_ask) (pc := 24) dX5_ask_24 fr_RX5_26 rfl (by decide) rfl ?_
  refine jm_ald_n (Y := YX5_ask) (pc := 27) (i := 0) dX5_ask_27 rfl rfl ?_
  refine jm_getR (Y := YX5_ask) (pc := 28) dX5_ask_28 fr_RX5_33 rfl (by decide) rfl ?_
  refine jm_ild_n (Y := YX5_ask) (pc := 31) (i := 1) dX5_ask_31 rfl rfl ?_
  refine jm_V2v (Y := YX5_ask) (pc := 32) dX5_ask_32 lk_RX5_263 rfl rfl rfl rfl (by decide) (Nat.le_of_ble_eq_true rfl) ⟨by decide, by decide⟩ (a_begin 0 (by decide) w _ hR hg k hk) (fun M_32 q_32 => ?_)
  obtain ⟨-, t0, b2, b3, b4, b5, f0⟩ := q_32
  refine jm_ild_n (Y := YX5_ask) (pc := 35) (i := 2) dX5_ask_35 rfl rfl ?_
  refine jm_if_neN (Y := YX5_ask) (pc := 36) dX5_ask_36 rfl (by omega) (fun h_36 => by exfalso; omega) (fun h_36 => ?_)
  refine jm_ald_n (Y := YX5_ask) (pc := 39) (i := 0) dX5_ask_39 rfl rfl ?_
  refine jm_getR (Y := YX5_ask) (pc := 40) dX5_ask_40 fr_RX5_26 rfl (by decide) rfl ?_
  refine jm_V0i (Y := YX5_ask) (pc := 43) dX5_ask_43 lk_RX5_267 ⟨_, rfl⟩ rfl (by decide) (Nat.le_of_ble_eq_true rfl) ⟨by decide, by decide⟩ (a_askSize1 [] M_32 t0 (by decide) k (w (17 + 4 * k + 1)) (w (17 + 4 * k + 2)) 1 b2 (b3.trans (congrArg nI hkd)) b4 b5 (by omega) (by omega) (by omega) rfl) (fun r_43 M_43 q_43 => ?_)
  refine jm_goto (Y := YX5_ask) (pc := 46) dX5_ask_46 rfl ?_
  refine jm_ret (Y := YX5_ask) (pc := 56) (st := []) dX5_ask_56 rfl rfl ?_
  obtain ⟨e9, t9, f9⟩ := q_43
  cases e9
  exact ⟨rfl, by simpa only [List.nil_append] using t9, fun i a b => (f9.1 i a b).trans (f0 i a)⟩
theorem w_ask11 (w : Nat → Nat) (M : jm_M) (hR : RV M 0 w) (hg : rG w) (hm : w 4 ≤ 9999) (k : Nat) (hk : k < w 3) (hkd : w (17 + 4 * k) = 1) : jm_J none YX5_ask 23 [some (.ref 0), some (.int (nI k)), some (.int (nI 1))] [] M ((fun o M1 => o = some (.int (nI (k + w (17 + 4 * k + 2)))) ∧ jm_tr 3 8 1 M1 [21, 20] ∧ ∀ i, i ≠ 3 → i ≠ 8 → M1 i = M i)) := by
  have hb := hg.hb
  have g0 := hg.1.1
  have g1 := hg.1.2.1
  have g2 := hg.1.2.2.1
  have g3 := hg.1.2.2.2.1
  have g4 := hg.1.2.2.2.2
  have q0 := hg.2.2.1 k (by omega)
  refine jm_ald_n (Y := YX5_ask) (pc := 23) (i := 0) dX5_ask_23 rfl rfl ?_
  refine jm_getR (Y := YX5_ask) (pc := 24) dX5_ask_24 fr_RX5_26 rfl (by decide) rfl ?_
  refine jm_ald_n (Y := YX5_ask) (pc := 27) (i := 0) dX5_ask_27 rfl rfl ?_
  refine jm_getR (Y := YX5_ask) (pc := 28) dX5_ask_28 fr_RX5_33 rfl (by decide) rfl ?_
  refine jm_ild_n (Y := YX5_ask) (pc := 31) (i := 1) dX5_ask_31 rfl rfl ?_
  refine jm_V2v (Y := YX5_ask) (pc := 32) dX5_ask_32 lk_RX5_263 rfl rfl rfl rfl (by decide) (Nat.le_of_ble_eq_true rfl) ⟨by decide, by decide⟩ (a_begin 0 (by decide) w _ hR hg k hk) (fun M_32 q_32 => ?_)
  obtain ⟨-, t0, b2, b3, b4, b5, f0⟩ := q_32
  refine jm_ild_n (Y := YX5_ask) (pc := 35) (i := 2) dX5_ask_35 rfl rfl ?_
  refine jm_if_neN (Y := YX5_ask) (pc := 36) dX5_ask_36 rfl (by omega) (fun h_36 => ?_) (fun h_36 => by exfalso; omega)
  refine jm_ald_n (Y := YX5_ask) (pc := 49) (i := 0) dX5_ask_49 rfl rfl ?_
  refine jm_getR (Y := YX5_ask) (pc := 50) dX5_ask_50 fr_RX5_26 rfl (by decide) rfl ?_
  refine jm_V0i (Y := YX5_ask) (pc := 53) dX5_ask_53 lk_RX5_270 ⟨_, rfl⟩ rfl (by decide) (Nat.le_of_ble_eq_true rfl) ⟨by decide, by decide⟩ (a_askMark1 [] M_32 t0 (by decide) k (w (17 + 4 * k + 1)) (w (17 + 4 * k + 2)) 1 b2 (b3.trans (congrArg nI hkd)) b4 b5 (by omega) (by omega) (by omega) rfl) (fun r_53 M_53 q_53 => ?_)
  refine jm_ret (Y := YX5_ask) (pc := 56) (st := []) dX5_ask_56 rfl rfl ?_
  obtain ⟨e9, t9, f9⟩ := q_53
  cases e9
  exact ⟨rfl, by simpa only [List.nil_append] using t9, fun i a b => (f9.1 i a b).trans (f0 i a)⟩
theorem w_ask20 (w : Nat → Nat) (M : jm_M) (hR : RV M 0 w) (hg : rG w) (hm : w 4 ≤ 9999) (k : Nat) (hk : k < w 3) (hkd : w (17 + 4 * k) = 2) : jm_J none YX5_ask 23 [some (.ref 0), some (.int (nI k)), some (.int (nI 0))] [] M ((fun o M1 => o = some (.int (-(nI (w (17 + 4 * k + 1)) + (nI (2 * (k + w (17 + 4 * k + 2))))))) ∧ jm_tr 3 8 1 M1 [12, 11, 10, 24, 21, 20] ∧ ∀ i, i ≠ 3 → i ≠ 8 → M1 i = M i)) := by
  have hb := hg.hb
  have g0 := hg.1.1
  have g1 := hg.1.2.1
  have g2 := hg.1.2.2.1
  have g3 := hg.1.2.2.2.1
  have g4 := hg.1.2.2.2.2
  have q0 := hg.2.2.1 k (by omega)
  refine jm_ald_n (Y := YX5_ask) (pc := 23) (i := 0) dX5_ask_23 rfl rfl ?_
  refine jm_getR (Y := YX5_ask) (pc := 24) dX5_ask_24 fr_RX5_26 rfl (by decide) rfl ?_
  refine jm_ald_n (Y := YX5_ask) (pc := 27) (i := 0) dX5_ask_27 rfl rfl ?_
  refine jm_getR (Y := YX5_ask) (pc := 28) dX5_ask_28 fr_RX5_33 rfl (by decide) rfl ?_
  refine jm_ild_n (Y := YX5_ask) (pc := 31) (i := 1) dX5_ask_31 rfl rfl ?_
  refine jm_V2v (Y := YX5_ask) (pc := 32) dX5_ask_32 lk_RX5_263 rfl rfl rfl rfl (by decide) (Nat.le_of_ble_eq_true rfl) ⟨by decide, by decide⟩ (a_begin 0 (by decide) w _ hR hg k hk) (fun M_32 q_32 => ?_)
  obtain ⟨-, t0, b2, b3, b4, b5, f0⟩ := q_32
  refine jm_ild_n (Y := YX5_ask) (pc := 35) (i := 2) dX5_ask_35 rfl rfl ?_
  refine jm_if_neN (Y := YX5_ask) (pc := 36) dX5_ask_36 rfl (by omega) (fun h_36 => by exfalso; omega) (fun h_36 => ?_)
  refine jm_ald_n (Y := YX5_ask) (pc := 39) (i := 0) dX5_ask_39 rfl rfl ?_
  refine jm_getR (Y := YX5_ask) (pc := 40) dX5_ask_40 fr_RX5_26 rfl (by decide) rfl ?_
  refine jm_V0i (Y := YX5_ask) (pc := 43) dX5_ask_43 lk_RX5_267 ⟨_, rfl⟩ rfl (by decide) (Nat.le_of_ble_eq_true rfl) ⟨by decide, by decide⟩ (a_askSize2 [] M_32 t0 (by decide) k (w (17 + 4 * k + 1)) (w (17 + 4 * k + 2)) 2 b2 (b3.trans (congrArg nI hkd)) b4 b5 (by omega) (by omega) (by omega) rfl) (fun r_43 M_43 q_43 => ?_)
  refine jm_goto (Y := YX5_ask) (pc := 46) dX5_ask_46 rfl ?_
  refine jm_ret (Y := YX5_ask) (pc := 56) (st := []) dX5_ask_56 rfl rfl ?_
  obtain ⟨e9, t9, f9⟩ := q_43
  cases e9
  exact ⟨congrArg (fun z => some (Value.int z)) (Int32.zero_sub _), by simpa only [List.nil_append] using t9, fun i a b => (f9.1 i a b).trans (f0 i a)⟩
theorem w_ask21 (w : Nat → Nat) (M : jm_M) (hR : RV M 0 w) (hg : rG w) (hm : w 4 ≤ 9999) (k : Nat) (hk : k < w 3) (hkd : w (17 + 4 * k) = 2) : jm_J none YX5_ask 23 [some (.ref 0), some (.int (nI k)), some (.int (nI 1))] [] M ((fun o M1 => o = some (.int (nI (2 * (k + w (17 + 4 * k + 2))))) ∧ jm_tr 3 8 1 M1 [24, 21, 20] ∧ ∀ i, i ≠ 3 → i ≠ 8 → M1 i = M i)) := by
  have hb := hg.hb
  have g0 := hg.1.1
  have g1 := hg.1.2.1
  have g2 := hg.1.2.2.1
  have g3 := hg.1.2.2.2.1
  have g4 := hg.1.2.2.2.2
  have q0 := hg.2.2.1 k (by omega)
  refine jm_ald_n (Y := YX5_ask) (pc := 23) (i := 0) dX5_ask_23 rfl rfl ?_
  refine jm_getR (Y := YX5_ask) (pc := 24) dX5_ask_24 fr_RX5_26 rfl (by decide) rfl ?_
  refine jm_ald_n (Y := YX5_ask) (pc := 27) (i := 0) dX5_ask_27 rfl rfl ?_
  refine jm_getR (Y := YX5_ask) (pc := 28) dX5_ask_28 fr_RX5_33 rfl (by decide) rfl ?_
  refine jm_ild_n (Y := YX5_ask) (pc := 31) (i := 1) dX5_ask_31 rfl rfl ?_
  refine jm_V2v (Y := YX5_ask) (pc := 32) dX5_ask_32 lk_RX5_263 rfl rfl rfl rfl (by decide) (Nat.le_of_ble_eq_true rfl) ⟨by decide, by decide⟩ (a_begin 0 (by decide) w _ hR hg k hk) (fun M_32 q_32 => ?_)
  obtain ⟨-, t0, b2, b3, b4, b5, f0⟩ := q_32
  refine jm_ild_n (Y := YX5_ask) (pc := 35) (i := 2) dX5_ask_35 rfl rfl ?_
  refine jm_if_neN (Y := YX5_ask) (pc := 36) dX5_ask_36 rfl (by omega) (fun h_36 => ?_) (fun h_36 => by exfalso; omega)
  refine jm_ald_n (Y := YX5_ask) (pc := 49) (i := 0) dX5_ask_49 rfl rfl ?_
  refine jm_getR (Y := YX5_ask) (pc := 50) dX5_ask_50 fr_RX5_26 rfl (by decide) rfl ?_
  refine jm_V0i (Y := YX5_ask) (pc := 53) dX5_ask_53 lk_RX5_270 ⟨_, rfl⟩ rfl (by decide) (Nat.le_of_ble_eq_true rfl) ⟨by decide, by decide⟩ (a_askMark2 [] M_32 t0 (by decide) k (w (17 + 4 * k + 1)) (w (17 + 4 * k + 2)) 2 b2 (b3.trans (congrArg nI hkd)) b4 b5 (by omega) (by omega) (by omega) rfl) (fun r_53 M_53 q_53 => ?_)
  refine jm_ret (Y := YX5_ask) (pc := 56) (st := []) dX5_ask_56 rfl rfl ?_
  obtain ⟨e9, t9, f9⟩ := q_53
  cases e9
  exact ⟨rfl, by simpa only [List.nil_append] using t9, fun i a b => (f9.1 i a b).trans (f0 i a)⟩
theorem w_ask30 (w : Nat → Nat) (M : jm_M) (hR : RV M 0 w) (hg : rG w) (hm : w 4 ≤ 9999) (k : Nat) (hk : k < w 3) (hkd : w (17 + 4 * k) = 3) : jm_J none YX5_ask 23 [some (.ref 0), some (.int (nI k)), some (.int (nI 0))] [] M ((fun o M1 => o = some (.int (nI (w (17 + 4 * k + 1)) + (nI (k + w (17 + 4 * k + 2)) - nI 1000))) ∧ jm_tr 3 8 1 M1 [11, 10, 22, 21, 20] ∧ ∀ i, i ≠ 3 → i ≠ 8 → M1 i = M i)) := by
  have hb := hg.hb
  have g0 := hg.1.1
  have g1 := hg.1.2.1
  have g2 := hg.1.2.2.1
  have g3 := hg.1.2.2.2.1
  have g4 := hg.1.2.2.2.2
  have q0 := hg.2.2.1 k (by omega)
  refine jm_ald_n (Y := YX5_ask) (pc := 23) (i := 0) dX5_ask_23 rfl rfl ?_
  refine jm_getR (Y := YX5_ask) (pc := 24) dX5_ask_24 fr_RX5_26 rfl (by decide) rfl ?_
  refine jm_ald_n (Y := YX5_ask) (pc := 27) (i := 0) dX5_ask_27 rfl rfl ?_
  refine jm_getR (Y := YX5_ask) (pc := 28) dX5_ask_28 fr_RX5_33 rfl (by decide) rfl ?_
  refine jm_ild_n (Y := YX5_ask) (pc := 31) (i := 1) dX5_ask_31 rfl rfl ?_
  refine jm_V2v (Y := YX5_ask) (pc := 32) dX5_ask_32 lk_RX5_263 rfl rfl rfl rfl (by decide) (Nat.le_of_ble_eq_true rfl) ⟨by decide, by decide⟩ (a_begin 0 (by decide) w _ hR hg k hk) (fun M_32 q_32 => ?_)
  obtain ⟨-, t0, b2, b3, b4, b5, f0⟩ := q_32
  refine jm_ild_n (Y := YX5_ask) (pc := 35) (i := 2) dX5_ask_35 rfl rfl ?_
  refine jm_if_neN (Y := YX5_ask) (pc := 36) dX5_ask_36 rfl (by omega) (fun h_36 => by exfalso; omega) (fun h_36 => ?_)
  refine jm_ald_n (Y := YX5_ask) (pc := 39) (i := 0) dX5_ask_39 rfl rfl ?_
  refine jm_getR (Y := YX5_ask) (pc := 40) dX5_ask_40 fr_RX5_26 rfl (by decide) rfl ?_
  refine jm_V0i (Y := YX5_ask) (pc := 43) dX5_ask_43 lk_RX5_267 ⟨_, rfl⟩ rfl (by decide) (Nat.le_of_ble_eq_true rfl) ⟨by decide, by decide⟩ (a_askSize3 [] M_32 t0 (by decide) k (w (17 + 4 * k + 1)) (w (17 + 4 * k + 2)) 3 b2 (b3.trans (congrArg nI hkd)) b4 b5 (by omega) (by omega) (by omega) rfl) (fun r_43 M_43 q_43 => ?_)
  refine jm_goto (Y := YX5_ask) (pc := 46) dX5_ask_46 rfl ?_
  refine jm_ret (Y := YX5_ask) (pc := 56) (st := []) dX5_ask_56 rfl rfl ?_
  obtain ⟨e9, t9, f9⟩ := q_43
  cases e9
  exact ⟨rfl, by simpa only [List.nil_append] using t9, fun i a b => (f9.1 i a b).trans (f0 i a)⟩
theorem w_ask31 (w : Nat → Nat) (M : jm_M) (hR : RV M 0 w) (hg : rG w) (hm : w 4 ≤ 9999) (k : Nat) (hk : k < w 3) (hkd : w (17 + 4 * k) = 3) : jm_J none YX5_ask 23 [some (.ref 0), some (.int (nI k)), some (.int (nI 1))] [] M ((fun o M1 => o = some (.int (nI (k + w (17 + 4 * k + 2)) - nI 1000)) ∧ jm_tr 3 8 1 M1 [22, 21, 20] ∧ ∀ i, i ≠ 3 → i ≠ 8 → M1 i = M i)) := by
  have hb := hg.hb
  have g0 := hg.1.1
  have g1 := hg.1.2.1
  have g2 := hg.1.2.2.1
  have g3 := hg.1.2.2.2.1
  have g4 := hg.1.2.2.2.2
  have q0 := hg.2.2.1 k (by omega)
  refine jm_ald_n (Y := YX5_ask) (pc := 23) (i := 0) dX5_ask_23 rfl rfl ?_
  refine jm_getR (Y := YX5_ask) (pc := 24) dX5_ask_24 fr_RX5_26 rfl (by decide) rfl ?_
  refine jm_ald_n (Y := YX5_ask) (pc := 27) (i := 0) dX5_ask_27 rfl rfl ?_
  refine jm_getR (Y := YX5_ask) (pc := 28) dX5_ask_28 fr_RX5_33 rfl (by decide) rfl ?_
  refine jm_ild_n (Y := YX5_ask) (pc := 31) (i := 1) dX5_ask_31 rfl rfl ?_
  refine jm_V2v (Y := YX5_ask) (pc := 32) dX5_ask_32 lk_RX5_263 rfl rfl rfl rfl (by decide) (Nat.le_of_ble_eq_true rfl) ⟨by decide, by decide⟩ (a_begin 0 (by decide) w _ hR hg k hk) (fun M_32 q_32 => ?_)
  obtain ⟨-, t0, b2, b3, b4, b5, f0⟩ := q_32
  refine jm_ild_n (Y := YX5_ask) (pc := 35) (i := 2) dX5_ask_35 rfl rfl ?_
  refine jm_if_neN (Y := YX5_ask) (pc := 36) dX5_ask_36 rfl (by omega) (fun h_36 => ?_) (fun h_36 => by exfalso; omega)
  refine jm_ald_n (Y := YX5_ask) (pc := 49) (i := 0) dX5_ask_49 rfl rfl ?_
  refine jm_getR (Y := YX5_ask) (pc := 50) dX5_ask_50 fr_RX5_26 rfl (by decide) rfl ?_
  refine jm_V0i (Y := YX5_ask) (pc := 53) dX5_ask_53 lk_RX5_270 ⟨_, rfl⟩ rfl (by decide) (Nat.le_of_ble_eq_true rfl) ⟨by decide, by decide⟩ (a_askMark3 [] M_32 t0 (by decide) k (w (17 + 4 * k + 1)) (w (17 + 4 * k + 2)) 3 b2 (b3.trans (congrArg nI hkd)) b4 b5 (by omega) (by omega) (by omega) rfl) (fun r_53 M_53 q_53 => ?_)
  refine jm_ret (Y := YX5_ask) (pc := 56) (st := []) dX5_ask_56 rfl rfl ?_
  obtain ⟨e9, t9, f9⟩ := q_53
  cases e9
  exact ⟨rfl, by simpa only [List.nil_append] using t9, fun i a b => (f9.1 i a b).trans (f0 i a)⟩
theorem w_ask40 (w : Nat → Nat) (M : jm_M) (hR : RV M 0 w) (hg : rG w) (hm : w 4 ≤ 9999) (k : Nat) (hk : k < w 3) (hkd : w (17 + 4 * k) = 4) : jm_J none YX5_ask 23 [some (.ref 0), some (.int (nI k)), some (.int (nI 0))] [] M ((fun o M1 => o = some (.int (nI (w (17 + 4 * k + 1)) - nI 100)) ∧ jm_tr 3 8 1 M1 [13, 10] ∧ ∀ i, i ≠ 3 → i ≠ 8 → M1 i = M i)) := by
  have hb := hg.hb
  have g0 := hg.1.1
  have g1 := hg.1.2.1
  have g2 := hg.1.2.2.1
  have g3 := hg.1.2.2.2.1
  have g4 := hg.1.2.2.2.2
  have q0 := hg.2.2.1 k (by omega)
  refine jm_ald_n (Y := YX5_ask) (pc := 23) (i := 0) dX5_ask_23 rfl rfl ?_
  refine jm_getR (Y := YX5_ask) (pc := 24) dX5_ask_24 fr_RX5_26 rfl (by decide) rfl ?_
  refine jm_ald_n (Y := YX5_ask) (pc := 27) (i := 0) dX5_ask_27 rfl rfl ?_
  refine jm_getR (Y := YX5_ask) (pc := 28) dX5_ask_28 fr_RX5_33 rfl (by decide) rfl ?_
  refine jm_ild_n (Y := YX5_ask) (pc := 31) (i := 1) dX5_ask_31 rfl rfl ?_
  refine jm_V2v (Y := YX5_ask) (pc := 32) dX5_ask_32 lk_RX5_263 rfl rfl rfl rfl (by decide) (Nat.le_of_ble_eq_true rfl) ⟨by decide, by decide⟩ (a_begin 0 (by decide) w _ hR hg k hk) (fun M_32 q_32 => ?_)
  obtain ⟨-, t0, b2, b3, b4, b5, f0⟩ := q_32
  refine jm_ild_n (Y := YX5_ask) (pc := 35) (i := 2) dX5_ask_35 rfl rfl ?_
  refine jm_if_neN (Y := YX5_ask) (pc := 36) dX5_ask_36 rfl (by omega) (fun h_36 => by exfalso; omega) (fun h_36 => ?_)
  refine jm_ald_n (Y := YX5_ask) (pc := 39) (i := 0) dX5_ask_39 rfl rfl ?_
  refine jm_getR (Y := YX5_ask) (pc := 40) dX5_ask_40 fr_RX5_26 rfl (by decide) rfl ?_
  refine jm_V0i (Y := YX5_ask) (pc := 43) dX5_ask_43 lk_RX5_267 ⟨_, rfl⟩ rfl (by decide) (Nat.le_of_ble_eq_true rfl) ⟨by decide, by decide⟩ (a_askSize4 [] M_32 t0 (by decide) k (w (17 + 4 * k + 1)) (w (17 + 4 * k + 2)) 4 b2 (b3.trans (congrArg nI hkd)) b4 b5 (by omega) (by omega) (by omega) rfl) (fun r_43 M_43 q_43 => ?_)
  refine jm_goto (Y := YX5_ask) (pc := 46) dX5_ask_46 rfl ?_
  refine jm_ret (Y := YX5_ask) (pc := 56) (st := []) dX5_ask_56 rfl rfl ?_
  obtain ⟨e9, t9, f9⟩ := q_43
  cases e9
  exact ⟨rfl, by simpa only [List.nil_append] using t9, fun i a b => (f9.1 i a b).trans (f0 i a)⟩
theorem w_ask41 (w : Nat → Nat) (M : jm_M) (hR : RV M 0 w) (hg : rG w) (hm : w 4 ≤ 9999) (k : Nat) (hk : k < w 3) (hkd : w (17 + 4 * k) = 4) : jm_J none YX5_ask 23 [some (.ref 0), some (.int (nI k)), some (.int (nI 1))] [] M ((fun o M1 => o = some (.int (nI k - (nI (w (17 + 4 * k + 1)) - nI 100))) ∧ jm_tr 3 8 1 M1 [23, 20, 13, 10] ∧ ∀ i, i ≠ 3 → i ≠ 8 → M1 i = M i)) := by
  have hb := hg.hb
  have g0 := hg.1.1
  have g1 := hg.1.2.1
  have g2 := hg.1.2.2.1
  have g3 := hg.1.2.2.2.1
  have g4 := hg.1.2.2.2.2
  have q0 := hg.2.2.1 k (by omega)
  refine jm_ald_n (Y := YX5_ask) (pc := 23) (i := 0) dX5_ask_23 rfl rfl ?_
  refine jm_getR (Y := YX5_ask) (pc := 24) dX5_ask_24 fr_RX5_26 rfl (by decide) rfl ?_
  refine jm_ald_n (Y := YX5_ask) (pc := 27) (i := 0) dX5_ask_27 rfl rfl ?_
  refine jm_getR (Y := YX5_ask) (pc := 28) dX5_ask_28 fr_RX5_33 rfl (by decide) rfl ?_
  refine jm_ild_n (Y := YX5_ask) (pc := 31) (i := 1) dX5_ask_31 rfl rfl ?_
  refine jm_V2v (Y := YX5_ask) (pc := 32) dX5_ask_32 lk_RX5_263 rfl rfl rfl rfl (by decide) (Nat.le_of_ble_eq_true rfl) ⟨by decide, by decide⟩ (a_begin 0 (by decide) w _ hR hg k hk) (fun M_32 q_32 => ?_)
  obtain ⟨-, t0, b2, b3, b4, b5, f0⟩ := q_32
  refine jm_ild_n (Y := YX5_ask) (pc := 35) (i := 2) dX5_ask_35 rfl rfl ?_
  refine jm_if_neN (Y := YX5_ask) (pc := 36) dX5_ask_36 rfl (by omega) (fun h_36 => ?_) (fun h_36 => by exfalso; omega)
  refine jm_ald_n (Y := YX5_ask) (pc := 49) (i := 0) dX5_ask_49 rfl rfl ?_
  refine jm_getR (Y := YX5_ask) (pc := 50) dX5_ask_50 fr_RX5_26 rfl (by decide) rfl ?_
  refine jm_V0i (Y := YX5_ask) (pc := 53) dX5_ask_53 lk_RX5_270 ⟨_, rfl⟩ rfl (by decide) (Nat.le_of_ble_eq_true rfl) ⟨by decide, by decide⟩ (a_askMark4 [] M_32 t0 (by decide) k (w (17 + 4 * k + 1)) (w (17 + 4 * k + 2)) 4 b2 (b3.trans (congrArg nI hkd)) b4 b5 (by omega) (by omega) (by omega) rfl) (fun r_53 M_53 q_53 => ?_)
  refine jm_ret (Y := YX5_ask) (pc := 56) (st := []) dX5_ask_56 rfl rfl ?_
  obtain ⟨e9, t9, f9⟩ := q_53
  cases e9
  exact ⟨rfl, by simpa only [List.nil_append] using t9, fun i a b => (f9.1 i a b).trans (f0 i a)⟩
theorem w_ask50 (w : Nat → Nat) (M : jm_M) (hR : RV M 0 w) (hg : rG w) (hm : w 4 ≤ 9999) (k : Nat) (hk : k < w 3) (hkd : w (17 + 4 * k) = 5) : jm_J none YX5_ask 23 [some (.ref 0), some (.int (nI k)), some (.int (nI 0))] [] M ((fun o M1 => o = some (.int (nI 2 * (nI (w (17 + 4 * k + 1)) - nI 100))) ∧ jm_tr 3 8 1 M1 [14, 13, 10] ∧ ∀ i, i ≠ 3 → i ≠ 8 → M1 i = M i)) := by
  have hb := hg.hb
  have g0 := hg.1.1
  have g1 := hg.1.2.1
  have g2 := hg.1.2.2.1
  have g3 := hg.1.2.2.2.1
  have g4 := hg.1.2.2.2.2
  have q0 := hg.2.2.1 k (by omega)
  refine jm_ald_n (Y := YX5_ask) (pc := 23) (i := 0) dX5_ask_23 rfl rfl ?_
  refine jm_getR (Y := YX5_ask) (pc := 24) dX5_ask_24 fr_RX5_26 rfl (by decide) rfl ?_
  refine jm_ald_n (Y := YX5_ask) (pc := 27) (i := 0) dX5_ask_27 rfl rfl ?_
  refine jm_getR (Y := YX5_ask) (pc := 28) dX5_ask_28 fr_RX5_33 rfl (by decide) rfl ?_
  refine jm_ild_n (Y := YX5_ask) (pc := 31) (i := 1) dX5_ask_31 rfl rfl ?_
  refine jm_V2v (Y := YX5_ask) (pc := 32) dX5_ask_32 lk_RX5_263 rfl rfl rfl rfl (by decide) (Nat.le_of_ble_eq_true rfl) ⟨by decide, by decide⟩ (a_begin 0 (by decide) w _ hR hg k hk) (fun M_32 q_32 => ?_)
  obtain ⟨-, t0, b2, b3, b4, b5, f0⟩ := q_32
  refine jm_ild_n (Y := YX5_ask) (pc := 35) (i := 2) dX5_ask_35 rfl rfl ?_
  refine jm_if_neN (Y := YX5_ask) (pc := 36) dX5_ask_36 rfl (by omega) (fun h_36 => by exfalso; omega) (fun h_36 => ?_)
  refine jm_ald_n (Y := YX5_ask) (pc := 39) (i := 0) dX5_ask_39 rfl rfl ?_
  refine jm_getR (Y := YX5_ask) (pc := 40) dX5_ask_40 fr_RX5_26 rfl (by decide) rfl ?_
  refine jm_V0i (Y := YX5_ask) (pc := 43) dX5_ask_43 lk_RX5_267 ⟨_, rfl⟩ rfl (by decide) (Nat.le_of_ble_eq_true rfl) ⟨by decide, by decide⟩ (a_askSize5 [] M_32 t0 (by decide) k (w (17 + 4 * k + 1)) (w (17 + 4 * k + 2)) 5 b2 (b3.trans (congrArg nI hkd)) b4 b5 (by omega) (by omega) (by omega) rfl) (fun r_43 M_43 q_43 => ?_)
  refine jm_goto (Y := YX5_ask) (pc := 46) dX5_ask_46 rfl ?_
  refine jm_ret (Y := YX5_ask) (pc := 56) (st := []) dX5_ask_56 rfl rfl ?_
  obtain ⟨e9, t9, f9⟩ := q_43
  cases e9
  exact ⟨rfl, by simpa only [List.nil_append] using t9, fun i a b => (f9.1 i a b).trans (f0 i a)⟩
theorem w_ask51 (w : Nat → Nat) (M : jm_M) (hR : RV M 0 w) (hg : rG w) (hm : w 4 ≤ 9999) (k : Nat) (hk : k < w 3) (hkd : w (17 + 4 * k) = 5) : jm_J none YX5_ask 23 [some (.ref 0), some (.int (nI k)), some (.int (nI 1))] [] M ((fun o M1 => o = some (.int (nI k - (nI 2 * (nI (w (17 + 4 * k + 1)) - nI 100)))) ∧ jm_tr 3 8 1 M1 [23, 20, 14, 13, 10] ∧ ∀ i, i ≠ 3 → i ≠ 8 → M1 i = M i)) := by
  have hb := hg.hb
  have g0 := hg.1.1
  have g1 := hg.1.2.1
  have g2 := hg.1.2.2.1
  have g3 := hg.1.2.2.2.1
  have g4 := hg.1.2.2.2.2
  have q0 := hg.2.2.1 k (by omega)
  refine jm_ald_n (Y := YX5_ask) (pc := 23) (i := 0) dX5_ask_23 rfl rfl ?_
  refine jm_getR (Y := YX5_ask) (pc := 24) dX5_ask_24 fr_RX5_26 rfl (by decide) rfl ?_
  refine jm_ald_n (Y := YX5_ask) (pc := 27) (i := 0) dX5_ask_27 rfl rfl ?_
  refine jm_getR (Y := YX5_ask) (pc := 28) dX5_ask_28 fr_RX5_33 rfl (by decide) rfl ?_
  refine jm_ild_n (Y := YX5_ask) (pc := 31) (i := 1) dX5_ask_31 rfl rfl ?_
  refine jm_V2v (Y := YX5_ask) (pc := 32) dX5_ask_32 lk_RX5_263 rfl rfl rfl rfl (by decide) (Nat.le_of_ble_eq_true rfl) ⟨by decide, by decide⟩ (a_begin 0 (by decide) w _ hR hg k hk) (fun M_32 q_32 => ?_)
  obtain ⟨-, t0, b2, b3, b4, b5, f0⟩ := q_32
  refine jm_ild_n (Y := YX5_ask) (pc := 35) (i := 2) dX5_ask_35 rfl rfl ?_
  refine jm_if_neN (Y := YX5_ask) (pc := 36) dX5_ask_36 rfl (by omega) (fun h_36 => ?_) (fun h_36 => by exfalso; omega)
  refine jm_ald_n (Y := YX5_ask) (pc := 49) (i := 0) dX5_ask_49 rfl rfl ?_
  refine jm_getR (Y := YX5_ask) (pc := 50) dX5_ask_50 fr_RX5_26 rfl (by decide) rfl ?_
  refine jm_V0i (Y := YX5_ask) (pc := 53) dX5_ask_53 lk_RX5_270 ⟨_, rfl⟩ rfl (by decide) (Nat.le_of_ble_eq_true rfl) ⟨by decide, by decide⟩ (a_askMark5 [] M_32 t0 (by decide) k (w (17 + 4 * k + 1)) (w (17 + 4 * k + 2)) 5 b2 (b3.trans (congrArg nI hkd)) b4 b5 (by omega) (by omega) (by omega) rfl) (fun r_53 M_53 q_53 => ?_)
  refine jm_ret (Y := YX5_ask) (pc := 56) (st := []) dX5_ask_56 rfl rfl ?_
  obtain ⟨e9, t9, f9⟩ := q_53
  cases e9
  exact ⟨rfl, by simpa only [List.nil_append] using t9, fun i a b => (f9.1 i a b).trans (f0 i a)⟩
theorem w_ask (w : Nat → Nat) (M : jm_M) (hR : RV M 0 w) (hg : rG w) (hm : w 4 ≤ 9999) (v a : Int32) : jm_J none YX5_ask 0 [some (.ref 0), some (.int v), some (.int a)] [] M ((fun o M1 => (q_ask w v a → o = some (.int (if a.toInt.toNat = 0 then a_sz w v.toInt.toNat else a_mk w v.toInt.toNat)) ∧ jm_tr 3 8 1 M1 (if a.toInt.toNat = 0 then a_szT w v.toInt.toNat else a_mkT w v.toInt.toNat) ∧ ∀ i, i ≠ 3 → i ≠ 8 → M1 i = M i) ∧ (¬ q_ask w v a → o = some (.int (-1000001)) ∧ M1 = M))) := by
  have hb := hg.hb
  have g0 := hg.1.1
  have g1 := hg.1.2.1
  have g2 := hg.1.2.2.1
  have g3 := hg.1.2.2.2.1
  have g4 := hg.1.2.2.2.2
  refine jm_ald_n (Y := YX5_ask) (pc := 0) (i := 0) dX5_ask_0 rfl rfl ?_
  refine jm_getR (Y := YX5_ask) (pc := 1) dX5_ask_1 fr_RX5_33 rfl (by decide) rfl ?_
  refine jm_ild_n (Y := YX5_ask) (pc := 4) (i := 1) dX5_ask_4 rfl rfl ?_
  refine jm_V1ie (Y := YX5_ask) (pc := 5) dX5_ask_5 lk_RX5_150 ⟨_, rfl⟩ (by first | exact jm_obR ha | exact jm_obR hb | rfl) rfl (by decide) (Nat.le_of_ble_eq_true rfl) ⟨by decide, by decide⟩ (m_hasWord 0 (by decide) w _ hR hg _) ?_
  refine jm_if_eqB (Y := YX5_ask) (pc := 8) dX5_ask_8 rfl (fun h_8 => ?_) (fun h_8 => ?_)
  · refine jm_ldc (Y := YX5_ask) (pc := 20) (v := -1000001) dX5_ask_20 kc_RX5_64 ?_
    refine jm_ret (Y := YX5_ask) (pc := 22) (st := []) dX5_ask_22 rfl rfl ?_
    exact ⟨fun z => absurd z (by unfold q_ask; omega), fun _ => ⟨rfl, rfl⟩⟩
  · refine jm_ild_n (Y := YX5_ask) (pc := 11) (i := 2) dX5_ask_11 rfl rfl ?_
    refine jm_icN (Y := YX5_ask) (pc := 12) 0 dX5_ask_12 rfl ?_
    refine jm_icN (Y := YX5_ask) (pc := 13) 1 dX5_ask_13 rfl ?_
    refine jm_S3ie (Y := YX5_ask) (pc := 14) dX5_ask_14 lk_RX5_98 ⟨_, rfl⟩ rfl rfl rfl (by decide) (Nat.le_of_ble_eq_true rfl) ⟨by decide, by decide⟩ (w_wiN _ _ _ _ (by decide) (by decide)) ?_
    refine jm_if_neB (Y := YX5_ask) (pc := 17) dX5_ask_17 rfl (fun h_17 => ?_) (fun h_17 => ?_)
    · obtain ⟨k, h_k, rfl, t_k, n_k⟩ := jm_ofL (v := v) (n := w 3) (by omega) (by omega)
      obtain ⟨b, h_b, rfl, t_b, n_b⟩ := jm_ofL (v := a) (n := 2) (by omega) (by omega)
      have k1 := (hg.2.2.2.2 k (by omega)).1
      have k5 := (hg.2.2.1 k (by omega)).1
      rcases (show b = 0 ∨ b = 1 by omega) with rfl | rfl
      · rcases (show w (17 + 4 * k) = 1 ∨ w (17 + 4 * k) = 2 ∨ w (17 + 4 * k) = 3 ∨ w (17 + 4 * k) = 4 ∨ w (17 + 4 * k) = 5 by omega) with h_kd | h_kd | h_kd | h_kd | h_kd
        · exact jm_wk (w_ask10 w M hR hg hm k (by omega) h_kd) (fun o M1 q => ⟨fun _ => (by rw [n_k, n_b]; obtain ⟨q1, q2, q3⟩ := q; refine ⟨q1.trans ?_, ?_, q3⟩; (show some (Value.int _) = some (Value.int (if 0 = 0 then a_sz w k else a_mk w k)); unfold a_sz a_mk; simp [h_kd]); (show jm_tr 3 8 1 M1 (if 0 = 0 then a_szT w k else a_mkT w k); unfold a_szT a_mkT; simpa [h_kd] using q2)), fun z => absurd (by unfold q_ask; omega) z⟩)
        · exact jm_wk (w_ask20 w M hR hg hm k (by omega) h_kd) (fun o M1 q => ⟨fun _ => (by rw [n_k, n_b]; obtain ⟨q1, q2, q3⟩ := q; refine ⟨q1.trans ?_, ?_, q3⟩; (show some (Value.int _) = some (Value.int (if 0 = 0 then a_sz w k else a_mk w k)); unfold a_sz a_mk; simp [h_kd]); (show jm_tr 3 8 1 M1 (if 0 = 0 then a_szT w k else a_mkT w k); unfold a_szT a_mkT; simpa [h_kd] using q2)), fun z => absurd (by unfold q_ask; omega) z⟩)
        · exact jm_wk (w_ask30 w M hR hg hm k (by omega) h_kd) (fun o M1 q => ⟨fun _ => (by rw [n_k, n_b]; obtain ⟨q1, q2, q3⟩ := q; refine ⟨q1.trans ?_, ?_, q3⟩; (show some (Value.int _) = some (Value.int (if 0 = 0 then a_sz w k else a_mk w k)); unfold a_sz a_mk; simp [h_kd]); (show jm_tr 3 8 1 M1 (if 0 = 0 then a_szT w k else a_mkT w k); unfold a_szT a_mkT; simpa [h_kd] using q2)), fun z => absurd (by unfold q_ask; omega) z⟩)
        · exact jm_wk (w_ask40 w M hR hg hm k (by omega) h_kd) (fun o M1 q => ⟨fun _ => (by rw [n_k, n_b]; obtain ⟨q1, q2, q3⟩ := q; refine ⟨q1.trans ?_, ?_, q3⟩; (show some (Value.int _) = some (Value.int (if 0 = 0 then a_sz w k else a_mk w k)); unfold a_sz a_mk; simp [h_kd]); (show jm_tr 3 8 1 M1 (if 0 = 0 then a_szT w k else a_mkT w k); unfold a_szT a_mkT; simpa [h_kd] using q2)), fun z => absurd (by unfold q_ask; omega) z⟩)
        · exact jm_wk (w_ask50 w M hR hg hm k (by omega) h_kd) (fun o M1 q => ⟨fun _ => (by rw [n_k, n_b]; obtain ⟨q1, q2, q3⟩ := q; refine ⟨q1.trans ?_, ?_, q3⟩; (show some (Value.int _) = some (Value.int (if 0 = 0 then a_sz w k else a_mk w k)); unfold a_sz a_mk; simp [h_kd]); (show jm_tr 3 8 1 M1 (if 0 = 0 then a_szT w k else a_mkT w k); unfold a_szT a_mkT; simpa [h_kd] using q2)), fun z => absurd (by unfold q_ask; omega) z⟩)
      · rcases (show w (17 + 4 * k) = 1 ∨ w (17 + 4 * k) = 2 ∨ w (17 + 4 * k) = 3 ∨ w (17 + 4 * k) = 4 ∨ w (17 + 4 * k) = 5 by omega) with h_kd | h_kd | h_kd | h_kd | h_kd
        · exact jm_wk (w_ask11 w M hR hg hm k (by omega) h_kd) (fun o M1 q => ⟨fun _ => (by rw [n_k, n_b]; obtain ⟨q1, q2, q3⟩ := q; refine ⟨q1.trans ?_, ?_, q3⟩; (show some (Value.int _) = some (Value.int (if 1 = 0 then a_sz w k else a_mk w k)); unfold a_sz a_mk; simp [h_kd]); (show jm_tr 3 8 1 M1 (if 1 = 0 then a_szT w k else a_mkT w k); unfold a_szT a_mkT; simpa [h_kd] using q2)), fun z => absurd (by unfold q_ask; omega) z⟩)
        · exact jm_wk (w_ask21 w M hR hg hm k (by omega) h_kd) (fun o M1 q => ⟨fun _ => (by rw [n_k, n_b]; obtain ⟨q1, q2, q3⟩ := q; refine ⟨q1.trans ?_, ?_, q3⟩; (show some (Value.int _) = some (Value.int (if 1 = 0 then a_sz w k else a_mk w k)); unfold a_sz a_mk; simp [h_kd]); (show jm_tr 3 8 1 M1 (if 1 = 0 then a_szT w k else a_mkT w k); unfold a_szT a_mkT; simpa [h_kd] using q2)), fun z => absurd (by unfold q_ask; omega) z⟩)
        · exact jm_wk (w_ask31 w M hR hg hm k (by omega) h_kd) (fun o M1 q => ⟨fun _ => (by rw [n_k, n_b]; obtain ⟨q1, q2, q3⟩ := q; refine ⟨q1.trans ?_, ?_, q3⟩; (show some (Value.int _) = some (Value.int (if 1 = 0 then a_sz w k else a_mk w k)); unfold a_sz a_mk; simp [h_kd]); (show jm_tr 3 8 1 M1 (if 1 = 0 then a_szT w k else a_mkT w k); unfold a_szT a_mkT; simpa [h_kd] using q2)), fun z => absurd (by unfold q_ask; omega) z⟩)
        · exact jm_wk (w_ask41 w M hR hg hm k (by omega) h_kd) (fun o M1 q => ⟨fun _ => (by rw [n_k, n_b]; obtain ⟨q1, q2, q3⟩ := q; refine ⟨q1.trans ?_, ?_, q3⟩; (show some (Value.int _) = some (Value.int (if 1 = 0 then a_sz w k else a_mk w k)); unfold a_sz a_mk; simp [h_kd]); (show jm_tr 3 8 1 M1 (if 1 = 0 then a_szT w k else a_mkT w k); unfold a_szT a_mkT; simpa [h_kd] using q2)), fun z => absurd (by unfold q_ask; omega) z⟩)
        · exact jm_wk (w_ask51 w M hR hg hm k (by omega) h_kd) (fun o M1 q => ⟨fun _ => (by rw [n_k, n_b]; obtain ⟨q1, q2, q3⟩ := q; refine ⟨q1.trans ?_, ?_, q3⟩; (show some (Value.int _) = some (Value.int (if 1 = 0 then a_sz w k else a_mk w k)); unfold a_sz a_mk; simp [h_kd]); (show jm_tr 3 8 1 M1 (if 1 = 0 then a_szT w k else a_mkT w k); unfold a_szT a_mkT; simpa [h_kd] using q2)), fun z => absurd (by unfold q_ask; omega) z⟩)
    · refine jm_ldc (Y := YX5_ask) (pc := 20) (v := -1000001) dX5_ask_20 kc_RX5_64 ?_
      refine jm_ret (Y := YX5_ask) (pc := 22) (st := []) dX5_ask_22 rfl rfl ?_
      exact ⟨fun z => absurd z (by unfold q_ask; omega), fun _ => ⟨rfl, rfl⟩⟩
