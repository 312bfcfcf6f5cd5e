/-! the class: rows -/
theorem w_row (M : jm_M) (r l n : Int32) : jm_J none YX5_row 0 [some (.ref 0), some (.int r), some (.int l), some (.int n)] [] M ((fun o M1 => (q_row r l n → (n.toInt < 0 → o = some (.int (-1000014)) ∧ M1 = jm_sf M 0 (upd (M 0) 9 (nI 4))) ∧ (¬ n.toInt < 0 → o = some (.int n) ∧ M1 = jm_sf (jm_sf (jm_sf (jm_sf M 5 (upd (M 5) r.toInt.toNat l)) 6 (upd (M 6) r.toInt.toNat n)) (24 + r.toInt.toNat) (p_zr (M (24 + r.toInt.toNat)) 0 40)) 0 (upd (M 0) 9 (nI 0)))) ∧ (¬ q_row r l n → o = some (.int (-1000001)) ∧ M1 = M))) := by
  refine jm_ild_n (Y := YX5_row) (pc := 0) (i := 1) dX5_row_0 rfl rfl ?_
  refine jm_S1ie (Y := YX5_row) (pc := 1) dX5_row_1 lk_RX5_57 ⟨_, rfl⟩ rfl (by decide) (Nat.le_of_ble_eq_true rfl) ⟨by decide, by decide⟩ (r_isRow _ _) ?_
  refine jm_if_eqB (Y := YX5_row) (pc := 4) dX5_row_4 rfl (fun h_4 => ?_) (fun h_4 => ?_)
  · refine jm_ldc (Y := YX5_row) (pc := 20) (v := -1000001) dX5_row_20 kc_RX5_64 ?_
    refine jm_ret (Y := YX5_row) (pc := 22) (st := []) dX5_row_22 rfl rfl ?_
    first
      | exact ⟨fun q => absurd q (by unfold q_row; omega), fun _ => ⟨rfl, rfl⟩⟩
      | exact ⟨fun q => absurd q (by unfold q_row; intro z; exact h_17 (Int32.le_iff_toInt_le.mpr (by rw [jm_tI (by decide)]; omega))), fun _ => ⟨rfl, rfl⟩⟩
      | exact ⟨fun q => ⟨fun _ => ⟨rfl, rfl⟩, fun z => absurd (jm_lt0.mp (i_lt h_24)) z⟩, fun z => absurd (by have := Int32.le_iff_toInt_le.mp h_17; rw [jm_tI (by decide)] at this; unfold q_row; omega) z⟩
      | exact ⟨fun _ => ⟨fun z => absurd z hn0, fun _ => ⟨rfl, by rw [n_k, jm_sf_n _ _ (show 0 ≠ 24 + k by omega)]; try rfl⟩⟩, fun z => absurd (by unfold q_row; omega) z⟩
      | fail
  · refine jm_ild_n (Y := YX5_row) (pc := 7) (i := 2) dX5_row_7 rfl rfl ?_
    refine jm_S1ie (Y := YX5_row) (pc := 8) dX5_row_8 lk_RX5_61 ⟨_, rfl⟩ rfl (by decide) (Nat.le_of_ble_eq_true rfl) ⟨by decide, by decide⟩ (r_isLane _ _) ?_
    refine jm_if_eqB (Y := YX5_row) (pc := 11) dX5_row_11 rfl (fun h_11 => ?_) (fun h_11 => ?_)
    · refine jm_ldc (Y := YX5_row) (pc := 20) (v := -1000001) dX5_row_20 kc_RX5_64 ?_
      refine jm_ret (Y := YX5_row) (pc := 22) (st := []) dX5_row_22 rfl rfl ?_
      first
        | exact ⟨fun q => absurd q (by unfold q_row; omega), fun _ => ⟨rfl, rfl⟩⟩
        | exact ⟨fun q => absurd q (by unfold q_row; intro z; exact h_17 (Int32.le_iff_toInt_le.mpr (by rw [jm_tI (by decide)]; omega))), fun _ => ⟨rfl, rfl⟩⟩
        | exact ⟨fun q => ⟨fun _ => ⟨rfl, rfl⟩, fun z => absurd (jm_lt0.mp (i_lt h_24)) z⟩, fun z => absurd (by have := Int32.le_iff_toInt_le.mp h_17; rw [jm_tI (by decide)] at this; unfold q_row; omega) z⟩
        | exact ⟨fun _ => ⟨fun z => absurd z hn0, fun _ => ⟨rfl, by rw [n_k, jm_sf_n _ _ (show 0 ≠ 24 + k by omega)]; try rfl⟩⟩, fun z => absurd (by unfold q_row; omega) z⟩
        | fail
    · refine jm_ild_n (Y := YX5_row) (pc := 14) (i := 3) dX5_row_14 rfl rfl ?_
      refine jm_bpN (Y := YX5_row) (pc := 15) 40 dX5_row_15 rfl ?_
      refine jm_icmp_le (Y := YX5_row) (pc := 17) dX5_row_17 rfl (fun h_17 => ?_) (fun h_17 => ?_)
      · refine jm_ild_n (Y := YX5_row) (pc := 23) (i := 3) dX5_row_23 rfl rfl ?_
        refine jm_if_ge (Y := YX5_row) (pc := 24) dX5_row_24 rfl (fun h_24 => ?_) (fun h_24 => ?_)
        · have hn0 : ¬ n.toInt < 0 := fun z => Int32.not_lt.mpr h_24 (jm_lt0.mpr z)
          have hn4 : n.toInt ≤ 40 := (by have := Int32.le_iff_toInt_le.mp h_17; rw [jm_tI (by decide)] at this; omega)
          obtain ⟨k, h_k, rfl, t_k, n_k⟩ := jm_ofL (v := r) (n := 8) (by omega) (by omega)
          obtain ⟨nn, h_nn, rfl, t_nn, n_nn⟩ := jm_ofL (v := n) (n := 41) (by omega) (by omega)
          refine jm_ald_n (Y := YX5_row) (pc := 33) (i := 0) dX5_row_33 rfl rfl ?_
          refine jm_getR (Y := YX5_row) (pc := 34) dX5_row_34 fr_RX5_10 rfl (by decide) rfl ?_
          refine jm_ild_n (Y := YX5_row) (pc := 37) (i := 1) dX5_row_37 rfl rfl ?_
          refine jm_ild_n (Y := YX5_row) (pc := 38) (i := 2) dX5_row_38 rfl rfl ?_
          refine jm_ild_n (Y := YX5_row) (pc := 39) (i := 3) dX5_row_39 rfl rfl ?_
          refine jm_V3ve (Y := YX5_row) (pc := 40) dX5_row_40 lk_RX5_69 rfl rfl rfl rfl rfl (by decide) (Nat.le_of_ble_eq_true rfl) ⟨by decide, by decide⟩ (r_lay k h_k _ nn _) ?_
          refine jm_ald_n (Y := YX5_row) (pc := 43) (i := 0) dX5_row_43 rfl rfl ?_
          refine jm_ild_n (Y := YX5_row) (pc := 44) (i := 3) dX5_row_44 rfl rfl ?_
          refine jm_V1ie (Y := YX5_row) (pc := 45) dX5_row_45 lk_RX5_73 ⟨_, rfl⟩ rfl rfl (by decide) (Nat.le_of_ble_eq_true rfl) ⟨by decide, by decide⟩ (w_unfound _ _) ?_
          refine jm_ret (Y := YX5_row) (pc := 48) (st := []) dX5_row_48 rfl rfl ?_
          first
            | exact ⟨fun q => absurd q (by unfold q_row; omega), fun _ => ⟨rfl, rfl⟩⟩
            | exact ⟨fun q => absurd q (by unfold q_row; intro z; exact h_17 (Int32.le_iff_toInt_le.mpr (by rw [jm_tI (by decide)]; omega))), fun _ => ⟨rfl, rfl⟩⟩
            | exact ⟨fun q => ⟨fun _ => ⟨rfl, rfl⟩, fun z => absurd (jm_lt0.mp (i_lt h_24)) z⟩, fun z => absurd (by have := Int32.le_iff_toInt_le.mp h_17; rw [jm_tI (by decide)] at this; unfold q_row; omega) z⟩
            | exact ⟨fun _ => ⟨fun z => absurd z hn0, fun _ => ⟨rfl, by rw [n_k, jm_sf_n _ _ (show 0 ≠ 24 + k by omega)]; try rfl⟩⟩, fun z => absurd (by unfold q_row; omega) z⟩
            | fail
        · refine jm_ald_n (Y := YX5_row) (pc := 27) (i := 0) dX5_row_27 rfl rfl ?_
          refine jm_icN (Y := YX5_row) (pc := 28) 4 dX5_row_28 rfl ?_
          refine jm_V1ie (Y := YX5_row) (pc := 29) dX5_row_29 lk_RX5_65 ⟨_, rfl⟩ rfl rfl (by decide) (Nat.le_of_ble_eq_true rfl) ⟨by decide, by decide⟩ (w_finding _ _) ?_
          refine jm_ret (Y := YX5_row) (pc := 32) (st := []) dX5_row_32 rfl rfl ?_
          first
            | exact ⟨fun q => absurd q (by unfold q_row; omega), fun _ => ⟨rfl, rfl⟩⟩
            | exact ⟨fun q => absurd q (by unfold q_row; intro z; exact h_17 (Int32.le_iff_toInt_le.mpr (by rw [jm_tI (by decide)]; omega))), fun _ => ⟨rfl, rfl⟩⟩
            | exact ⟨fun q => ⟨fun _ => ⟨rfl, rfl⟩, fun z => absurd (jm_lt0.mp (i_lt h_24)) z⟩, fun z => absurd (by have := Int32.le_iff_toInt_le.mp h_17; rw [jm_tI (by decide)] at this; unfold q_row; omega) z⟩
            | exact ⟨fun _ => ⟨fun z => absurd z hn0, fun _ => ⟨rfl, by rw [n_k, jm_sf_n _ _ (show 0 ≠ 24 + k by omega)]; try rfl⟩⟩, fun z => absurd (by unfold q_row; omega) z⟩
            | fail
      · refine jm_ldc (Y := YX5_row) (pc := 20) (v := -1000001) dX5_row_20 kc_RX5_64 ?_
        refine jm_ret (Y := YX5_row) (pc := 22) (st := []) dX5_row_22 rfl rfl ?_
        first
          | exact ⟨fun q => absurd q (by unfold q_row; omega), fun _ => ⟨rfl, rfl⟩⟩
          | exact ⟨fun q => absurd q (by unfold q_row; intro z; exact h_17 (Int32.le_iff_toInt_le.mpr (by rw [jm_tI (by decide)]; omega))), fun _ => ⟨rfl, rfl⟩⟩
          | exact ⟨fun q => ⟨fun _ => ⟨rfl, rfl⟩, fun z => absurd (jm_lt0.mp (i_lt h_24)) z⟩, fun z => absurd (by have := Int32.le_iff_toInt_le.mp h_17; rw [jm_tI (by decide)] at this; unfold q_row; omega) z⟩
          | exact ⟨fun _ => ⟨fun z => absurd z hn0, fun _ => ⟨rfl, by rw [n_k, jm_sf_n _ _ (show 0 ≠ 24 + k by omega)]; try rfl⟩⟩, fun z => absurd (by unfold q_row; omega) z⟩
          | fail
theorem w_set (M : jm_M) (ln : Nat → Int32) (mn : Nat → Nat) (it : Nat → Int32) (hW : RW M ln mn it) (r i v : Int32) : jm_J none YX5_set 0 [some (.ref 0), some (.int r), some (.int i), some (.int v)] [] M ((fun o M1 => if 0 ≤ r.toInt ∧ r.toInt ≤ 7 then (if ln r.toInt.toNat = -1000000 then o = some (.int (-1000011)) ∧ M1 = jm_sf M 0 (upd (M 0) 9 (nI 1)) else if 0 ≤ i.toInt ∧ i.toInt < mn r.toInt.toNat then o = some (.int (p_cut (ln r.toInt.toNat) v)) ∧ M1 = jm_sf (jm_sf M (24 + r.toInt.toNat) (upd (M (24 + r.toInt.toNat)) i.toInt.toNat (p_cut (ln r.toInt.toNat) v))) 0 (upd (M 0) 9 (nI 0)) else o = some (.int (-1000012)) ∧ M1 = jm_sf M 0 (upd (M 0) 9 (nI 2))) else o = some (.int (-1000001)) ∧ M1 = M)) := by
  refine jm_ild_n (Y := YX5_set) (pc := 0) (i := 1) dX5_set_0 rfl rfl ?_
  refine jm_S1ie (Y := YX5_set) (pc := 1) dX5_set_1 lk_RX5_57 ⟨_, rfl⟩ rfl (by decide) (Nat.le_of_ble_eq_true rfl) ⟨by decide, by decide⟩ (r_isRow _ _) ?_
  refine jm_if_neB (Y := YX5_set) (pc := 4) dX5_set_4 rfl (fun h_4 => ?_) (fun h_4 => ?_)
  · obtain ⟨k, h_k, rfl, t_k, n_k⟩ := jm_ofL (v := r) (n := 8) (by omega) (by omega)
    have hwr := RW_m hW h_k
    refine jm_ald_n (Y := YX5_set) (pc := 10) (i := 0) dX5_set_10 rfl rfl ?_
    refine jm_getR (Y := YX5_set) (pc := 11) dX5_set_11 fr_RX5_10 rfl (by decide) rfl ?_
    refine jm_ild_n (Y := YX5_set) (pc := 14) (i := 1) dX5_set_14 rfl rfl ?_
    refine jm_V1ie (Y := YX5_set) (pc := 15) dX5_set_15 lk_RX5_76 ⟨_, rfl⟩ rfl rfl (by decide) (Nat.le_of_ble_eq_true rfl) ⟨by decide, by decide⟩ (r_isMissing k h_k _) ?_
    refine jm_if_eqB (Y := YX5_set) (pc := 18) dX5_set_18 rfl (fun h_18 => ?_) (fun h_18 => ?_)
    · have hr := RW_n hW h_k h_18
      have h40 := (hW k h_k).1
      have e1 := jm_tI (show 1 < 2147483648 by decide)
      refine jm_ald_n (Y := YX5_set) (pc := 27) (i := 0) dX5_set_27 rfl rfl ?_
      refine jm_getR (Y := YX5_set) (pc := 28) dX5_set_28 fr_RX5_10 rfl (by decide) rfl ?_
      refine jm_ild_n (Y := YX5_set) (pc := 31) (i := 1) dX5_set_31 rfl rfl ?_
      refine jm_ild_n (Y := YX5_set) (pc := 32) (i := 2) dX5_set_32 rfl rfl ?_
      refine jm_icN (Y := YX5_set) (pc := 33) 1 dX5_set_33 rfl ?_
      refine jm_V3ie (Y := YX5_set) (pc := 34) dX5_set_34 lk_RX5_79 ⟨_, rfl⟩ rfl rfl rfl rfl (by decide) (Nat.le_of_ble_eq_true rfl) ⟨by decide, by decide⟩ (r_hasPlaces k (mn k) h_k h40 _ _ _ hr.1) ?_
      refine jm_if_neB (Y := YX5_set) (pc := 37) dX5_set_37 rfl (fun h_37 => ?_) (fun h_37 => ?_)
      · obtain ⟨j, h_j, rfl, t_j, n_j⟩ := jm_ofL (v := i) (n := mn k) (by omega) (by omega)
        refine jm_ald_n (Y := YX5_set) (pc := 46) (i := 0) dX5_set_46 rfl rfl ?_
        refine jm_ald_n (Y := YX5_set) (pc := 47) (i := 0) dX5_set_47 rfl rfl ?_
        refine jm_getR (Y := YX5_set) (pc := 48) dX5_set_48 fr_RX5_10 rfl (by decide) rfl ?_
        refine jm_ild_n (Y := YX5_set) (pc := 51) (i := 1) dX5_set_51 rfl rfl ?_
        refine jm_ild_n (Y := YX5_set) (pc := 52) (i := 2) dX5_set_52 rfl rfl ?_
        refine jm_ild_n (Y := YX5_set) (pc := 53) (i := 3) dX5_set_53 rfl rfl ?_
        refine jm_V3ie (Y := YX5_set) (pc := 54) dX5_set_54 lk_RX5_83 ⟨_, rfl⟩ rfl rfl rfl rfl (by decide) (Nat.le_of_ble_eq_true rfl) ⟨by decide, by decide⟩ ((by have h9 := r_put k j h_k (by omega) v M; rw [hr.2.2.1] at h9; exact h9)) ?_
        refine jm_V1ie (Y := YX5_set) (pc := 57) dX5_set_57 lk_RX5_73 ⟨_, rfl⟩ rfl rfl (by decide) (Nat.le_of_ble_eq_true rfl) ⟨by decide, by decide⟩ (w_unfound _ _) ?_
        refine jm_ret (Y := YX5_set) (pc := 60) (st := []) dX5_set_60 rfl rfl ?_
        first | (rw [if_neg (by omega)]; exact ⟨rfl, rfl⟩) | (rw [if_pos (by omega), n_k, if_pos (hwr.mp h_18)]; exact ⟨rfl, rfl⟩) | (rw [if_pos (by omega), n_k, if_neg hr.2.1, if_neg (by omega)]; exact ⟨rfl, rfl⟩) | (rw [if_pos (by omega), n_k, if_neg hr.2.1, if_pos (by omega), n_j]; exact ⟨rfl, by rw [jm_sf_n _ _ (show 0 ≠ 24 + k by omega)]⟩) | fail
      · refine jm_ald_n (Y := YX5_set) (pc := 40) (i := 0) dX5_set_40 rfl rfl ?_
        refine jm_icN (Y := YX5_set) (pc := 41) 2 dX5_set_41 rfl ?_
        refine jm_V1ie (Y := YX5_set) (pc := 42) dX5_set_42 lk_RX5_65 ⟨_, rfl⟩ rfl rfl (by decide) (Nat.le_of_ble_eq_true rfl) ⟨by decide, by decide⟩ (w_finding _ _) ?_
        refine jm_ret (Y := YX5_set) (pc := 45) (st := []) dX5_set_45 rfl rfl ?_
        first | (rw [if_neg (by omega)]; exact ⟨rfl, rfl⟩) | (rw [if_pos (by omega), n_k, if_pos (hwr.mp h_18)]; exact ⟨rfl, rfl⟩) | (rw [if_pos (by omega), n_k, if_neg hr.2.1, if_neg (by omega)]; exact ⟨rfl, rfl⟩) | (rw [if_pos (by omega), n_k, if_neg hr.2.1, if_pos (by omega), n_j]; exact ⟨rfl, by rw [jm_sf_n _ _ (show 0 ≠ 24 + k by omega)]⟩) | fail
    · refine jm_ald_n (Y := YX5_set) (pc := 21) (i := 0) dX5_set_21 rfl rfl ?_
      refine jm_icN (Y := YX5_set) (pc := 22) 1 dX5_set_22 rfl ?_
      refine jm_V1ie (Y := YX5_set) (pc := 23) dX5_set_23 lk_RX5_65 ⟨_, rfl⟩ rfl rfl (by decide) (Nat.le_of_ble_eq_true rfl) ⟨by decide, by decide⟩ (w_finding _ _) ?_
      refine jm_ret (Y := YX5_set) (pc := 26) (st := []) dX5_set_26 rfl rfl ?_
      first | (rw [if_neg (by omega)]; exact ⟨rfl, rfl⟩) | (rw [if_pos (by omega), n_k, if_pos (hwr.mp h_18)]; exact ⟨rfl, rfl⟩) | (rw [if_pos (by omega), n_k, if_neg hr.2.1, if_neg (by omega)]; exact ⟨rfl, rfl⟩) | (rw [if_pos (by omega), n_k, if_neg hr.2.1, if_pos (by omega), n_j]; exact ⟨rfl, by rw [jm_sf_n _ _ (show 0 ≠ 24 + k by omega)]⟩) | fail
  · refine jm_ldc (Y := YX5_set) (pc := 7) (v := -1000001) dX5_set_7 kc_RX5_64 ?_
    refine jm_ret (Y := YX5_set) (pc := 9) (st := []) dX5_set_9 rfl rfl ?_
    first | (rw [if_neg (by omega)]; exact ⟨rfl, rfl⟩) | (rw [if_pos (by omega), n_k, if_pos (hwr.mp h_18)]; exact ⟨rfl, rfl⟩) | (rw [if_pos (by omega), n_k, if_neg hr.2.1, if_neg (by omega)]; exact ⟨rfl, rfl⟩) | (rw [if_pos (by omega), n_k, if_neg hr.2.1, if_pos (by omega), n_j]; exact ⟨rfl, by rw [jm_sf_n _ _ (show 0 ≠ 24 + k by omega)]⟩) | fail
theorem w_drop (M : jm_M) (ln : Nat → Int32) (mn : Nat → Nat) (it : Nat → Int32) (hW : RW M ln mn it) (r : Int32) : jm_J none YX5_drop 0 [some (.ref 0), some (.int r)] [] M ((fun o M1 => if 0 ≤ r.toInt ∧ r.toInt ≤ 7 then (if ln r.toInt.toNat = -1000000 then o = some (.int (-1000011)) ∧ M1 = jm_sf M 0 (upd (M 0) 9 (nI 1)) else o = some (.int (nI (mn r.toInt.toNat))) ∧ M1 = jm_sf (jm_sf M 6 (upd (M 6) r.toInt.toNat (-1))) 0 (upd (M 0) 9 (nI 0))) else o = some (.int (-1000001)) ∧ M1 = M)) := by
  refine jm_ild_n (Y := YX5_drop) (pc := 0) (i := 1) dX5_drop_0 rfl rfl ?_
  refine jm_S1ie (Y := YX5_drop) (pc := 1) dX5_drop_1 lk_RX5_57 ⟨_, rfl⟩ rfl (by decide) (Nat.le_of_ble_eq_true rfl) ⟨by decide, by decide⟩ (r_isRow _ _) ?_
  refine jm_if_neB (Y := YX5_drop) (pc := 4) dX5_drop_4 rfl (fun h_4 => ?_) (fun h_4 => ?_)
  · obtain ⟨k, h_k, rfl, t_k, n_k⟩ := jm_ofL (v := r) (n := 8) (by omega) (by omega)
    have hwr := RW_m hW h_k
    refine jm_ald_n (Y := YX5_drop) (pc := 10) (i := 0) dX5_drop_10 rfl rfl ?_
    refine jm_getR (Y := YX5_drop) (pc := 11) dX5_drop_11 fr_RX5_10 rfl (by decide) rfl ?_
    refine jm_ild_n (Y := YX5_drop) (pc := 14) (i := 1) dX5_drop_14 rfl rfl ?_
    refine jm_V1ie (Y := YX5_drop) (pc := 15) dX5_drop_15 lk_RX5_76 ⟨_, rfl⟩ rfl rfl (by decide) (Nat.le_of_ble_eq_true rfl) ⟨by decide, by decide⟩ (r_isMissing k h_k _) ?_
    refine jm_if_eqB (Y := YX5_drop) (pc := 18) dX5_drop_18 rfl (fun h_18 => ?_) (fun h_18 => ?_)
    · have hr := RW_n hW h_k h_18
      have h40 := (hW k h_k).1
      refine jm_ald_n (Y := YX5_drop) (pc := 27) (i := 0) dX5_drop_27 rfl rfl ?_
      refine jm_ald_n (Y := YX5_drop) (pc := 28) (i := 0) dX5_drop_28 rfl rfl ?_
      refine jm_getR (Y := YX5_drop) (pc := 29) dX5_drop_29 fr_RX5_10 rfl (by decide) rfl ?_
      refine jm_ild_n (Y := YX5_drop) (pc := 32) (i := 1) dX5_drop_32 rfl rfl ?_
      refine jm_V1ie (Y := YX5_drop) (pc := 33) dX5_drop_33 lk_RX5_95 ⟨_, rfl⟩ rfl rfl (by decide) (Nat.le_of_ble_eq_true rfl) ⟨by decide, by decide⟩ ((by have h9 := r_lose k h_k M; rw [hr.1] at h9; exact h9)) ?_
      refine jm_V1ie (Y := YX5_drop) (pc := 36) dX5_drop_36 lk_RX5_73 ⟨_, rfl⟩ rfl rfl (by decide) (Nat.le_of_ble_eq_true rfl) ⟨by decide, by decide⟩ (w_unfound _ _) ?_
      refine jm_ret (Y := YX5_drop) (pc := 39) (st := []) dX5_drop_39 rfl rfl ?_
      first | (rw [if_neg (by omega)]; exact ⟨rfl, rfl⟩) | (rw [if_pos (by omega), n_k, if_pos (hwr.mp h_18)]; exact ⟨rfl, rfl⟩) | (rw [if_pos (by omega), n_k, if_neg hr.2.1]; exact ⟨rfl, rfl⟩) | fail
    · refine jm_ald_n (Y := YX5_drop) (pc := 21) (i := 0) dX5_drop_21 rfl rfl ?_
      refine jm_icN (Y := YX5_drop) (pc := 22) 1 dX5_drop_22 rfl ?_
      refine jm_V1ie (Y := YX5_drop) (pc := 23) dX5_drop_23 lk_RX5_65 ⟨_, rfl⟩ rfl rfl (by decide) (Nat.le_of_ble_eq_true rfl) ⟨by decide, by decide⟩ (w_finding _ _) ?_
      refine jm_ret (Y := YX5_drop) (pc := 26) (st := []) dX5_drop_26 rfl rfl ?_
      first | (rw [if_neg (by omega)]; exact ⟨rfl, rfl⟩) | (rw [if_pos (by omega), n_k, if_pos (hwr.mp h_18)]; exact ⟨rfl, rfl⟩) | (rw [if_pos (by omega), n_k, if_neg hr.2.1]; exact ⟨rfl, rfl⟩) | fail
  · refine jm_ldc (Y := YX5_drop) (pc := 7) (v := -1000001) dX5_drop_7 kc_RX5_64 ?_
    refine jm_ret (Y := YX5_drop) (pc := 9) (st := []) dX5_drop_9 rfl rfl ?_
    first | (rw [if_neg (by omega)]; exact ⟨rfl, rfl⟩) | (rw [if_pos (by omega), n_k, if_pos (hwr.mp h_18)]; exact ⟨rfl, rfl⟩) | (rw [if_pos (by omega), n_k, if_neg hr.2.1]; exact ⟨rfl, rfl⟩) | fail
theorem w_copy (M : jm_M) (ln : Nat → Int32) (mn : Nat → Nat) (it : Nat → Int32) (hW : RW M ln mn it) (a i b j n : Int32) : jm_J none YX5_copy 0 [some (.ref 0), some (.int a), some (.int i), some (.int b), some (.int j), some (.int n)] [] M (fun o M1 => match q_copy ln mn a i b j n with | 0 => o = some (.int n) ∧ M1 = jm_sf (jm_sf M (24 + b.toInt.toNat) (va_cpy (M (24 + a.toInt.toNat)) (M (24 + b.toInt.toNat)) i.toInt.toNat j.toInt.toNat n.toInt.toNat)) 0 (upd (M 0) 9 (nI 0)) | 9 => o = some (.int (-1000001)) ∧ M1 = M | z => o = some (.int (-1000010 - nI z)) ∧ M1 = jm_sf M 0 (upd (M 0) 9 (nI z))) := by
  refine jm_ild_n (Y := YX5_copy) (pc := 0) (i := 1) dX5_copy_0 rfl rfl ?_
  refine jm_S1ie (Y := YX5_copy) (pc := 1) dX5_copy_1 lk_RX5_57 ⟨_, rfl⟩ rfl (by decide) (Nat.le_of_ble_eq_true rfl) ⟨by decide, by decide⟩ (r_isRow _ _) ?_
  refine jm_if_eqB (Y := YX5_copy) (pc := 4) dX5_copy_4 rfl (fun h_4 => ?_) (fun h_4 => ?_)
  · refine jm_ldc (Y := YX5_copy) (pc := 14) (v := -1000001) dX5_copy_14 kc_RX5_64 ?_
    refine jm_ret (Y := YX5_copy) (pc := 16) (st := []) dX5_copy_16 rfl rfl ?_
    first
      | (have e9 : q_copy ln mn a i b j n = 9 := (by unfold q_copy; rw [if_neg (by omega)]); rw [e9]; exact ⟨rfl, rfl⟩)
      | (have e9 : q_copy ln mn (nI x) i (nI y) j n = 1 := (by unfold q_copy; rw [if_pos (by omega), n_x, n_y, if_pos (Or.inl (hwx.mp h_25))]); rw [e9]; exact ⟨rfl, rfl⟩)
      | (have e9 : q_copy ln mn (nI x) i (nI y) j n = 1 := (by unfold q_copy; rw [if_pos (by omega), n_x, n_y, if_pos (Or.inr (hwy.mp h_36))]); rw [e9]; exact ⟨rfl, rfl⟩)
      | (have e9 : q_copy ln mn (nI x) i (nI y) j n = 5 := (by unfold q_copy; rw [if_pos (by omega), n_x, n_y, if_neg (fun z => z.elim hrx.2.1 hry.2.1), if_pos h_54]); rw [e9]; exact ⟨rfl, rfl⟩)
      | (have e9 : q_copy ln mn (nI x) i (nI y) j n = 2 := (by unfold q_copy; rw [if_pos (by omega), n_x, n_y, if_neg (fun z => z.elim hrx.2.1 hry.2.1), if_neg (fun z => z h_54), if_neg (by omega)]); rw [e9]; exact ⟨rfl, rfl⟩)
      | (have e9 : q_copy ln mn (nI x) (nI ii) (nI y) (nI jj) (nI nn) = 0 := (by unfold q_copy; rw [if_pos (by omega), n_x, n_y, if_neg (fun z => z.elim hrx.2.1 hry.2.1), if_neg (fun z => z h_54), if_pos (by omega)]); rw [e9]; rw [n_x, n_y, n_ii, n_jj, n_nn]; exact ⟨rfl, by rw [jm_sf_n _ _ (show 0 ≠ 24 + y by omega)]⟩)
      | fail
  · refine jm_ild_n (Y := YX5_copy) (pc := 7) (i := 3) dX5_copy_7 rfl rfl ?_
    refine jm_S1ie (Y := YX5_copy) (pc := 8) dX5_copy_8 lk_RX5_57 ⟨_, rfl⟩ rfl (by decide) (Nat.le_of_ble_eq_true rfl) ⟨by decide, by decide⟩ (r_isRow _ _) ?_
    refine jm_if_neB (Y := YX5_copy) (pc := 11) dX5_copy_11 rfl (fun h_11 => ?_) (fun h_11 => ?_)
    · obtain ⟨x, h_x, rfl, t_x, n_x⟩ := jm_ofL (v := a) (n := 8) (by omega) (by omega)
      obtain ⟨y, h_y, rfl, t_y, n_y⟩ := jm_ofL (v := b) (n := 8) (by omega) (by omega)
      have hwx := RW_m hW h_x
      have hwy := RW_m hW h_y
      have x40 := (hW x h_x).1
      have y40 := (hW y h_y).1
      refine jm_ald_n (Y := YX5_copy) (pc := 17) (i := 0) dX5_copy_17 rfl rfl ?_
      refine jm_getR (Y := YX5_copy) (pc := 18) dX5_copy_18 fr_RX5_10 rfl (by decide) rfl ?_
      refine jm_ild_n (Y := YX5_copy) (pc := 21) (i := 1) dX5_copy_21 rfl rfl ?_
      refine jm_V1ie (Y := YX5_copy) (pc := 22) dX5_copy_22 lk_RX5_76 ⟨_, rfl⟩ rfl rfl (by decide) (Nat.le_of_ble_eq_true rfl) ⟨by decide, by decide⟩ (r_isMissing x h_x _) ?_
      refine jm_if_neB (Y := YX5_copy) (pc := 25) dX5_copy_25 rfl (fun h_25 => ?_) (fun h_25 => ?_)
      · refine jm_ald_n (Y := YX5_copy) (pc := 39) (i := 0) dX5_copy_39 rfl rfl ?_
        refine jm_icN (Y := YX5_copy) (pc := 40) 1 dX5_copy_40 rfl ?_
        refine jm_V1ie (Y := YX5_copy) (pc := 41) dX5_copy_41 lk_RX5_65 ⟨_, rfl⟩ rfl rfl (by decide) (Nat.le_of_ble_eq_true rfl) ⟨by decide, by decide⟩ (w_finding _ _) ?_
        refine jm_ret (Y := YX5_copy) (pc := 44) (st := []) dX5_copy_44 rfl rfl ?_
        first
          | (have e9 : q_copy ln mn a i b j n = 9 := (by unfold q_copy; rw [if_neg (by omega)]); rw [e9]; exact ⟨rfl, rfl⟩)
          | (have e9 : q_copy ln mn (nI x) i (nI y) j n = 1 := (by unfold q_copy; rw [if_pos (by omega), n_x, n_y, if_pos (Or.inl (hwx.mp h_25))]); rw [e9]; exact ⟨rfl, rfl⟩)
          | (have e9 : q_copy ln mn (nI x) i (nI y) j n = 1 := (by unfold q_copy; rw [if_pos (by omega), n_x, n_y, if_pos (Or.inr (hwy.mp h_36))]); rw [e9]; exact ⟨rfl, rfl⟩)
          | (have e9 : q_copy ln mn (nI x) i (nI y) j n = 5 := (by unfold q_copy; rw [if_pos (by omega), n_x, n_y, if_neg (fun z => z.elim hrx.2.1 hry.2.1), if_pos h_54]); rw [e9]; exact ⟨rfl, rfl⟩)
          | (have e9 : q_copy ln mn (nI x) i (nI y) j n = 2 := (by unfold q_copy; rw [if_pos (by omega), n_x, n_y, if_neg (fun z => z.elim hrx.2.1 hry.2.1), if_neg (fun z => z h_54), if_neg (by omega)]); rw [e9]; exact ⟨rfl, rfl⟩)
          | (have e9 : q_copy ln mn (nI x) (nI ii) (nI y) (nI jj) (nI nn) = 0 := (by unfold q_copy; rw [if_pos (by omega), n_x, n_y, if_neg (fun z => z.elim hrx.2.1 hry.2.1), if_neg (fun z => z h_54), if_pos (by omega)]); rw [e9]; rw [n_x, n_y, n_ii, n_jj, n_nn]; exact ⟨rfl, by rw [jm_sf_n _ _ (show 0 ≠ 24 + y by omega)]⟩)
          | fail
      · refine jm_ald_n (Y := YX5_copy) (pc := 28) (i := 0) dX5_copy_28 rfl rfl ?_
        refine jm_getR (Y := YX5_copy) (pc := 29) dX5_copy_29 fr_RX5_10 rfl (by decide) rfl ?_
        refine jm_ild_n (Y := YX5_copy) (pc := 32) (i := 3) dX5_copy_32 rfl rfl ?_
        refine jm_V1ie (Y := YX5_copy) (pc := 33) dX5_copy_33 lk_RX5_76 ⟨_, rfl⟩ rfl rfl (by decide) (Nat.le_of_ble_eq_true rfl) ⟨by decide, by decide⟩ (r_isMissing y h_y _) ?_
        refine jm_if_eqB (Y := YX5_copy) (pc := 36) dX5_copy_36 rfl (fun h_36 => ?_) (fun h_36 => ?_)
        · have hrx := RW_n hW h_x h_25
          have hry := RW_n hW h_y h_36
          refine jm_ald_n (Y := YX5_copy) (pc := 45) (i := 0) dX5_copy_45 rfl rfl ?_
          refine jm_getR (Y := YX5_copy) (pc := 46) dX5_copy_46 fr_RX5_10 rfl (by decide) rfl ?_
          refine jm_ild_n (Y := YX5_copy) (pc := 49) (i := 1) dX5_copy_49 rfl rfl ?_
          refine jm_ild_n (Y := YX5_copy) (pc := 50) (i := 3) dX5_copy_50 rfl rfl ?_
          refine jm_V2ie (Y := YX5_copy) (pc := 51) dX5_copy_51 lk_RX5_87 ⟨_, rfl⟩ rfl rfl rfl (by decide) (Nat.le_of_ble_eq_true rfl) ⟨by decide, by decide⟩ ((by have h9 := r_oneLane x y h_x h_y M; rw [hrx.2.2.1, hry.2.2.1] at h9; exact h9)) ?_
          refine jm_if_neB (Y := YX5_copy) (pc := 54) dX5_copy_54 rfl (fun h_54 => ?_) (fun h_54 => ?_)
          · refine jm_ald_n (Y := YX5_copy) (pc := 63) (i := 0) dX5_copy_63 rfl rfl ?_
            refine jm_getR (Y := YX5_copy) (pc := 64) dX5_copy_64 fr_RX5_10 rfl (by decide) rfl ?_
            refine jm_ild_n (Y := YX5_copy) (pc := 67) (i := 1) dX5_copy_67 rfl rfl ?_
            refine jm_ild_n (Y := YX5_copy) (pc := 68) (i := 2) dX5_copy_68 rfl rfl ?_
            refine jm_iload (Y := YX5_copy) (pc := 69) dX5_copy_69 rfl ?_
            refine jm_V3ie (Y := YX5_copy) (pc := 71) dX5_copy_71 lk_RX5_79 ⟨_, rfl⟩ rfl rfl rfl rfl (by decide) (Nat.le_of_ble_eq_true rfl) ⟨by decide, by decide⟩ (r_hasPlaces x (mn x) h_x x40 _ _ _ hrx.1) ?_
            refine jm_if_eqB (Y := YX5_copy) (pc := 74) dX5_copy_74 rfl (fun h_74 => ?_) (fun h_74 => ?_)
            · refine jm_ald_n (Y := YX5_copy) (pc := 92) (i := 0) dX5_copy_92 rfl rfl ?_
              refine jm_icN (Y := YX5_copy) (pc := 93) 2 dX5_copy_93 rfl ?_
              refine jm_V1ie (Y := YX5_copy) (pc := 94) dX5_copy_94 lk_RX5_65 ⟨_, rfl⟩ rfl rfl (by decide) (Nat.le_of_ble_eq_true rfl) ⟨by decide, by decide⟩ (w_finding _ _) ?_
              refine jm_ret (Y := YX5_copy) (pc := 97) (st := []) dX5_copy_97 rfl rfl ?_
              first
                | (have e9 : q_copy ln mn a i b j n = 9 := (by unfold q_copy; rw [if_neg (by omega)]); rw [e9]; exact ⟨rfl, rfl⟩)
                | (have e9 : q_copy ln mn (nI x) i (nI y) j n = 1 := (by unfold q_copy; rw [if_pos (by omega), n_x, n_y, if_pos (Or.inl (hwx.mp h_25))]); rw [e9]; exact ⟨rfl, rfl⟩)
                | (have e9 : q_copy ln mn (nI x) i (nI y) j n = 1 := (by unfold q_copy; rw [if_pos (by omega), n_x, n_y, if_pos (Or.inr (hwy.mp h_36))]); rw [e9]; exact ⟨rfl, rfl⟩)
                | (have e9 : q_copy ln mn (nI x) i (nI y) j n = 5 := (by unfold q_copy; rw [if_pos (by omega), n_x, n_y, if_neg (fun z => z.elim hrx.2.1 hry.2.1), if_pos h_54]); rw [e9]; exact ⟨rfl, rfl⟩)
                | (have e9 : q_copy ln mn (nI x) i (nI y) j n = 2 := (by unfold q_copy; rw [if_pos (by omega), n_x, n_y, if_neg (fun z => z.elim hrx.2.1 hry.2.1), if_neg (fun z => z h_54), if_neg (by omega)]); rw [e9]; exact ⟨rfl, rfl⟩)
                | (have e9 : q_copy ln mn (nI x) (nI ii) (nI y) (nI jj) (nI nn) = 0 := (by unfold q_copy; rw [if_pos (by omega), n_x, n_y, if_neg (fun z => z.elim hrx.2.1 hry.2.1), if_neg (fun z => z h_54), if_pos (by omega)]); rw [e9]; rw [n_x, n_y, n_ii, n_jj, n_nn]; exact ⟨rfl, by rw [jm_sf_n _ _ (show 0 ≠ 24 + y by omega)]⟩)
                | fail
            · refine jm_ald_n (Y := YX5_copy) (pc := 77) (i := 0) dX5_copy_77 rfl rfl ?_
              refine jm_getR (Y := YX5_copy) (pc := 78) dX5_copy_78 fr_RX5_10 rfl (by decide) rfl ?_
              refine jm_ild_n (Y := YX5_copy) (pc := 81) (i := 3) dX5_copy_81 rfl rfl ?_
              refine jm_iload (Y := YX5_copy) (pc := 82) dX5_copy_82 rfl ?_
              refine jm_iload (Y := YX5_copy) (pc := 84) dX5_copy_84 rfl ?_
              refine jm_V3ie (Y := YX5_copy) (pc := 86) dX5_copy_86 lk_RX5_79 ⟨_, rfl⟩ rfl rfl rfl rfl (by decide) (Nat.le_of_ble_eq_true rfl) ⟨by decide, by decide⟩ (r_hasPlaces y (mn y) h_y y40 _ _ _ hry.1) ?_
              refine jm_if_neB (Y := YX5_copy) (pc := 89) dX5_copy_89 rfl (fun h_89 => ?_) (fun h_89 => ?_)
              · obtain ⟨ii, h_ii, rfl, t_ii, n_ii⟩ := jm_ofL (v := i) (n := 41) (by omega) (by omega)
                obtain ⟨jj, h_jj, rfl, t_jj, n_jj⟩ := jm_ofL (v := j) (n := 41) (by omega) (by omega)
                obtain ⟨nn, h_nn, rfl, t_nn, n_nn⟩ := jm_ofL (v := n) (n := 41) (by omega) (by omega)
                refine jm_ald_n (Y := YX5_copy) (pc := 98) (i := 0) dX5_copy_98 rfl rfl ?_
                refine jm_getR (Y := YX5_copy) (pc := 99) dX5_copy_99 fr_RX5_10 rfl (by decide) rfl ?_
                refine jm_ild_n (Y := YX5_copy) (pc := 102) (i := 1) dX5_copy_102 rfl rfl ?_
                refine jm_ild_n (Y := YX5_copy) (pc := 103) (i := 2) dX5_copy_103 rfl rfl ?_
                refine jm_ild_n (Y := YX5_copy) (pc := 104) (i := 3) dX5_copy_104 rfl rfl ?_
                refine jm_iload (Y := YX5_copy) (pc := 105) dX5_copy_105 rfl ?_
                refine jm_iload (Y := YX5_copy) (pc := 107) dX5_copy_107 rfl ?_
                refine jm_V5ve (Y := YX5_copy) (pc := 109) dX5_copy_109 lk_RX5_91 rfl rfl rfl rfl rfl rfl rfl (by decide) (Nat.le_of_ble_eq_true rfl) ⟨by decide, by decide⟩ (r_carry x ii y jj nn h_x h_y (by omega) (by omega) _) ?_
                refine jm_ald_n (Y := YX5_copy) (pc := 112) (i := 0) dX5_copy_112 rfl rfl ?_
                refine jm_iload (Y := YX5_copy) (pc := 113) dX5_copy_113 rfl ?_
                refine jm_V1ie (Y := YX5_copy) (pc := 115) dX5_copy_115 lk_RX5_73 ⟨_, rfl⟩ rfl rfl (by decide) (Nat.le_of_ble_eq_true rfl) ⟨by decide, by decide⟩ (w_unfound _ _) ?_
                refine jm_ret (Y := YX5_copy) (pc := 118) (st := []) dX5_copy_118 rfl rfl ?_
                first
                  | (have e9 : q_copy ln mn a i b j n = 9 := (by unfold q_copy; rw [if_neg (by omega)]); rw [e9]; exact ⟨rfl, rfl⟩)
                  | (have e9 : q_copy ln mn (nI x) i (nI y) j n = 1 := (by unfold q_copy; rw [if_pos (by omega), n_x, n_y, if_pos (Or.inl (hwx.mp h_25))]); rw [e9]; exact ⟨rfl, rfl⟩)
                  | (have e9 : q_copy ln mn (nI x) i (nI y) j n = 1 := (by unfold q_copy; rw [if_pos (by omega), n_x, n_y, if_pos (Or.inr (hwy.mp h_36))]); rw [e9]; exact ⟨rfl, rfl⟩)
                  | (have e9 : q_copy ln mn (nI x) i (nI y) j n = 5 := (by unfold q_copy; rw [if_pos (by omega), n_x, n_y, if_neg (fun z => z.elim hrx.2.1 hry.2.1), if_pos h_54]); rw [e9]; exact ⟨rfl, rfl⟩)
                  | (have e9 : q_copy ln mn (nI x) i (nI y) j n = 2 := (by unfold q_copy; rw [if_pos (by omega), n_x, n_y, if_neg (fun z => z.elim hrx.2.1 hry.2.1), if_neg (fun z => z h_54), if_neg (by omega)]); rw [e9]; exact ⟨rfl, rfl⟩)
                  | (have e9 : q_copy ln mn (nI x) (nI ii) (nI y) (nI jj) (nI nn) = 0 := (by unfold q_copy; rw [if_pos (by omega), n_x, n_y, if_neg (fun z => z.elim hrx.2.1 hry.2.1), if_neg (fun z => z h_54), if_pos (by omega)]); rw [e9]; rw [n_x, n_y, n_ii, n_jj, n_nn]; exact ⟨rfl, by rw [jm_sf_n _ _ (show 0 ≠ 24 + y by omega)]⟩)
                  | fail
              · refine jm_ald_n (Y := YX5_copy) (pc := 92) (i := 0) dX5_copy_92 rfl rfl ?_
                refine jm_icN (Y := YX5_copy) (pc := 93) 2 dX5_copy_93 rfl ?_
                refine jm_V1ie (Y := YX5_copy) (pc := 94) dX5_copy_94 lk_RX5_65 ⟨_, rfl⟩ rfl rfl (by decide) (Nat.le_of_ble_eq_true rfl) ⟨by decide, by decide⟩ (w_finding _ _) ?_
                refine jm_ret (Y := YX5_copy) (pc := 97) (st := []) dX5_copy_97 rfl rfl ?_
                first
                  | (have e9 : q_copy ln mn a i b j n = 9 := (by unfold q_copy; rw [if_neg (by omega)]); rw [e9]; exact ⟨rfl, rfl⟩)
                  | (have e9 : q_copy ln mn (nI x) i (nI y) j n = 1 := (by unfold q_copy; rw [if_pos (by omega), n_x, n_y, if_pos (Or.inl (hwx.mp h_25))]); rw [e9]; exact ⟨rfl, rfl⟩)
                  | (have e9 : q_copy ln mn (nI x) i (nI y) j n = 1 := (by unfold q_copy; rw [if_pos (by omega), n_x, n_y, if_pos (Or.inr (hwy.mp h_36))]); rw [e9]; exact ⟨rfl, rfl⟩)
                  | (have e9 : q_copy ln mn (nI x) i (nI y) j n = 5 := (by unfold q_copy; rw [if_pos (by omega), n_x, n_y, if_neg (fun z => z.elim hrx.2.1 hry.2.1), if_pos h_54]); rw [e9]; exact ⟨rfl, rfl⟩)
                  | (have e9 : q_copy ln mn (nI x) i (nI y) j n = 2 := (by unfold q_copy; rw [if_pos (by omega), n_x, n_y, if_neg (fun z => z.elim hrx.2.1 hry.2.1), if_neg (fun z => z h_54), if_neg (by omega)]); rw [e9]; exact ⟨rfl, rfl⟩)
                  | (have e9 : q_copy ln mn (nI x) (nI ii) (nI y) (nI jj) (nI nn) = 0 := (by unfold q_copy; rw [if_pos (by omega), n_x, n_y, if_neg (fun z => z.elim hrx.2.1 hry.2.1), if_neg (fun z => z h_54), if_pos (by omega)]); rw [e9]; rw [n_x, n_y, n_ii, n_jj, n_nn]; exact ⟨rfl, by rw [jm_sf_n _ _ (show 0 ≠ 24 + y by omega)]⟩)
                  | fail
          · refine jm_ald_n (Y := YX5_copy) (pc := 57) (i := 0) dX5_copy_57 rfl rfl ?_
            refine jm_icN (Y := YX5_copy) (pc := 58) 5 dX5_copy_58 rfl ?_
            refine jm_V1ie (Y := YX5_copy) (pc := 59) dX5_copy_59 lk_RX5_65 ⟨_, rfl⟩ rfl rfl (by decide) (Nat.le_of_ble_eq_true rfl) ⟨by decide, by decide⟩ (w_finding _ _) ?_
            refine jm_ret (Y := YX5_copy) (pc := 62) (st := []) dX5_copy_62 rfl rfl ?_
            first
              | (have e9 : q_copy ln mn a i b j n = 9 := (by unfold q_copy; rw [if_neg (by omega)]); rw [e9]; exact ⟨rfl, rfl⟩)
              | (have e9 : q_copy ln mn (nI x) i (nI y) j n = 1 := (by unfold q_copy; rw [if_pos (by omega), n_x, n_y, if_pos (Or.inl (hwx.mp h_25))]); rw [e9]; exact ⟨rfl, rfl⟩)
              | (have e9 : q_copy ln mn (nI x) i (nI y) j n = 1 := (by unfold q_copy; rw [if_pos (by omega), n_x, n_y, if_pos (Or.inr (hwy.mp h_36))]); rw [e9]; exact ⟨rfl, rfl⟩)
              | (have e9 : q_copy ln mn (nI x) i (nI y) j n = 5 := (by unfold q_copy; rw [if_pos (by omega), n_x, n_y, if_neg (fun z => z.elim hrx.2.1 hry.2.1), if_pos h_54]); rw [e9]; exact ⟨rfl, rfl⟩)
              | (have e9 : q_copy ln mn (nI x) i (nI y) j n = 2 := (by unfold q_copy; rw [if_pos (by omega), n_x, n_y, if_neg (fun z => z.elim hrx.2.1 hry.2.1), if_neg (fun z => z h_54), if_neg (by omega)]); rw [e9]; exact ⟨rfl, rfl⟩)
              | (have e9 : q_copy ln mn (nI x) (nI ii) (nI y) (nI jj) (nI nn) = 0 := (by unfold q_copy; rw [if_pos (by omega), n_x, n_y, if_neg (fun z => z.elim hrx.2.1 hry.2.1), if_neg (fun z => z h_54), if_pos (by omega)]); rw [e9]; rw [n_x, n_y, n_ii, n_jj, n_nn]; exact ⟨rfl, by rw [jm_sf_n _ _ (show 0 ≠ 24 + y by omega)]⟩)
              | fail
        · refine jm_ald_n (Y := YX5_copy) (pc := 39) (i := 0) dX5_copy_39 rfl rfl ?_
          refine jm_icN (Y := YX5_copy) (pc := 40) 1 dX5_copy_40 rfl ?_
          refine jm_V1ie (Y := YX5_copy) (pc := 41) dX5_copy_41 lk_RX5_65 ⟨_, rfl⟩ rfl rfl (by decide) (Nat.le_of_ble_eq_true rfl) ⟨by decide, by decide⟩ (w_finding _ _) ?_
          refine jm_ret (Y := YX5_copy) (pc := 44) (st := []) dX5_copy_44 rfl rfl ?_
          first
            | (have e9 : q_copy ln mn a i b j n = 9 := (by unfold q_copy; rw [if_neg (by omega)]); rw [e9]; exact ⟨rfl, rfl⟩)
            | (have e9 : q_copy ln mn (nI x) i (nI y) j n = 1 := (by unfold q_copy; rw [if_pos (by omega), n_x, n_y, if_pos (Or.inl (hwx.mp h_25))]); rw [e9]; exact ⟨rfl, rfl⟩)
            | (have e9 : q_copy ln mn (nI x) i (nI y) j n = 1 := (by unfold q_copy; rw [if_pos (by omega), n_x, n_y, if_pos (Or.inr (hwy.mp h_36))]); rw [e9]; exact ⟨rfl, rfl⟩)
            | (have e9 : q_copy ln mn (nI x) i (nI y) j n = 5 := (by unfold q_copy; rw [if_pos (by omega), n_x, n_y, if_neg (fun z => z.elim hrx.2.1 hry.2.1), if_pos h_54]); rw [e9]; exact ⟨rfl, rfl⟩)
            | (have e9 : q_copy ln mn (nI x) i (nI y) j n = 2 := (by unfold q_copy; rw [if_pos (by omega), n_x, n_y, if_neg (fun z => z.elim hrx.2.1 hry.2.1), if_neg (fun z => z h_54), if_neg (by omega)]); rw [e9]; exact ⟨rfl, rfl⟩)
            | (have e9 : q_copy ln mn (nI x) (nI ii) (nI y) (nI jj) (nI nn) = 0 := (by unfold q_copy; rw [if_pos (by omega), n_x, n_y, if_neg (fun z => z.elim hrx.2.1 hry.2.1), if_neg (fun z => z h_54), if_pos (by omega)]); rw [e9]; rw [n_x, n_y, n_ii, n_jj, n_nn]; exact ⟨rfl, by rw [jm_sf_n _ _ (show 0 ≠ 24 + y by omega)]⟩)
            | fail
    · refine jm_ldc (Y := YX5_copy) (pc := 14) (v := -1000001) dX5_copy_14 kc_RX5_64 ?_
      refine jm_ret (Y := YX5_copy) (pc := 16) (st := []) dX5_copy_16 rfl rfl ?_
      first
        | (have e9 : q_copy ln mn a i b j n = 9 := (by unfold q_copy; rw [if_neg (by omega)]); rw [e9]; exact ⟨rfl, rfl⟩)
        | (have e9 : q_copy ln mn (nI x) i (nI y) j n = 1 := (by unfold q_copy; rw [if_pos (by omega), n_x, n_y, if_pos (Or.inl (hwx.mp h_25))]); rw [e9]; exact ⟨rfl, rfl⟩)
        | (have e9 : q_copy ln mn (nI x) i (nI y) j n = 1 := (by unfold q_copy; rw [if_pos (by omega), n_x, n_y, if_pos (Or.inr (hwy.mp h_36))]); rw [e9]; exact ⟨rfl, rfl⟩)
        | (have e9 : q_copy ln mn (nI x) i (nI y) j n = 5 := (by unfold q_copy; rw [if_pos (by omega), n_x, n_y, if_neg (fun z => z.elim hrx.2.1 hry.2.1), if_pos h_54]); rw [e9]; exact ⟨rfl, rfl⟩)
        | (have e9 : q_copy ln mn (nI x) i (nI y) j n = 2 := (by unfold q_copy; rw [if_pos (by omega), n_x, n_y, if_neg (fun z => z.elim hrx.2.1 hry.2.1), if_neg (fun z => z h_54), if_neg (by omega)]); rw [e9]; exact ⟨rfl, rfl⟩)
        | (have e9 : q_copy ln mn (nI x) (nI ii) (nI y) (nI jj) (nI nn) = 0 := (by unfold q_copy; rw [if_pos (by omega), n_x, n_y, if_neg (fun z => z.elim hrx.2.1 hry.2.1), if_neg (fun z => z h_54), if_pos (by omega)]); rw [e9]; rw [n_x, n_y, n_ii, n_jj, n_nn]; exact ⟨rfl, by rw [jm_sf_n _ _ (show 0 ≠ 24 + y by omega)]⟩)
        | fail
