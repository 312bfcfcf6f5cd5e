/-! the reference: images, rows, tape, asks, counts -/
theorem c_isRiver_M (w : Nat → Nat) (M : jm_M) (hM : M 17 = jm_n w) (hg : rG w) : jm_J none YX6_isRiver 0 [some (.ref 11)] [] M (jm_is (some (.int (jm_b (0 < w 2)))) M) := c_isRiver w M hM hg
theorem c_image (w im : Nat → Nat) (M : jm_M) (hM : M 17 = jm_n w) (hI : M 21 = jm_n im) (hg : rG w) (v : Int32) : jm_J none YX6_image 0 [some (.ref 11), some (.int v)] [] M (fun o M1 => if 0 ≤ v.toInt ∧ v.toInt ≤ 1 then (if w 2 = 0 then o = some (.int (-1000002)) ∧ M1 = M else o = some (.int (nI 1)) ∧ M1 = jm_sf (jm_sf M 21 (jm_n (p_cp w im 0 (45 * v.toInt.toNat) 45))) 22 (upd (M 22) v.toInt.toNat (nI 1))) else o = some (.int (-1000001)) ∧ M1 = M) := by
  refine jm_ild_n (Y := YX6_image) (pc := 0) (i := 1) dX6_image_0 rfl rfl ?_
  refine jm_icN (Y := YX6_image) (pc := 1) 0 dX6_image_1 rfl ?_
  refine jm_icN (Y := YX6_image) (pc := 2) 1 dX6_image_2 rfl ?_
  refine jm_S3ie (Y := YX6_image) (pc := 3) dX6_image_3 lk_RX6_53 ⟨_, rfl⟩ rfl rfl rfl (by decide) (Nat.le_of_ble_eq_true rfl) ⟨by decide, by decide⟩ (c_inN _ _ _ _ (by decide) (by decide)) ?_
  refine jm_if_neB (Y := YX6_image) (pc := 6) dX6_image_6 rfl (fun h_6 => ?_) (fun h_6 => ?_)
  · obtain ⟨k, h_k, rfl, t_k, n_k⟩ := jm_ofL (v := v) (n := 2) (by omega) (by omega)
    refine jm_ald_n (Y := YX6_image) (pc := 12) (i := 0) dX6_image_12 rfl rfl ?_
    refine jm_V0ie (Y := YX6_image) (pc := 13) dX6_image_13 lk_RX6_161 ⟨_, rfl⟩ rfl (by decide) (Nat.le_of_ble_eq_true rfl) ⟨by decide, by decide⟩ (c_isRiver w M hM hg) ?_
    refine jm_if_neB (Y := YX6_image) (pc := 16) dX6_image_16 rfl (fun h_16 => ?_) (fun h_16 => ?_)
    · refine jm_ald_n (Y := YX6_image) (pc := 22) (i := 0) dX6_image_22 rfl rfl ?_
      refine jm_getR (Y := YX6_image) (pc := 23) dX6_image_23 fr_RX6_25 rfl (by decide) rfl ?_
      refine jm_icN (Y := YX6_image) (pc := 26) 0 dX6_image_26 rfl ?_
      refine jm_ald_n (Y := YX6_image) (pc := 27) (i := 0) dX6_image_27 rfl rfl ?_
      refine jm_getR (Y := YX6_image) (pc := 28) dX6_image_28 fr_RX6_37 rfl (by decide) rfl ?_
      refine jm_bpN (Y := YX6_image) (pc := 31) 45 dX6_image_31 rfl ?_
      refine jm_ild_n (Y := YX6_image) (pc := 33) (i := 1) dX6_image_33 rfl rfl ?_
      refine jm_mulN (Y := YX6_image) (pc := 34) dX6_image_34 ?_
      refine jm_S4ve (Y := YX6_image) (pc := 35) dX6_image_35 lk_RX6_135 rfl rfl rfl rfl rfl (by decide) (Nat.le_of_ble_eq_true rfl) ⟨by decide, by decide⟩ (c_copies 17 21 45 90 0 (45 * k) w im M rfl rfl (by decide) hM hI (by decide) (by omega)) ?_
      refine jm_ald_n (Y := YX6_image) (pc := 38) (i := 0) dX6_image_38 rfl rfl ?_
      refine jm_getR (Y := YX6_image) (pc := 39) dX6_image_39 fr_RX6_40 rfl (by decide) rfl ?_
      refine jm_ild_n (Y := YX6_image) (pc := 42) (i := 1) dX6_image_42 rfl rfl ?_
      refine jm_icN (Y := YX6_image) (pc := 43) 1 dX6_image_43 rfl ?_
      refine jm_zasN (Y := YX6_image) (pc := 44) dX6_image_44 (by first | assumption | exact jm_arR1 ha | exact jm_arR2 ha | exact jm_arR3 ha | exact jm_arR1 hb | exact jm_arR2 hb | exact jm_arR3 hb | rfl) (by omega) rfl ?_
      refine jm_icN (Y := YX6_image) (pc := 45) 1 dX6_image_45 rfl ?_
      refine jm_ret (Y := YX6_image) (pc := 46) (st := []) dX6_image_46 rfl rfl ?_
      first | (rw [if_neg (by omega)]; exact ⟨rfl, rfl⟩) | (rw [if_pos (by omega), if_pos (by omega)]; exact ⟨rfl, rfl⟩) | (rw [if_pos (by omega), if_neg (by omega), n_k]; exact ⟨rfl, rfl⟩) | fail
    · refine jm_ldc (Y := YX6_image) (pc := 19) (v := -1000002) dX6_image_19 kc_RX6_164 ?_
      refine jm_ret (Y := YX6_image) (pc := 21) (st := []) dX6_image_21 rfl rfl ?_
      first | (rw [if_neg (by omega)]; exact ⟨rfl, rfl⟩) | (rw [if_pos (by omega), if_pos (by omega)]; exact ⟨rfl, rfl⟩) | (rw [if_pos (by omega), if_neg (by omega), n_k]; exact ⟨rfl, rfl⟩) | fail
  · refine jm_ldc (Y := YX6_image) (pc := 9) (v := -1000001) dX6_image_9 kc_RX6_61 ?_
    refine jm_ret (Y := YX6_image) (pc := 11) (st := []) dX6_image_11 rfl rfl ?_
    first | (rw [if_neg (by omega)]; exact ⟨rfl, rfl⟩) | (rw [if_pos (by omega), if_pos (by omega)]; exact ⟨rfl, rfl⟩) | (rw [if_pos (by omega), if_neg (by omega), n_k]; exact ⟨rfl, rfl⟩) | fail
theorem c_restore (w im : Nat → Nat) (M : jm_M) (hM : M 17 = jm_n w) (hI : M 21 = jm_n im) (kp : Nat → Bool) (hk : ∀ k, k < 2 → M 22 k = jm_b (kp k = true)) (v : Int32) : jm_J none YX6_restore 0 [some (.ref 11), some (.int v)] [] M (fun o M1 => if 0 ≤ v.toInt ∧ v.toInt ≤ 1 then (if kp v.toInt.toNat = true then o = some (.int (nI 1)) ∧ M1 = jm_sf (jm_sf M 17 (jm_n (p_cp im w (45 * v.toInt.toNat) 0 45))) 11 (upd (M 11) 17 (nI 0)) else o = some (.int (-1000002)) ∧ M1 = M) else o = some (.int (-1000001)) ∧ M1 = M) := by
  refine jm_ild_n (Y := YX6_restore) (pc := 0) (i := 1) dX6_restore_0 rfl rfl ?_
  refine jm_icN (Y := YX6_restore) (pc := 1) 0 dX6_restore_1 rfl ?_
  refine jm_icN (Y := YX6_restore) (pc := 2) 1 dX6_restore_2 rfl ?_
  refine jm_S3ie (Y := YX6_restore) (pc := 3) dX6_restore_3 lk_RX6_53 ⟨_, rfl⟩ rfl rfl rfl (by decide) (Nat.le_of_ble_eq_true rfl) ⟨by decide, by decide⟩ (c_inN _ _ _ _ (by decide) (by decide)) ?_
  refine jm_if_neB (Y := YX6_restore) (pc := 6) dX6_restore_6 rfl (fun h_6 => ?_) (fun h_6 => ?_)
  · obtain ⟨k, h_k, rfl, t_k, n_k⟩ := jm_ofL (v := v) (n := 2) (by omega) (by omega)
    refine jm_ald_n (Y := YX6_restore) (pc := 12) (i := 0) dX6_restore_12 rfl rfl ?_
    refine jm_getR (Y := YX6_restore) (pc := 13) dX6_restore_13 fr_RX6_40 rfl (by decide) rfl ?_
    refine jm_ild_n (Y := YX6_restore) (pc := 16) (i := 1) dX6_restore_16 rfl rfl ?_
    refine jm_zalN (Y := YX6_restore) (pc := 17) dX6_restore_17 (by first | assumption | exact jm_arR1 ha | exact jm_arR2 ha | exact jm_arR3 ha | exact jm_arR1 hb | exact jm_arR2 hb | exact jm_arR3 hb | rfl) (by omega) (hk k (by omega)) ?_
    refine jm_if_neB (Y := YX6_restore) (pc := 18) dX6_restore_18 rfl (fun h_18 => ?_) (fun h_18 => ?_)
    · refine jm_ald_n (Y := YX6_restore) (pc := 24) (i := 0) dX6_restore_24 rfl rfl ?_
      refine jm_getR (Y := YX6_restore) (pc := 25) dX6_restore_25 fr_RX6_37 rfl (by decide) rfl ?_
      refine jm_bpN (Y := YX6_restore) (pc := 28) 45 dX6_restore_28 rfl ?_
      refine jm_ild_n (Y := YX6_restore) (pc := 30) (i := 1) dX6_restore_30 rfl rfl ?_
      refine jm_mulN (Y := YX6_restore) (pc := 31) dX6_restore_31 ?_
      refine jm_ald_n (Y := YX6_restore) (pc := 32) (i := 0) dX6_restore_32 rfl rfl ?_
      refine jm_getR (Y := YX6_restore) (pc := 33) dX6_restore_33 fr_RX6_25 rfl (by decide) rfl ?_
      refine jm_icN (Y := YX6_restore) (pc := 36) 0 dX6_restore_36 rfl ?_
      refine jm_S4ve (Y := YX6_restore) (pc := 37) dX6_restore_37 lk_RX6_135 rfl rfl rfl rfl rfl (by decide) (Nat.le_of_ble_eq_true rfl) ⟨by decide, by decide⟩ (c_copies 21 17 90 45 (45 * k) 0 im w M rfl rfl (by decide) hI hM (by omega) (by decide)) ?_
      refine jm_ald_n (Y := YX6_restore) (pc := 40) (i := 0) dX6_restore_40 rfl rfl ?_
      refine jm_icN (Y := YX6_restore) (pc := 41) 0 dX6_restore_41 rfl ?_
      refine jm_put (Y := YX6_restore) (pc := 42) dX6_restore_42 fw_RX6_139 rfl (by decide) rfl ?_
      refine jm_icN (Y := YX6_restore) (pc := 45) 1 dX6_restore_45 rfl ?_
      refine jm_ret (Y := YX6_restore) (pc := 46) (st := []) dX6_restore_46 rfl rfl ?_
      first | (rw [if_neg (by omega)]; exact ⟨rfl, rfl⟩) | (rw [if_pos (by omega), n_k, if_neg h_18]; exact ⟨rfl, rfl⟩) | (rw [if_pos (by omega), n_k, if_pos h_18]; exact ⟨rfl, rfl⟩) | fail
    · refine jm_ldc (Y := YX6_restore) (pc := 21) (v := -1000002) dX6_restore_21 kc_RX6_164 ?_
      refine jm_ret (Y := YX6_restore) (pc := 23) (st := []) dX6_restore_23 rfl rfl ?_
      first | (rw [if_neg (by omega)]; exact ⟨rfl, rfl⟩) | (rw [if_pos (by omega), n_k, if_neg h_18]; exact ⟨rfl, rfl⟩) | (rw [if_pos (by omega), n_k, if_pos h_18]; exact ⟨rfl, rfl⟩) | fail
  · refine jm_ldc (Y := YX6_restore) (pc := 9) (v := -1000001) dX6_restore_9 kc_RX6_61 ?_
    refine jm_ret (Y := YX6_restore) (pc := 11) (st := []) dX6_restore_11 rfl rfl ?_
    first | (rw [if_neg (by omega)]; exact ⟨rfl, rfl⟩) | (rw [if_pos (by omega), n_k, if_neg h_18]; exact ⟨rfl, rfl⟩) | (rw [if_pos (by omega), n_k, if_pos h_18]; exact ⟨rfl, rfl⟩) | fail
def p_zr (f : Nat → Int32) (a n : Nat) : Nat → Int32 := fun j => if a ≤ j ∧ j < a + n then nI 0 else f j
theorem p_zr_0 (f : Nat → Int32) (a : Nat) : p_zr f a 0 = f := by funext j; unfold p_zr; rw [if_neg (by omega)]
theorem p_zr_s (f : Nat → Int32) (a n : Nat) : upd (p_zr f a n) (a + n) (nI 0) = p_zr f a (n + 1) := by
  funext j
  unfold p_zr
  by_cases h : j = a + n
  · subst h; rw [upd_s, if_pos (by omega)]
  · rw [upd_n _ _ h]
    by_cases h2 : a ≤ j ∧ j < a + n
    · rw [if_pos h2, if_pos (by omega)]
    · rw [if_neg h2, if_neg (by omega)]
def q_row (r l n : Int32) : Prop := 0 ≤ r.toInt ∧ r.toInt ≤ 7 ∧ 0 ≤ l.toInt ∧ l.toInt ≤ 2 ∧ n.toInt ≤ 40
theorem c_row0 (M0 : jm_M) (k : Nat) (l : Int32) (n : Nat) (hk : k < 8) (hn : n ≤ 40) : ∀ (m : Nat) (j : Nat), j ≤ 40 → 40 - j < m → jm_J none YX6_row 52 [some (.ref 11), some (.int (nI k)), some (.int l), some (.int (nI n)), some (.int (nI j))] [] (jm_sf M0 14 (p_zr (M0 14) (40 * k) j)) (jm_is (some (.int (nI n))) (jm_sf (jm_sf M0 14 (p_zr (M0 14) (40 * k) 40)) 11 (upd (M0 11) 4 (nI 0)))) := by
  intro m
  induction m with
  | zero => intros; omega
  | succ m ih =>
    intro j hj hmm
    refine jm_iload (Y := YX6_row) (pc := 52) dX6_row_52 rfl ?_
    refine jm_bpN (Y := YX6_row) (pc := 54) 40 dX6_row_54 rfl ?_
    refine jm_icmp_geN (Y := YX6_row) (pc := 56) dX6_row_56 rfl (by omega) (by omega) (fun h_56 => ?_) (fun h_56 => ?_)
    · refine jm_ald_n (Y := YX6_row) (pc := 78) (i := 0) dX6_row_78 rfl rfl ?_
      refine jm_ild_n (Y := YX6_row) (pc := 79) (i := 3) dX6_row_79 rfl rfl ?_
      refine jm_V1ie (Y := YX6_row) (pc := 80) dX6_row_80 lk_RX6_66 ⟨_, rfl⟩ rfl rfl (by decide) (Nat.le_of_ble_eq_true rfl) ⟨by decide, by decide⟩ (c_well _ _) ?_
      refine jm_ret (Y := YX6_row) (pc := 83) (st := []) dX6_row_83 rfl rfl ?_
      have ej : j = 40 := by omega
      subst ej
      exact ⟨rfl, rfl⟩
    · refine jm_ald_n (Y := YX6_row) (pc := 59) (i := 0) dX6_row_59 rfl rfl ?_
      refine jm_getR (Y := YX6_row) (pc := 60) dX6_row_60 fr_RX6_16 rfl (by decide) rfl ?_
      refine jm_bpN (Y := YX6_row) (pc := 63) 40 dX6_row_63 rfl ?_
      refine jm_ild_n (Y := YX6_row) (pc := 65) (i := 1) dX6_row_65 rfl rfl ?_
      refine jm_mulN (Y := YX6_row) (pc := 66) dX6_row_66 ?_
      refine jm_iload (Y := YX6_row) (pc := 67) dX6_row_67 rfl ?_
      refine jm_addN (Y := YX6_row) (pc := 69) dX6_row_69 ?_
      refine jm_icN (Y := YX6_row) (pc := 70) 0 dX6_row_70 rfl ?_
      refine jm_iasN (Y := YX6_row) (pc := 71) dX6_row_71 rfl (by omega) ?_
      rw [jm_sf_s, p_zr_s, jm_sfsf]
      refine jm_incN (Y := YX6_row) (pc := 72) (m := 1) (ls' := [_, _, _, _, _]) dX6_row_72 rfl rfl rfl rfl ?_
      refine jm_goto (Y := YX6_row) (pc := 75) dX6_row_75 rfl ?_
      exact ih (j + 1) (by omega) (by omega)
theorem c_row (M : jm_M) (r l n : Int32) : jm_J none YX6_row 0 [some (.ref 11), some (.int r), some (.int l), some (.int n), none] [] M (fun o M1 => (q_row r l n → (n.toInt < 0 → o = some (.int (-1000014)) ∧ M1 = jm_sf M 11 (upd (M 11) 4 (nI 4))) ∧ (¬ n.toInt < 0 → o = some (.int n) ∧ M1 = jm_sf (jm_sf (jm_sf (jm_sf M 12 (upd (M 12) r.toInt.toNat l)) 13 (upd (M 13) r.toInt.toNat n)) 14 (p_zr (M 14) (40 * r.toInt.toNat) 40)) 11 (upd (M 11) 4 (nI 0)))) ∧ (¬ q_row r l n → o = some (.int (-1000001)) ∧ M1 = M)) := by
  refine jm_ild_n (Y := YX6_row) (pc := 0) (i := 1) dX6_row_0 rfl rfl ?_
  refine jm_S1ie (Y := YX6_row) (pc := 1) dX6_row_1 lk_RX6_57 ⟨_, rfl⟩ rfl (by decide) (Nat.le_of_ble_eq_true rfl) ⟨by decide, by decide⟩ (c_isRowN _ _) ?_
  refine jm_if_eqB (Y := YX6_row) (pc := 4) dX6_row_4 rfl (fun h_4 => ?_) (fun h_4 => ?_)
  · refine jm_ldc (Y := YX6_row) (pc := 22) (v := -1000001) dX6_row_22 kc_RX6_61 ?_
    refine jm_ret (Y := YX6_row) (pc := 24) (st := []) dX6_row_24 rfl rfl ?_
    first
      | exact ⟨fun q => absurd q (by unfold q_row; omega), fun _ => ⟨rfl, rfl⟩⟩
      | exact ⟨fun q => absurd q (by unfold q_row; intro z; exact h_19 (Int32.le_iff_toInt_le.mpr (by rw [jm_tI (by decide)]; omega))), fun _ => ⟨rfl, rfl⟩⟩
      | exact ⟨fun q => ⟨fun _ => ⟨rfl, rfl⟩, fun z => absurd (jm_lt0.mp (i_lt h_26)) z⟩, fun z => absurd (by have := Int32.le_iff_toInt_le.mp h_19; rw [jm_tI (by decide)] at this; unfold q_row; omega) z⟩
  · refine jm_ild_n (Y := YX6_row) (pc := 7) (i := 2) dX6_row_7 rfl rfl ?_
    refine jm_icN (Y := YX6_row) (pc := 8) 0 dX6_row_8 rfl ?_
    refine jm_icN (Y := YX6_row) (pc := 9) 2 dX6_row_9 rfl ?_
    refine jm_S3ie (Y := YX6_row) (pc := 10) dX6_row_10 lk_RX6_53 ⟨_, rfl⟩ rfl rfl rfl (by decide) (Nat.le_of_ble_eq_true rfl) ⟨by decide, by decide⟩ (c_inN _ _ _ _ (by decide) (by decide)) ?_
    refine jm_if_eqB (Y := YX6_row) (pc := 13) dX6_row_13 rfl (fun h_13 => ?_) (fun h_13 => ?_)
    · refine jm_ldc (Y := YX6_row) (pc := 22) (v := -1000001) dX6_row_22 kc_RX6_61 ?_
      refine jm_ret (Y := YX6_row) (pc := 24) (st := []) dX6_row_24 rfl rfl ?_
      first
        | exact ⟨fun q => absurd q (by unfold q_row; omega), fun _ => ⟨rfl, rfl⟩⟩
        | exact ⟨fun q => absurd q (by unfold q_row; intro z; exact h_19 (Int32.le_iff_toInt_le.mpr (by rw [jm_tI (by decide)]; omega))), fun _ => ⟨rfl, rfl⟩⟩
        | exact ⟨fun q => ⟨fun _ => ⟨rfl, rfl⟩, fun z => absurd (jm_lt0.mp (i_lt h_26)) z⟩, fun z => absurd (by have := Int32.le_iff_toInt_le.mp h_19; rw [jm_tI (by decide)] at this; unfold q_row; omega) z⟩
    · refine jm_ild_n (Y := YX6_row) (pc := 16) (i := 3) dX6_row_16 rfl rfl ?_
      refine jm_bpN (Y := YX6_row) (pc := 17) 40 dX6_row_17 rfl ?_
      refine jm_icmp_le (Y := YX6_row) (pc := 19) dX6_row_19 rfl (fun h_19 => ?_) (fun h_19 => ?_)
      · refine jm_ild_n (Y := YX6_row) (pc := 25) (i := 3) dX6_row_25 rfl rfl ?_
        refine jm_if_ge (Y := YX6_row) (pc := 26) dX6_row_26 rfl (fun h_26 => ?_) (fun h_26 => ?_)
        · have hn0 : ¬ n.toInt < 0 := fun z => Int32.not_lt.mpr h_26 (jm_lt0.mpr z)
          have hn4 : n.toInt ≤ 40 := (by have := Int32.le_iff_toInt_le.mp h_19; rw [jm_tI (by decide)] at this; omega)
          obtain ⟨k, h_k, rfl, t_k, n_k⟩ := jm_ofL (v := r) (n := 8) (by omega) (by omega)
          obtain ⟨nn, h_nn, rfl, t_nn, n_nn⟩ := jm_ofL (v := n) (n := 41) (by omega) (by omega)
          refine jm_ald_n (Y := YX6_row) (pc := 35) (i := 0) dX6_row_35 rfl rfl ?_
          refine jm_getR (Y := YX6_row) (pc := 36) dX6_row_36 fr_RX6_7 rfl (by decide) rfl ?_
          refine jm_ild_n (Y := YX6_row) (pc := 39) (i := 1) dX6_row_39 rfl rfl ?_
          refine jm_ild_n (Y := YX6_row) (pc := 40) (i := 2) dX6_row_40 rfl rfl ?_
          refine jm_iasN (Y := YX6_row) (pc := 41) dX6_row_41 rfl (by omega) ?_
          refine jm_ald_n (Y := YX6_row) (pc := 42) (i := 0) dX6_row_42 rfl rfl ?_
          refine jm_getR (Y := YX6_row) (pc := 43) dX6_row_43 fr_RX6_13 rfl (by decide) rfl ?_
          refine jm_ild_n (Y := YX6_row) (pc := 46) (i := 1) dX6_row_46 rfl rfl ?_
          refine jm_ild_n (Y := YX6_row) (pc := 47) (i := 3) dX6_row_47 rfl rfl ?_
          refine jm_iasN (Y := YX6_row) (pc := 48) dX6_row_48 rfl (by omega) ?_
          refine jm_icN (Y := YX6_row) (pc := 49) 0 dX6_row_49 rfl ?_
          refine jm_ist (Y := YX6_row) (pc := 50) (ls' := [_, _, _, _, _]) dX6_row_50 (Nat.le_of_ble_eq_true rfl) rfl rfl ?_
          have h9 := c_row0 (jm_sf (jm_sf M 12 (upd (M 12) k l)) 13 (upd (M 13) k (nI nn))) k l nn (by omega) (by omega) 41 0 (by omega) (by omega)
          rw [p_zr_0, jm_sfid rfl] at h9
          refine jm_wk (Y := YX6_row) (pc := 52) h9 (fun o M1 q => ?_)
          obtain ⟨rfl, rfl⟩ := q
          exact ⟨fun _ => ⟨fun z => absurd z hn0, fun _ => ⟨rfl, by rw [n_k]; rfl⟩⟩, fun z => absurd (by unfold q_row; omega) z⟩
        · refine jm_ald_n (Y := YX6_row) (pc := 29) (i := 0) dX6_row_29 rfl rfl ?_
          refine jm_icN (Y := YX6_row) (pc := 30) 4 dX6_row_30 rfl ?_
          refine jm_V1ie (Y := YX6_row) (pc := 31) dX6_row_31 lk_RX6_62 ⟨_, rfl⟩ rfl rfl (by decide) (Nat.le_of_ble_eq_true rfl) ⟨by decide, by decide⟩ (c_found _ _) ?_
          refine jm_ret (Y := YX6_row) (pc := 34) (st := []) dX6_row_34 rfl rfl ?_
          first
            | exact ⟨fun q => absurd q (by unfold q_row; omega), fun _ => ⟨rfl, rfl⟩⟩
            | exact ⟨fun q => absurd q (by unfold q_row; intro z; exact h_19 (Int32.le_iff_toInt_le.mpr (by rw [jm_tI (by decide)]; omega))), fun _ => ⟨rfl, rfl⟩⟩
            | exact ⟨fun q => ⟨fun _ => ⟨rfl, rfl⟩, fun z => absurd (jm_lt0.mp (i_lt h_26)) z⟩, fun z => absurd (by have := Int32.le_iff_toInt_le.mp h_19; rw [jm_tI (by decide)] at this; unfold q_row; omega) z⟩
      · refine jm_ldc (Y := YX6_row) (pc := 22) (v := -1000001) dX6_row_22 kc_RX6_61 ?_
        refine jm_ret (Y := YX6_row) (pc := 24) (st := []) dX6_row_24 rfl rfl ?_
        first
          | exact ⟨fun q => absurd q (by unfold q_row; omega), fun _ => ⟨rfl, rfl⟩⟩
          | exact ⟨fun q => absurd q (by unfold q_row; intro z; exact h_19 (Int32.le_iff_toInt_le.mpr (by rw [jm_tI (by decide)]; omega))), fun _ => ⟨rfl, rfl⟩⟩
          | exact ⟨fun q => ⟨fun _ => ⟨rfl, rfl⟩, fun z => absurd (jm_lt0.mp (i_lt h_26)) z⟩, fun z => absurd (by have := Int32.le_iff_toInt_le.mp h_19; rw [jm_tI (by decide)] at this; unfold q_row; omega) z⟩
theorem c_set (M : jm_M) (mn : Nat → Nat) (h13 : ∀ r, r < 8 → M 13 r = nI (mn r)) (h40 : ∀ r, r < 8 → mn r ≤ 40) (r i v : Int32) : jm_J none YX6_set 0 [some (.ref 11), some (.int r), some (.int i), some (.int v)] [] M (fun o M1 => if 0 ≤ r.toInt ∧ r.toInt ≤ 7 then (if M 12 r.toInt.toNat = -1000000 then o = some (.int (-1000011)) ∧ M1 = jm_sf M 11 (upd (M 11) 4 (nI 1)) else if 0 ≤ i.toInt ∧ i.toInt < mn r.toInt.toNat then o = some (.int (p_cut (M 12 r.toInt.toNat) v)) ∧ M1 = jm_sf (jm_sf M 14 (upd (M 14) (40 * r.toInt.toNat + i.toInt.toNat) (p_cut (M 12 r.toInt.toNat) v))) 11 (upd (M 11) 4 (nI 0)) else o = some (.int (-1000012)) ∧ M1 = jm_sf M 11 (upd (M 11) 4 (nI 2))) else o = some (.int (-1000001)) ∧ M1 = M) := by
  refine jm_ild_n (Y := YX6_set) (pc := 0) (i := 1) dX6_set_0 rfl rfl ?_
  refine jm_S1ie (Y := YX6_set) (pc := 1) dX6_set_1 lk_RX6_57 ⟨_, rfl⟩ rfl (by decide) (Nat.le_of_ble_eq_true rfl) ⟨by decide, by decide⟩ (c_isRowN _ _) ?_
  refine jm_if_neB (Y := YX6_set) (pc := 4) dX6_set_4 rfl (fun h_4 => ?_) (fun h_4 => ?_)
  · obtain ⟨k, h_k, rfl, t_k, n_k⟩ := jm_ofL (v := r) (n := 8) (by omega) (by omega)
    have e13 := h13 k (by omega)
    have e40 := h40 k (by omega)
    refine jm_ald_n (Y := YX6_set) (pc := 10) (i := 0) dX6_set_10 rfl rfl ?_
    refine jm_ild_n (Y := YX6_set) (pc := 11) (i := 1) dX6_set_11 rfl rfl ?_
    refine jm_V1ie (Y := YX6_set) (pc := 12) dX6_set_12 lk_RX6_69 ⟨_, rfl⟩ rfl rfl (by decide) (Nat.le_of_ble_eq_true rfl) ⟨by decide, by decide⟩ (c_isMissing _ _ (by omega)) ?_
    refine jm_if_eqB (Y := YX6_set) (pc := 15) dX6_set_15 rfl (fun h_15 => ?_) (fun h_15 => ?_)
    · refine jm_ild_n (Y := YX6_set) (pc := 24) (i := 2) dX6_set_24 rfl rfl ?_
      refine jm_icN (Y := YX6_set) (pc := 25) 0 dX6_set_25 rfl ?_
      refine jm_ald_n (Y := YX6_set) (pc := 26) (i := 0) dX6_set_26 rfl rfl ?_
      refine jm_getR (Y := YX6_set) (pc := 27) dX6_set_27 fr_RX6_13 rfl (by decide) rfl ?_
      refine jm_ild_n (Y := YX6_set) (pc := 30) (i := 1) dX6_set_30 rfl rfl ?_
      refine jm_ialN (Y := YX6_set) (pc := 31) dX6_set_31 (by first | assumption | exact jm_arR1 ha | exact jm_arR2 ha | exact jm_arR3 ha | exact jm_arR1 hb | exact jm_arR2 hb | exact jm_arR3 hb | rfl) (by omega) (e13) ?_
      refine jm_icN (Y := YX6_set) (pc := 32) 1 dX6_set_32 rfl ?_
      refine jm_isub (Y := YX6_set) (pc := 33) dX6_set_33 ?_
      refine jm_S3ie (Y := YX6_set) (pc := 34) dX6_set_34 lk_RX6_53 ⟨_, rfl⟩ rfl rfl rfl (by decide) (Nat.le_of_ble_eq_true rfl) ⟨by decide, by decide⟩ ((by have h9 := c_in i (nI 0) (nI (mn k) - nI 1) M; rw [jm_b_c (jm_inI (show mn k < 2147483648 by omega))] at h9; exact h9)) ?_
      refine jm_if_neB (Y := YX6_set) (pc := 37) dX6_set_37 rfl (fun h_37 => ?_) (fun h_37 => ?_)
      · obtain ⟨j, h_j, rfl, t_j, n_j⟩ := jm_ofL (v := i) (n := mn k) (by omega) (by omega)
        refine jm_ald_n (Y := YX6_set) (pc := 46) (i := 0) dX6_set_46 rfl rfl ?_
        refine jm_getR (Y := YX6_set) (pc := 47) dX6_set_47 fr_RX6_16 rfl (by decide) rfl ?_
        refine jm_bpN (Y := YX6_set) (pc := 50) 40 dX6_set_50 rfl ?_
        refine jm_ild_n (Y := YX6_set) (pc := 52) (i := 1) dX6_set_52 rfl rfl ?_
        refine jm_mulN (Y := YX6_set) (pc := 53) dX6_set_53 ?_
        refine jm_ild_n (Y := YX6_set) (pc := 54) (i := 2) dX6_set_54 rfl rfl ?_
        refine jm_addN (Y := YX6_set) (pc := 55) dX6_set_55 ?_
        refine jm_ald_n (Y := YX6_set) (pc := 56) (i := 0) dX6_set_56 rfl rfl ?_
        refine jm_getR (Y := YX6_set) (pc := 57) dX6_set_57 fr_RX6_7 rfl (by decide) rfl ?_
        refine jm_ild_n (Y := YX6_set) (pc := 60) (i := 1) dX6_set_60 rfl rfl ?_
        refine jm_ialN (Y := YX6_set) (pc := 61) dX6_set_61 (by first | assumption | exact jm_arR1 ha | exact jm_arR2 ha | exact jm_arR3 ha | exact jm_arR1 hb | exact jm_arR2 hb | exact jm_arR3 hb | rfl) (by omega) (by first | assumption | rfl) ?_
        refine jm_ild_n (Y := YX6_set) (pc := 62) (i := 3) dX6_set_62 rfl rfl ?_
        refine jm_S2ie (Y := YX6_set) (pc := 63) dX6_set_63 lk_RX6_72 ⟨_, rfl⟩ rfl rfl (by decide) (Nat.le_of_ble_eq_true rfl) ⟨by decide, by decide⟩ (c_cut _ _ _) ?_
        refine jm_iasN (Y := YX6_set) (pc := 66) dX6_set_66 rfl (by omega) ?_
        refine jm_ald_n (Y := YX6_set) (pc := 67) (i := 0) dX6_set_67 rfl rfl ?_
        refine jm_ald_n (Y := YX6_set) (pc := 68) (i := 0) dX6_set_68 rfl rfl ?_
        refine jm_getR (Y := YX6_set) (pc := 69) dX6_set_69 fr_RX6_16 rfl (by decide) rfl ?_
        refine jm_bpN (Y := YX6_set) (pc := 72) 40 dX6_set_72 rfl ?_
        refine jm_ild_n (Y := YX6_set) (pc := 74) (i := 1) dX6_set_74 rfl rfl ?_
        refine jm_mulN (Y := YX6_set) (pc := 75) dX6_set_75 ?_
        refine jm_ild_n (Y := YX6_set) (pc := 76) (i := 2) dX6_set_76 rfl rfl ?_
        refine jm_addN (Y := YX6_set) (pc := 77) dX6_set_77 ?_
        refine jm_ialN (Y := YX6_set) (pc := 78) dX6_set_78 (by first | assumption | exact jm_arR1 ha | exact jm_arR2 ha | exact jm_arR3 ha | exact jm_arR1 hb | exact jm_arR2 hb | exact jm_arR3 hb | rfl) (by omega) (by rw [jm_sf_s, upd_s]) ?_
        refine jm_V1ie (Y := YX6_set) (pc := 79) dX6_set_79 lk_RX6_66 ⟨_, rfl⟩ rfl rfl (by decide) (Nat.le_of_ble_eq_true rfl) ⟨by decide, by decide⟩ (c_well _ _) ?_
        refine jm_ret (Y := YX6_set) (pc := 82) (st := []) dX6_set_82 rfl rfl ?_
        first | (rw [if_neg (by omega)]; exact ⟨rfl, rfl⟩) | (rw [if_pos (by omega), n_k, if_pos h_15]; exact ⟨rfl, rfl⟩) | (rw [if_pos (by omega), n_k, if_neg h_15, if_neg (by omega)]; exact ⟨rfl, rfl⟩) | (rw [if_pos (by omega), n_k, if_neg h_15, if_pos (by omega), n_j]; exact ⟨rfl, rfl⟩) | fail
      · refine jm_ald_n (Y := YX6_set) (pc := 40) (i := 0) dX6_set_40 rfl rfl ?_
        refine jm_icN (Y := YX6_set) (pc := 41) 2 dX6_set_41 rfl ?_
        refine jm_V1ie (Y := YX6_set) (pc := 42) dX6_set_42 lk_RX6_62 ⟨_, rfl⟩ rfl rfl (by decide) (Nat.le_of_ble_eq_true rfl) ⟨by decide, by decide⟩ (c_found _ _) ?_
        refine jm_ret (Y := YX6_set) (pc := 45) (st := []) dX6_set_45 rfl rfl ?_
        first | (rw [if_neg (by omega)]; exact ⟨rfl, rfl⟩) | (rw [if_pos (by omega), n_k, if_pos h_15]; exact ⟨rfl, rfl⟩) | (rw [if_pos (by omega), n_k, if_neg h_15, if_neg (by omega)]; exact ⟨rfl, rfl⟩) | (rw [if_pos (by omega), n_k, if_neg h_15, if_pos (by omega), n_j]; exact ⟨rfl, rfl⟩) | fail
    · refine jm_ald_n (Y := YX6_set) (pc := 18) (i := 0) dX6_set_18 rfl rfl ?_
      refine jm_icN (Y := YX6_set) (pc := 19) 1 dX6_set_19 rfl ?_
      refine jm_V1ie (Y := YX6_set) (pc := 20) dX6_set_20 lk_RX6_62 ⟨_, rfl⟩ rfl rfl (by decide) (Nat.le_of_ble_eq_true rfl) ⟨by decide, by decide⟩ (c_found _ _) ?_
      refine jm_ret (Y := YX6_set) (pc := 23) (st := []) dX6_set_23 rfl rfl ?_
      first | (rw [if_neg (by omega)]; exact ⟨rfl, rfl⟩) | (rw [if_pos (by omega), n_k, if_pos h_15]; exact ⟨rfl, rfl⟩) | (rw [if_pos (by omega), n_k, if_neg h_15, if_neg (by omega)]; exact ⟨rfl, rfl⟩) | (rw [if_pos (by omega), n_k, if_neg h_15, if_pos (by omega), n_j]; exact ⟨rfl, rfl⟩) | fail
  · refine jm_ldc (Y := YX6_set) (pc := 7) (v := -1000001) dX6_set_7 kc_RX6_61 ?_
    refine jm_ret (Y := YX6_set) (pc := 9) (st := []) dX6_set_9 rfl rfl ?_
    first | (rw [if_neg (by omega)]; exact ⟨rfl, rfl⟩) | (rw [if_pos (by omega), n_k, if_pos h_15]; exact ⟨rfl, rfl⟩) | (rw [if_pos (by omega), n_k, if_neg h_15, if_neg (by omega)]; exact ⟨rfl, rfl⟩) | (rw [if_pos (by omega), n_k, if_neg h_15, if_pos (by omega), n_j]; exact ⟨rfl, rfl⟩) | fail
theorem c_drop (M : jm_M) (mn : Nat → Nat) (h13 : ∀ r, r < 8 → M 13 r = nI (mn r)) (h40 : ∀ r, r < 8 → mn r ≤ 40) (r : Int32) : jm_J none YX6_drop 0 [some (.ref 11), some (.int r)] [] M (fun o M1 => if 0 ≤ r.toInt ∧ r.toInt ≤ 7 then (if M 12 r.toInt.toNat = -1000000 then o = some (.int (-1000011)) ∧ M1 = jm_sf M 11 (upd (M 11) 4 (nI 1)) else o = some (.int (nI (mn r.toInt.toNat))) ∧ M1 = jm_sf (jm_sf M 12 (upd (M 12) r.toInt.toNat (-1000000))) 11 (upd (M 11) 4 (nI 0))) else o = some (.int (-1000001)) ∧ M1 = M) := by
  refine jm_ild_n (Y := YX6_drop) (pc := 0) (i := 1) dX6_drop_0 rfl rfl ?_
  refine jm_S1ie (Y := YX6_drop) (pc := 1) dX6_drop_1 lk_RX6_57 ⟨_, rfl⟩ rfl (by decide) (Nat.le_of_ble_eq_true rfl) ⟨by decide, by decide⟩ (c_isRowN _ _) ?_
  refine jm_if_neB (Y := YX6_drop) (pc := 4) dX6_drop_4 rfl (fun h_4 => ?_) (fun h_4 => ?_)
  · obtain ⟨k, h_k, rfl, t_k, n_k⟩ := jm_ofL (v := r) (n := 8) (by omega) (by omega)
    have e13 := h13 k (by omega)
    refine jm_ald_n (Y := YX6_drop) (pc := 10) (i := 0) dX6_drop_10 rfl rfl ?_
    refine jm_ild_n (Y := YX6_drop) (pc := 11) (i := 1) dX6_drop_11 rfl rfl ?_
    refine jm_V1ie (Y := YX6_drop) (pc := 12) dX6_drop_12 lk_RX6_69 ⟨_, rfl⟩ rfl rfl (by decide) (Nat.le_of_ble_eq_true rfl) ⟨by decide, by decide⟩ (c_isMissing _ _ (by omega)) ?_
    refine jm_if_eqB (Y := YX6_drop) (pc := 15) dX6_drop_15 rfl (fun h_15 => ?_) (fun h_15 => ?_)
    · refine jm_ald_n (Y := YX6_drop) (pc := 24) (i := 0) dX6_drop_24 rfl rfl ?_
      refine jm_getR (Y := YX6_drop) (pc := 25) dX6_drop_25 fr_RX6_7 rfl (by decide) rfl ?_
      refine jm_ild_n (Y := YX6_drop) (pc := 28) (i := 1) dX6_drop_28 rfl rfl ?_
      refine jm_ldc (Y := YX6_drop) (pc := 29) (v := -1000000) dX6_drop_29 kc_RX6_47 ?_
      refine jm_iasN (Y := YX6_drop) (pc := 31) dX6_drop_31 rfl (by omega) ?_
      refine jm_ald_n (Y := YX6_drop) (pc := 32) (i := 0) dX6_drop_32 rfl rfl ?_
      refine jm_ald_n (Y := YX6_drop) (pc := 33) (i := 0) dX6_drop_33 rfl rfl ?_
      refine jm_getR (Y := YX6_drop) (pc := 34) dX6_drop_34 fr_RX6_13 rfl (by decide) rfl ?_
      refine jm_ild_n (Y := YX6_drop) (pc := 37) (i := 1) dX6_drop_37 rfl rfl ?_
      refine jm_ialN (Y := YX6_drop) (pc := 38) dX6_drop_38 (by first | assumption | exact jm_arR1 ha | exact jm_arR2 ha | exact jm_arR3 ha | exact jm_arR1 hb | exact jm_arR2 hb | exact jm_arR3 hb | rfl) (by omega) (show _ = nI (mn k) from e13) ?_
      refine jm_V1ie (Y := YX6_drop) (pc := 39) dX6_drop_39 lk_RX6_66 ⟨_, rfl⟩ rfl rfl (by decide) (Nat.le_of_ble_eq_true rfl) ⟨by decide, by decide⟩ (c_well _ _) ?_
      refine jm_ret (Y := YX6_drop) (pc := 42) (st := []) dX6_drop_42 rfl rfl ?_
      first | (rw [if_neg (by omega)]; exact ⟨rfl, rfl⟩) | (rw [if_pos (by omega), n_k, if_pos h_15]; exact ⟨rfl, rfl⟩) | (rw [if_pos (by omega), n_k, if_neg h_15]; exact ⟨rfl, rfl⟩) | fail
    · refine jm_ald_n (Y := YX6_drop) (pc := 18) (i := 0) dX6_drop_18 rfl rfl ?_
      refine jm_icN (Y := YX6_drop) (pc := 19) 1 dX6_drop_19 rfl ?_
      refine jm_V1ie (Y := YX6_drop) (pc := 20) dX6_drop_20 lk_RX6_62 ⟨_, rfl⟩ rfl rfl (by decide) (Nat.le_of_ble_eq_true rfl) ⟨by decide, by decide⟩ (c_found _ _) ?_
      refine jm_ret (Y := YX6_drop) (pc := 23) (st := []) dX6_drop_23 rfl rfl ?_
      first | (rw [if_neg (by omega)]; exact ⟨rfl, rfl⟩) | (rw [if_pos (by omega), n_k, if_pos h_15]; exact ⟨rfl, rfl⟩) | (rw [if_pos (by omega), n_k, if_neg h_15]; exact ⟨rfl, rfl⟩) | fail
  · refine jm_ldc (Y := YX6_drop) (pc := 7) (v := -1000001) dX6_drop_7 kc_RX6_61 ?_
    refine jm_ret (Y := YX6_drop) (pc := 9) (st := []) dX6_drop_9 rfl rfl ?_
    first | (rw [if_neg (by omega)]; exact ⟨rfl, rfl⟩) | (rw [if_pos (by omega), n_k, if_pos h_15]; exact ⟨rfl, rfl⟩) | (rw [if_pos (by omega), n_k, if_neg h_15]; exact ⟨rfl, rfl⟩) | fail
theorem va_cpy_0 (f g : Nat → Int32) (a b : Nat) : va_cpy f g a b 0 = g := by funext x; unfold va_cpy; rw [if_neg (by omega)]
theorem va_cpy_s (f g : Nat → Int32) (a b n : Nat) : upd (va_cpy f g a b n) (b + n) (f (a + n)) = va_cpy f g a b (n + 1) := by
  funext x
  unfold va_cpy
  by_cases h : x = b + n
  · subst h
    rw [upd_s, if_pos (by omega)]
    congr 1
    omega
  · rw [upd_n _ _ h]
    by_cases h2 : b ≤ x ∧ x < b + n
    · rw [if_pos h2, if_pos (by omega)]
    · rw [if_neg h2, if_neg (by omega)]
theorem va_cpy_2 (f h : Nat → Int32) (a b n : Nat) : va_cpy (va_cpy f h a 0 n) f 0 b n = va_cpy f f a b n := by
  funext x
  unfold va_cpy
  by_cases h2 : b ≤ x ∧ x < b + n
  · rw [if_pos h2, if_pos h2, if_pos (by omega)]
    congr 1
    omega
  · rw [if_neg h2, if_neg h2]
theorem c_copyB (M0 : jm_M) (a i b j n : Nat) (ha : a < 8) (hb : b < 8) (hi : i + n ≤ 40) (hj : j + n ≤ 40) : ∀ (m : Nat) (k : Nat), k ≤ n → n - k < m → jm_J none YX6_copy 129 [some (.ref 11), some (.int (nI a)), some (.int (nI i)), some (.int (nI b)), some (.int (nI j)), some (.int (nI n)), some (.int (nI k))] [] (jm_sf M0 14 (va_cpy (M0 15) (M0 14) 0 (40 * b + j) k)) (jm_is (some (.int (nI n))) (jm_sf (jm_sf M0 14 (va_cpy (M0 15) (M0 14) 0 (40 * b + j) n)) 11 (upd (M0 11) 4 (nI 0)))) := by
  intro m
  induction m with
  | zero => intros; omega
  | succ m ih =>
    intro k hk hmm
    refine jm_iload (Y := YX6_copy) (pc := 129) dX6_copy_129 rfl ?_
    refine jm_iload (Y := YX6_copy) (pc := 131) dX6_copy_131 rfl ?_
    refine jm_icmp_geN (Y := YX6_copy) (pc := 133) dX6_copy_133 rfl (by omega) (by omega) (fun h_133 => ?_) (fun h_133 => ?_)
    · refine jm_ald_n (Y := YX6_copy) (pc := 164) (i := 0) dX6_copy_164 rfl rfl ?_
      refine jm_iload (Y := YX6_copy) (pc := 165) dX6_copy_165 rfl ?_
      refine jm_V1ie (Y := YX6_copy) (pc := 167) dX6_copy_167 lk_RX6_66 ⟨_, rfl⟩ rfl rfl (by decide) (Nat.le_of_ble_eq_true rfl) ⟨by decide, by decide⟩ (c_well _ _) ?_
      refine jm_ret (Y := YX6_copy) (pc := 170) (st := []) dX6_copy_170 rfl rfl ?_
      have ek : k = n := by omega
      subst ek
      exact ⟨rfl, rfl⟩
    · refine jm_ald_n (Y := YX6_copy) (pc := 136) (i := 0) dX6_copy_136 rfl rfl ?_
      refine jm_getR (Y := YX6_copy) (pc := 137) dX6_copy_137 fr_RX6_16 rfl (by decide) rfl ?_
      refine jm_bpN (Y := YX6_copy) (pc := 140) 40 dX6_copy_140 rfl ?_
      refine jm_ild_n (Y := YX6_copy) (pc := 142) (i := 3) dX6_copy_142 rfl rfl ?_
      refine jm_mulN (Y := YX6_copy) (pc := 143) dX6_copy_143 ?_
      refine jm_iload (Y := YX6_copy) (pc := 144) dX6_copy_144 rfl ?_
      refine jm_addN (Y := YX6_copy) (pc := 146) dX6_copy_146 ?_
      refine jm_iload (Y := YX6_copy) (pc := 147) dX6_copy_147 rfl ?_
      refine jm_addN (Y := YX6_copy) (pc := 149) dX6_copy_149 ?_
      refine jm_ald_n (Y := YX6_copy) (pc := 150) (i := 0) dX6_copy_150 rfl rfl ?_
      refine jm_getR (Y := YX6_copy) (pc := 151) dX6_copy_151 fr_RX6_19 rfl (by decide) rfl ?_
      refine jm_iload (Y := YX6_copy) (pc := 154) dX6_copy_154 rfl ?_
      refine jm_ialN (Y := YX6_copy) (pc := 156) dX6_copy_156 (by first | assumption | exact jm_arR1 ha | exact jm_arR2 ha | exact jm_arR3 ha | exact jm_arR1 hb | exact jm_arR2 hb | exact jm_arR3 hb | rfl) (by omega) (show _ = M0 15 k from rfl) ?_
      refine jm_iasN (Y := YX6_copy) (pc := 157) dX6_copy_157 rfl (by omega) ?_
      rw [jm_sf_s, show M0 15 k = M0 15 (0 + k) by rw [Nat.zero_add], va_cpy_s, jm_sfsf]
      refine jm_incN (Y := YX6_copy) (pc := 158) (m := 1) (ls' := [_, _, _, _, _, _, _]) dX6_copy_158 rfl rfl rfl rfl ?_
      refine jm_goto (Y := YX6_copy) (pc := 161) dX6_copy_161 rfl ?_
      exact ih (k + 1) (by omega) (by omega)
theorem c_copyA (M0 : jm_M) (a i b j n : Nat) (ha : a < 8) (hb : b < 8) (hi : i + n ≤ 40) (hj : j + n ≤ 40) (Q : Option Value → jm_M → Prop) (K : ∀ y, jm_J none YX6_copy 126 [some (.ref 11), some (.int (nI a)), some (.int (nI i)), some (.int (nI b)), some (.int (nI j)), some (.int (nI n)), y] [] (jm_sf M0 15 (va_cpy (M0 14) (M0 15) (40 * a + i) 0 n)) Q) : ∀ (m : Nat) (k : Nat), k ≤ n → n - k < m → jm_J none YX6_copy 92 [some (.ref 11), some (.int (nI a)), some (.int (nI i)), some (.int (nI b)), some (.int (nI j)), some (.int (nI n)), some (.int (nI k))] [] (jm_sf M0 15 (va_cpy (M0 14) (M0 15) (40 * a + i) 0 k)) Q := by
  intro m
  induction m with
  | zero => intros; omega
  | succ m ih =>
    intro k hk hmm
    refine jm_iload (Y := YX6_copy) (pc := 92) dX6_copy_92 rfl ?_
    refine jm_iload (Y := YX6_copy) (pc := 94) dX6_copy_94 rfl ?_
    refine jm_icmp_geN (Y := YX6_copy) (pc := 96) dX6_copy_96 rfl (by omega) (by omega) (fun h_96 => ?_) (fun h_96 => ?_)
    · have ek : k = n := by omega
      subst ek
      exact K _
    · refine jm_ald_n (Y := YX6_copy) (pc := 99) (i := 0) dX6_copy_99 rfl rfl ?_
      refine jm_getR (Y := YX6_copy) (pc := 100) dX6_copy_100 fr_RX6_19 rfl (by decide) rfl ?_
      refine jm_iload (Y := YX6_copy) (pc := 103) dX6_copy_103 rfl ?_
      refine jm_ald_n (Y := YX6_copy) (pc := 105) (i := 0) dX6_copy_105 rfl rfl ?_
      refine jm_getR (Y := YX6_copy) (pc := 106) dX6_copy_106 fr_RX6_16 rfl (by decide) rfl ?_
      refine jm_bpN (Y := YX6_copy) (pc := 109) 40 dX6_copy_109 rfl ?_
      refine jm_ild_n (Y := YX6_copy) (pc := 111) (i := 1) dX6_copy_111 rfl rfl ?_
      refine jm_mulN (Y := YX6_copy) (pc := 112) dX6_copy_112 ?_
      refine jm_ild_n (Y := YX6_copy) (pc := 113) (i := 2) dX6_copy_113 rfl rfl ?_
      refine jm_addN (Y := YX6_copy) (pc := 114) dX6_copy_114 ?_
      refine jm_iload (Y := YX6_copy) (pc := 115) dX6_copy_115 rfl ?_
      refine jm_addN (Y := YX6_copy) (pc := 117) dX6_copy_117 ?_
      refine jm_ialN (Y := YX6_copy) (pc := 118) dX6_copy_118 (by first | assumption | exact jm_arR1 ha | exact jm_arR2 ha | exact jm_arR3 ha | exact jm_arR1 hb | exact jm_arR2 hb | exact jm_arR3 hb | rfl) (by omega) (show _ = M0 14 (40 * a + i + k) from rfl) ?_
      refine jm_iasN (Y := YX6_copy) (pc := 119) dX6_copy_119 rfl (by omega) ?_
      rw [jm_sf_s, show upd (va_cpy (M0 14) (M0 15) (40 * a + i) 0 k) k (M0 14 (40 * a + i + k)) = upd (va_cpy (M0 14) (M0 15) (40 * a + i) 0 k) (0 + k) (M0 14 (40 * a + i + k)) by rw [Nat.zero_add], va_cpy_s, jm_sfsf]
      refine jm_incN (Y := YX6_copy) (pc := 120) (m := 1) (ls' := [_, _, _, _, _, _, _]) dX6_copy_120 rfl rfl rfl rfl ?_
      refine jm_goto (Y := YX6_copy) (pc := 123) dX6_copy_123 rfl ?_
      exact ih (k + 1) (by omega) (by omega)
def q_copy (ln : Nat → Int32) (mn : Nat → Nat) (a i b j n : Int32) : Nat :=
  if 0 ≤ a.toInt ∧ a.toInt ≤ 7 ∧ 0 ≤ b.toInt ∧ b.toInt ≤ 7 then
    (if ln a.toInt.toNat = -1000000 ∨ ln b.toInt.toNat = -1000000 then 1
     else if ¬ ln a.toInt.toNat = ln b.toInt.toNat then 5
     else if 0 ≤ i.toInt ∧ 0 ≤ n.toInt ∧ i.toInt + n.toInt ≤ mn a.toInt.toNat ∧ 0 ≤ j.toInt ∧ j.toInt + n.toInt ≤ mn b.toInt.toNat then 0 else 2)
  else 9
theorem c_copy (M : jm_M) (mn : Nat → Nat) (h13 : ∀ r, r < 8 → M 13 r = nI (mn r)) (h40 : ∀ r, r < 8 → mn r ≤ 40) (a i b j n : Int32) : jm_J none YX6_copy 0 [some (.ref 11), some (.int a), some (.int i), some (.int b), some (.int j), some (.int n), none] [] M (fun o M1 => match q_copy (M 12) mn a i b j n with | 0 => o = some (.int n) ∧ M1 = jm_sf (jm_sf (jm_sf M 15 (va_cpy (M 14) (M 15) (40 * a.toInt.toNat + i.toInt.toNat) 0 n.toInt.toNat)) 14 (va_cpy (M 14) (M 14) (40 * a.toInt.toNat + i.toInt.toNat) (40 * b.toInt.toNat + j.toInt.toNat) n.toInt.toNat)) 11 (upd (M 11) 4 (nI 0)) | 9 => o = some (.int (-1000001)) ∧ M1 = M | z => o = some (.int (-1000010 - nI z)) ∧ M1 = jm_sf M 11 (upd (M 11) 4 (nI z))) := by
  refine jm_ild_n (Y := YX6_copy) (pc := 0) (i := 1) dX6_copy_0 rfl rfl ?_
  refine jm_S1ie (Y := YX6_copy) (pc := 1) dX6_copy_1 lk_RX6_57 ⟨_, rfl⟩ rfl (by decide) (Nat.le_of_ble_eq_true rfl) ⟨by decide, by decide⟩ (c_isRowN _ _) ?_
  refine jm_if_eqB (Y := YX6_copy) (pc := 4) dX6_copy_4 rfl (fun h_4 => ?_) (fun h_4 => ?_)
  · refine jm_ldc (Y := YX6_copy) (pc := 14) (v := -1000001) dX6_copy_14 kc_RX6_61 ?_
    refine jm_ret (Y := YX6_copy) (pc := 16) (st := []) dX6_copy_16 rfl rfl ?_
    first
      | (have e9 : q_copy (M 12) mn a i b j n = 9 := (by unfold q_copy; rw [if_neg (by omega)]); rw [e9]; exact ⟨rfl, rfl⟩)
      | (have e9 : q_copy (M 12) mn (nI x) i (nI y) j n = 1 := (by unfold q_copy; rw [if_pos (by omega), n_x, n_y, if_pos (Or.inl h_22)]); rw [e9]; exact ⟨rfl, rfl⟩)
      | (have e9 : q_copy (M 12) mn (nI x) i (nI y) j n = 1 := (by unfold q_copy; rw [if_pos (by omega), n_x, n_y, if_pos (Or.inr h_30)]); rw [e9]; exact ⟨rfl, rfl⟩)
      | (have e9 : q_copy (M 12) mn (nI x) i (nI y) j n = 5 := (by unfold q_copy; rw [if_pos (by omega), n_x, n_y, if_neg (fun z => z.elim h_22 h_30), if_pos h_51]); rw [e9]; exact ⟨rfl, rfl⟩)
      | (have e9 : q_copy (M 12) mn (nI x) i (nI y) j n = 2 := (by unfold q_copy; rw [if_pos (by omega), n_x, n_y, if_neg (fun z => z.elim h_22 h_30), if_neg (fun z => z h_51), if_neg (by omega)]); rw [e9]; exact ⟨rfl, rfl⟩)
      | fail
  · refine jm_ild_n (Y := YX6_copy) (pc := 7) (i := 3) dX6_copy_7 rfl rfl ?_
    refine jm_S1ie (Y := YX6_copy) (pc := 8) dX6_copy_8 lk_RX6_57 ⟨_, rfl⟩ rfl (by decide) (Nat.le_of_ble_eq_true rfl) ⟨by decide, by decide⟩ (c_isRowN _ _) ?_
    refine jm_if_neB (Y := YX6_copy) (pc := 11) dX6_copy_11 rfl (fun h_11 => ?_) (fun h_11 => ?_)
    · obtain ⟨x, h_x, rfl, t_x, n_x⟩ := jm_ofL (v := a) (n := 8) (by omega) (by omega)
      obtain ⟨y, h_y, rfl, t_y, n_y⟩ := jm_ofL (v := b) (n := 8) (by omega) (by omega)
      have e13 := h13 x (by omega)
      have e40 := h40 x (by omega)
      have f13 := h13 y (by omega)
      have f40 := h40 y (by omega)
      refine jm_ald_n (Y := YX6_copy) (pc := 17) (i := 0) dX6_copy_17 rfl rfl ?_
      refine jm_ild_n (Y := YX6_copy) (pc := 18) (i := 1) dX6_copy_18 rfl rfl ?_
      refine jm_V1ie (Y := YX6_copy) (pc := 19) dX6_copy_19 lk_RX6_69 ⟨_, rfl⟩ rfl rfl (by decide) (Nat.le_of_ble_eq_true rfl) ⟨by decide, by decide⟩ (c_isMissing _ _ (by omega)) ?_
      refine jm_if_neB (Y := YX6_copy) (pc := 22) dX6_copy_22 rfl (fun h_22 => ?_) (fun h_22 => ?_)
      · refine jm_ald_n (Y := YX6_copy) (pc := 33) (i := 0) dX6_copy_33 rfl rfl ?_
        refine jm_icN (Y := YX6_copy) (pc := 34) 1 dX6_copy_34 rfl ?_
        refine jm_V1ie (Y := YX6_copy) (pc := 35) dX6_copy_35 lk_RX6_62 ⟨_, rfl⟩ rfl rfl (by decide) (Nat.le_of_ble_eq_true rfl) ⟨by decide, by decide⟩ (c_found _ _) ?_
        refine jm_ret (Y := YX6_copy) (pc := 38) (st := []) dX6_copy_38 rfl rfl ?_
        first
          | (have e9 : q_copy (M 12) mn a i b j n = 9 := (by unfold q_copy; rw [if_neg (by omega)]); rw [e9]; exact ⟨rfl, rfl⟩)
          | (have e9 : q_copy (M 12) mn (nI x) i (nI y) j n = 1 := (by unfold q_copy; rw [if_pos (by omega), n_x, n_y, if_pos (Or.inl h_22)]); rw [e9]; exact ⟨rfl, rfl⟩)
          | (have e9 : q_copy (M 12) mn (nI x) i (nI y) j n = 1 := (by unfold q_copy; rw [if_pos (by omega), n_x, n_y, if_pos (Or.inr h_30)]); rw [e9]; exact ⟨rfl, rfl⟩)
          | (have e9 : q_copy (M 12) mn (nI x) i (nI y) j n = 5 := (by unfold q_copy; rw [if_pos (by omega), n_x, n_y, if_neg (fun z => z.elim h_22 h_30), if_pos h_51]); rw [e9]; exact ⟨rfl, rfl⟩)
          | (have e9 : q_copy (M 12) mn (nI x) i (nI y) j n = 2 := (by unfold q_copy; rw [if_pos (by omega), n_x, n_y, if_neg (fun z => z.elim h_22 h_30), if_neg (fun z => z h_51), if_neg (by omega)]); rw [e9]; exact ⟨rfl, rfl⟩)
          | fail
      · refine jm_ald_n (Y := YX6_copy) (pc := 25) (i := 0) dX6_copy_25 rfl rfl ?_
        refine jm_ild_n (Y := YX6_copy) (pc := 26) (i := 3) dX6_copy_26 rfl rfl ?_
        refine jm_V1ie (Y := YX6_copy) (pc := 27) dX6_copy_27 lk_RX6_69 ⟨_, rfl⟩ rfl rfl (by decide) (Nat.le_of_ble_eq_true rfl) ⟨by decide, by decide⟩ (c_isMissing _ _ (by omega)) ?_
        refine jm_if_eqB (Y := YX6_copy) (pc := 30) dX6_copy_30 rfl (fun h_30 => ?_) (fun h_30 => ?_)
        · refine jm_ald_n (Y := YX6_copy) (pc := 39) (i := 0) dX6_copy_39 rfl rfl ?_
          refine jm_getR (Y := YX6_copy) (pc := 40) dX6_copy_40 fr_RX6_7 rfl (by decide) rfl ?_
          refine jm_ild_n (Y := YX6_copy) (pc := 43) (i := 1) dX6_copy_43 rfl rfl ?_
          refine jm_ialN (Y := YX6_copy) (pc := 44) dX6_copy_44 (by first | assumption | exact jm_arR1 ha | exact jm_arR2 ha | exact jm_arR3 ha | exact jm_arR1 hb | exact jm_arR2 hb | exact jm_arR3 hb | rfl) (by omega) (by first | assumption | rfl) ?_
          refine jm_ald_n (Y := YX6_copy) (pc := 45) (i := 0) dX6_copy_45 rfl rfl ?_
          refine jm_getR (Y := YX6_copy) (pc := 46) dX6_copy_46 fr_RX6_7 rfl (by decide) rfl ?_
          refine jm_ild_n (Y := YX6_copy) (pc := 49) (i := 3) dX6_copy_49 rfl rfl ?_
          refine jm_ialN (Y := YX6_copy) (pc := 50) dX6_copy_50 (by first | assumption | exact jm_arR1 ha | exact jm_arR2 ha | exact jm_arR3 ha | exact jm_arR1 hb | exact jm_arR2 hb | exact jm_arR3 hb | rfl) (by omega) (by first | assumption | rfl) ?_
          refine jm_icmp_eq (Y := YX6_copy) (pc := 51) dX6_copy_51 rfl (fun h_51 => ?_) (fun h_51 => ?_)
          · refine jm_ald_n (Y := YX6_copy) (pc := 60) (i := 0) dX6_copy_60 rfl rfl ?_
            refine jm_ild_n (Y := YX6_copy) (pc := 61) (i := 1) dX6_copy_61 rfl rfl ?_
            refine jm_ild_n (Y := YX6_copy) (pc := 62) (i := 2) dX6_copy_62 rfl rfl ?_
            refine jm_iload (Y := YX6_copy) (pc := 63) dX6_copy_63 rfl ?_
            refine jm_V3ie (Y := YX6_copy) (pc := 65) dX6_copy_65 lk_RX6_76 ⟨_, rfl⟩ rfl rfl rfl rfl (by decide) (Nat.le_of_ble_eq_true rfl) ⟨by decide, by decide⟩ (c_isPart _ _ x (mn x) _ (by omega) e13 e40) ?_
            refine jm_if_eqB (Y := YX6_copy) (pc := 68) dX6_copy_68 rfl (fun h_68 => ?_) (fun h_68 => ?_)
            · refine jm_ald_n (Y := YX6_copy) (pc := 83) (i := 0) dX6_copy_83 rfl rfl ?_
              refine jm_icN (Y := YX6_copy) (pc := 84) 2 dX6_copy_84 rfl ?_
              refine jm_V1ie (Y := YX6_copy) (pc := 85) dX6_copy_85 lk_RX6_62 ⟨_, rfl⟩ rfl rfl (by decide) (Nat.le_of_ble_eq_true rfl) ⟨by decide, by decide⟩ (c_found _ _) ?_
              refine jm_ret (Y := YX6_copy) (pc := 88) (st := []) dX6_copy_88 rfl rfl ?_
              first
                | (have e9 : q_copy (M 12) mn a i b j n = 9 := (by unfold q_copy; rw [if_neg (by omega)]); rw [e9]; exact ⟨rfl, rfl⟩)
                | (have e9 : q_copy (M 12) mn (nI x) i (nI y) j n = 1 := (by unfold q_copy; rw [if_pos (by omega), n_x, n_y, if_pos (Or.inl h_22)]); rw [e9]; exact ⟨rfl, rfl⟩)
                | (have e9 : q_copy (M 12) mn (nI x) i (nI y) j n = 1 := (by unfold q_copy; rw [if_pos (by omega), n_x, n_y, if_pos (Or.inr h_30)]); rw [e9]; exact ⟨rfl, rfl⟩)
                | (have e9 : q_copy (M 12) mn (nI x) i (nI y) j n = 5 := (by unfold q_copy; rw [if_pos (by omega), n_x, n_y, if_neg (fun z => z.elim h_22 h_30), if_pos h_51]); rw [e9]; exact ⟨rfl, rfl⟩)
                | (have e9 : q_copy (M 12) mn (nI x) i (nI y) j n = 2 := (by unfold q_copy; rw [if_pos (by omega), n_x, n_y, if_neg (fun z => z.elim h_22 h_30), if_neg (fun z => z h_51), if_neg (by omega)]); rw [e9]; exact ⟨rfl, rfl⟩)
                | fail
            · refine jm_ald_n (Y := YX6_copy) (pc := 71) (i := 0) dX6_copy_71 rfl rfl ?_
              refine jm_ild_n (Y := YX6_copy) (pc := 72) (i := 3) dX6_copy_72 rfl rfl ?_
              refine jm_iload (Y := YX6_copy) (pc := 73) dX6_copy_73 rfl ?_
              refine jm_iload (Y := YX6_copy) (pc := 75) dX6_copy_75 rfl ?_
              refine jm_V3ie (Y := YX6_copy) (pc := 77) dX6_copy_77 lk_RX6_76 ⟨_, rfl⟩ rfl rfl rfl rfl (by decide) (Nat.le_of_ble_eq_true rfl) ⟨by decide, by decide⟩ (c_isPart _ _ y (mn y) _ (by omega) f13 f40) ?_
              refine jm_if_neB (Y := YX6_copy) (pc := 80) dX6_copy_80 rfl (fun h_80 => ?_) (fun h_80 => ?_)
              · obtain ⟨ii, h_ii, rfl, t_ii, n_ii⟩ := jm_ofL (v := i) (n := 41) (by omega) (by omega)
                obtain ⟨jj, h_jj, rfl, t_jj, n_jj⟩ := jm_ofL (v := j) (n := 41) (by omega) (by omega)
                obtain ⟨nn, h_nn, rfl, t_nn, n_nn⟩ := jm_ofL (v := n) (n := 41) (by omega) (by omega)
                refine jm_icN (Y := YX6_copy) (pc := 89) 0 dX6_copy_89 rfl ?_
                refine jm_ist (Y := YX6_copy) (pc := 90) (ls' := [_, _, _, _, _, _, _]) dX6_copy_90 (Nat.le_of_ble_eq_true rfl) rfl rfl ?_
                have e9 : q_copy (M 12) mn (nI x) (nI ii) (nI y) (nI jj) (nI nn) = 0 := (by unfold q_copy; rw [if_pos (by omega), n_x, n_y, if_neg (fun z => z.elim h_22 h_30), if_neg (fun z => z h_51), if_pos (by omega)])
                rw [e9, n_x, n_y, n_ii, n_jj, n_nn]
                have h9 : (∀ y9, jm_J none YX6_copy 126 [some (.ref 11), some (.int (nI x)), some (.int (nI ii)), some (.int (nI y)), some (.int (nI jj)), some (.int (nI nn)), y9] [] (jm_sf M 15 (va_cpy (M 14) (M 15) (40 * x + ii) 0 nn)) _) → _ := fun K => c_copyA M x ii y jj nn (by omega) (by omega) (by omega) (by omega) (fun o M1 => o = some (.int (nI nn)) ∧ M1 = jm_sf (jm_sf (jm_sf M 15 (va_cpy (M 14) (M 15) (40 * x + ii) 0 nn)) 14 (va_cpy (M 14) (M 14) (40 * x + ii) (40 * y + jj) nn)) 11 (upd (M 11) 4 (nI 0))) K (nn + 1) 0 (by omega) (by omega)
                rw [va_cpy_0, jm_sfid rfl] at h9
                refine h9 (fun y9 => ?_)
                refine jm_icN (Y := YX6_copy) (pc := 126) 0 dX6_copy_126 rfl ?_
                refine jm_ist (Y := YX6_copy) (pc := 127) (ls' := [_, _, _, _, _, _, _]) dX6_copy_127 (Nat.le_of_ble_eq_true rfl) rfl rfl ?_
                have h8 := c_copyB (jm_sf M 15 (va_cpy (M 14) (M 15) (40 * x + ii) 0 nn)) x ii y jj nn (by omega) (by omega) (by omega) (by omega) (nn + 1) 0 (by omega) (by omega)
                rw [va_cpy_0, jm_sfid (show jm_sf M 15 (va_cpy (M 14) (M 15) (40 * x + ii) 0 nn) 14 = jm_sf M 15 (va_cpy (M 14) (M 15) (40 * x + ii) 0 nn) 14 from rfl), jm_sf_s, show jm_sf M 15 (va_cpy (M 14) (M 15) (40 * x + ii) 0 nn) 14 = M 14 from rfl, va_cpy_2] at h8
                exact h8
              · refine jm_ald_n (Y := YX6_copy) (pc := 83) (i := 0) dX6_copy_83 rfl rfl ?_
                refine jm_icN (Y := YX6_copy) (pc := 84) 2 dX6_copy_84 rfl ?_
                refine jm_V1ie (Y := YX6_copy) (pc := 85) dX6_copy_85 lk_RX6_62 ⟨_, rfl⟩ rfl rfl (by decide) (Nat.le_of_ble_eq_true rfl) ⟨by decide, by decide⟩ (c_found _ _) ?_
                refine jm_ret (Y := YX6_copy) (pc := 88) (st := []) dX6_copy_88 rfl rfl ?_
                first
                  | (have e9 : q_copy (M 12) mn a i b j n = 9 := (by unfold q_copy; rw [if_neg (by omega)]); rw [e9]; exact ⟨rfl, rfl⟩)
                  | (have e9 : q_copy (M 12) mn (nI x) i (nI y) j n = 1 := (by unfold q_copy; rw [if_pos (by omega), n_x, n_y, if_pos (Or.inl h_22)]); rw [e9]; exact ⟨rfl, rfl⟩)
                  | (have e9 : q_copy (M 12) mn (nI x) i (nI y) j n = 1 := (by unfold q_copy; rw [if_pos (by omega), n_x, n_y, if_pos (Or.inr h_30)]); rw [e9]; exact ⟨rfl, rfl⟩)
                  | (have e9 : q_copy (M 12) mn (nI x) i (nI y) j n = 5 := (by unfold q_copy; rw [if_pos (by omega), n_x, n_y, if_neg (fun z => z.elim h_22 h_30), if_pos h_51]); rw [e9]; exact ⟨rfl, rfl⟩)
                  | (have e9 : q_copy (M 12) mn (nI x) i (nI y) j n = 2 := (by unfold q_copy; rw [if_pos (by omega), n_x, n_y, if_neg (fun z => z.elim h_22 h_30), if_neg (fun z => z h_51), if_neg (by omega)]); rw [e9]; exact ⟨rfl, rfl⟩)
                  | fail
          · refine jm_ald_n (Y := YX6_copy) (pc := 54) (i := 0) dX6_copy_54 rfl rfl ?_
            refine jm_icN (Y := YX6_copy) (pc := 55) 5 dX6_copy_55 rfl ?_
            refine jm_V1ie (Y := YX6_copy) (pc := 56) dX6_copy_56 lk_RX6_62 ⟨_, rfl⟩ rfl rfl (by decide) (Nat.le_of_ble_eq_true rfl) ⟨by decide, by decide⟩ (c_found _ _) ?_
            refine jm_ret (Y := YX6_copy) (pc := 59) (st := []) dX6_copy_59 rfl rfl ?_
            first
              | (have e9 : q_copy (M 12) mn a i b j n = 9 := (by unfold q_copy; rw [if_neg (by omega)]); rw [e9]; exact ⟨rfl, rfl⟩)
              | (have e9 : q_copy (M 12) mn (nI x) i (nI y) j n = 1 := (by unfold q_copy; rw [if_pos (by omega), n_x, n_y, if_pos (Or.inl h_22)]); rw [e9]; exact ⟨rfl, rfl⟩)
              | (have e9 : q_copy (M 12) mn (nI x) i (nI y) j n = 1 := (by unfold q_copy; rw [if_pos (by omega), n_x, n_y, if_pos (Or.inr h_30)]); rw [e9]; exact ⟨rfl, rfl⟩)
              | (have e9 : q_copy (M 12) mn (nI x) i (nI y) j n = 5 := (by unfold q_copy; rw [if_pos (by omega), n_x, n_y, if_neg (fun z => z.elim h_22 h_30), if_pos h_51]); rw [e9]; exact ⟨rfl, rfl⟩)
              | (have e9 : q_copy (M 12) mn (nI x) i (nI y) j n = 2 := (by unfold q_copy; rw [if_pos (by omega), n_x, n_y, if_neg (fun z => z.elim h_22 h_30), if_neg (fun z => z h_51), if_neg (by omega)]); rw [e9]; exact ⟨rfl, rfl⟩)
              | fail
        · refine jm_ald_n (Y := YX6_copy) (pc := 33) (i := 0) dX6_copy_33 rfl rfl ?_
          refine jm_icN (Y := YX6_copy) (pc := 34) 1 dX6_copy_34 rfl ?_
          refine jm_V1ie (Y := YX6_copy) (pc := 35) dX6_copy_35 lk_RX6_62 ⟨_, rfl⟩ rfl rfl (by decide) (Nat.le_of_ble_eq_true rfl) ⟨by decide, by decide⟩ (c_found _ _) ?_
          refine jm_ret (Y := YX6_copy) (pc := 38) (st := []) dX6_copy_38 rfl rfl ?_
          first
            | (have e9 : q_copy (M 12) mn a i b j n = 9 := (by unfold q_copy; rw [if_neg (by omega)]); rw [e9]; exact ⟨rfl, rfl⟩)
            | (have e9 : q_copy (M 12) mn (nI x) i (nI y) j n = 1 := (by unfold q_copy; rw [if_pos (by omega), n_x, n_y, if_pos (Or.inl h_22)]); rw [e9]; exact ⟨rfl, rfl⟩)
            | (have e9 : q_copy (M 12) mn (nI x) i (nI y) j n = 1 := (by unfold q_copy; rw [if_pos (by omega), n_x, n_y, if_pos (Or.inr h_30)]); rw [e9]; exact ⟨rfl, rfl⟩)
            | (have e9 : q_copy (M 12) mn (nI x) i (nI y) j n = 5 := (by unfold q_copy; rw [if_pos (by omega), n_x, n_y, if_neg (fun z => z.elim h_22 h_30), if_pos h_51]); rw [e9]; exact ⟨rfl, rfl⟩)
            | (have e9 : q_copy (M 12) mn (nI x) i (nI y) j n = 2 := (by unfold q_copy; rw [if_pos (by omega), n_x, n_y, if_neg (fun z => z.elim h_22 h_30), if_neg (fun z => z h_51), if_neg (by omega)]); rw [e9]; exact ⟨rfl, rfl⟩)
            | fail
    · refine jm_ldc (Y := YX6_copy) (pc := 14) (v := -1000001) dX6_copy_14 kc_RX6_61 ?_
      refine jm_ret (Y := YX6_copy) (pc := 16) (st := []) dX6_copy_16 rfl rfl ?_
      first
        | (have e9 : q_copy (M 12) mn a i b j n = 9 := (by unfold q_copy; rw [if_neg (by omega)]); rw [e9]; exact ⟨rfl, rfl⟩)
        | (have e9 : q_copy (M 12) mn (nI x) i (nI y) j n = 1 := (by unfold q_copy; rw [if_pos (by omega), n_x, n_y, if_pos (Or.inl h_22)]); rw [e9]; exact ⟨rfl, rfl⟩)
        | (have e9 : q_copy (M 12) mn (nI x) i (nI y) j n = 1 := (by unfold q_copy; rw [if_pos (by omega), n_x, n_y, if_pos (Or.inr h_30)]); rw [e9]; exact ⟨rfl, rfl⟩)
        | (have e9 : q_copy (M 12) mn (nI x) i (nI y) j n = 5 := (by unfold q_copy; rw [if_pos (by omega), n_x, n_y, if_neg (fun z => z.elim h_22 h_30), if_pos h_51]); rw [e9]; exact ⟨rfl, rfl⟩)
        | (have e9 : q_copy (M 12) mn (nI x) i (nI y) j n = 2 := (by unfold q_copy; rw [if_pos (by omega), n_x, n_y, if_neg (fun z => z.elim h_22 h_30), if_neg (fun z => z h_51), if_neg (by omega)]); rw [e9]; exact ⟨rfl, rfl⟩)
        | fail
theorem c_feed (M : jm_M) (tn : Nat) (hn : M 11 6 = nI tn) (hl : tn ≤ 110) (v : Int32) : jm_J none YX6_feed 0 [some (.ref 11), some (.int v)] [] M (fun o M1 => if 0 ≤ v.toInt ∧ v.toInt ≤ 255 then (if tn = 110 then o = some (.int (-1000003)) ∧ M1 = M else o = some (.int (nI (tn + 1))) ∧ M1 = jm_sf (jm_sf M 16 (upd (M 16) tn v)) 11 (upd (M 11) 6 (nI (tn + 1)))) else o = some (.int (-1000001)) ∧ M1 = M) := by
  refine jm_ild_n (Y := YX6_feed) (pc := 0) (i := 1) dX6_feed_0 rfl rfl ?_
  refine jm_icN (Y := YX6_feed) (pc := 1) 0 dX6_feed_1 rfl ?_
  refine jm_spN (Y := YX6_feed) (pc := 2) 255 dX6_feed_2 rfl ?_
  refine jm_S3ie (Y := YX6_feed) (pc := 5) dX6_feed_5 lk_RX6_53 ⟨_, rfl⟩ rfl rfl rfl (by decide) (Nat.le_of_ble_eq_true rfl) ⟨by decide, by decide⟩ (c_inN _ _ _ _ (by decide) (by decide)) ?_
  refine jm_if_neB (Y := YX6_feed) (pc := 8) dX6_feed_8 rfl (fun h_8 => ?_) (fun h_8 => ?_)
  · refine jm_ald_n (Y := YX6_feed) (pc := 14) (i := 0) dX6_feed_14 rfl rfl ?_
    refine jm_getE (Y := YX6_feed) (pc := 15) dX6_feed_15 fw_RX6_79 rfl (by decide) rfl (hn) ?_
    refine jm_bpN (Y := YX6_feed) (pc := 18) 110 dX6_feed_18 rfl ?_
    refine jm_icmp_neN (Y := YX6_feed) (pc := 20) dX6_feed_20 rfl (by omega) (by omega) (fun h_20 => ?_) (fun h_20 => ?_)
    · refine jm_ald_n (Y := YX6_feed) (pc := 26) (i := 0) dX6_feed_26 rfl rfl ?_
      refine jm_getR (Y := YX6_feed) (pc := 27) dX6_feed_27 fr_RX6_22 rfl (by decide) rfl ?_
      refine jm_ald_n (Y := YX6_feed) (pc := 30) (i := 0) dX6_feed_30 rfl rfl ?_
      refine jm_getE (Y := YX6_feed) (pc := 31) dX6_feed_31 fw_RX6_79 rfl (by decide) rfl (hn) ?_
      refine jm_ild_n (Y := YX6_feed) (pc := 34) (i := 1) dX6_feed_34 rfl rfl ?_
      refine jm_iasN (Y := YX6_feed) (pc := 35) dX6_feed_35 rfl (by omega) ?_
      refine jm_ald_n (Y := YX6_feed) (pc := 36) (i := 0) dX6_feed_36 rfl rfl ?_
      refine jm_dup (Y := YX6_feed) (pc := 37) dX6_feed_37 rfl ?_
      refine jm_getE (Y := YX6_feed) (pc := 38) dX6_feed_38 fw_RX6_79 rfl (by decide) rfl (show _ = nI tn from hn) ?_
      refine jm_icN (Y := YX6_feed) (pc := 41) 1 dX6_feed_41 rfl ?_
      refine jm_addN (Y := YX6_feed) (pc := 42) dX6_feed_42 ?_
      refine jm_put (Y := YX6_feed) (pc := 43) dX6_feed_43 fw_RX6_79 rfl (by decide) rfl ?_
      refine jm_ald_n (Y := YX6_feed) (pc := 46) (i := 0) dX6_feed_46 rfl rfl ?_
      refine jm_getE (Y := YX6_feed) (pc := 47) dX6_feed_47 fw_RX6_79 rfl (by decide) rfl (by rw [jm_sf_s, upd_s]) ?_
      refine jm_ret (Y := YX6_feed) (pc := 50) (st := []) dX6_feed_50 rfl rfl ?_
      first | (rw [if_neg (by omega)]; exact ⟨rfl, rfl⟩) | (rw [if_pos (by omega), if_pos (by omega)]; exact ⟨rfl, rfl⟩) | (rw [if_pos (by omega), if_neg (by omega)]; exact ⟨rfl, rfl⟩) | fail
    · refine jm_ldc (Y := YX6_feed) (pc := 23) (v := -1000003) dX6_feed_23 kc_RX6_82 ?_
      refine jm_ret (Y := YX6_feed) (pc := 25) (st := []) dX6_feed_25 rfl rfl ?_
      first | (rw [if_neg (by omega)]; exact ⟨rfl, rfl⟩) | (rw [if_pos (by omega), if_pos (by omega)]; exact ⟨rfl, rfl⟩) | (rw [if_pos (by omega), if_neg (by omega)]; exact ⟨rfl, rfl⟩) | fail
  · refine jm_ldc (Y := YX6_feed) (pc := 11) (v := -1000001) dX6_feed_11 kc_RX6_61 ?_
    refine jm_ret (Y := YX6_feed) (pc := 13) (st := []) dX6_feed_13 rfl rfl ?_
    first | (rw [if_neg (by omega)]; exact ⟨rfl, rfl⟩) | (rw [if_pos (by omega), if_pos (by omega)]; exact ⟨rfl, rfl⟩) | (rw [if_pos (by omega), if_neg (by omega)]; exact ⟨rfl, rfl⟩) | fail
theorem c_fault (M : jm_M) : jm_J none YX6_fault 0 [some (.ref 11)] [] M (jm_is (some (.int (M 11 7))) M) := by
  refine jm_ald_n (Y := YX6_fault) (pc := 0) (i := 0) dX6_fault_0 rfl rfl ?_
  first | refine jm_getE (Y := YX6_fault) (pc := 1) dX6_fault_1 fw_RX6_105 rfl (by decide) rfl (by assumption) ?_ | refine jm_getI (Y := YX6_fault) (pc := 1) dX6_fault_1 fw_RX6_105.F rfl (by decide) rfl ?_ | fail
  refine jm_ret (Y := YX6_fault) (pc := 4) (st := []) dX6_fault_4 rfl rfl ?_
  exact ⟨rfl, rfl⟩
theorem c_status (M : jm_M) : jm_J none YX6_status 0 [some (.ref 11)] [] M (jm_is (some (.int (M 11 4))) M) := by
  refine jm_ald_n (Y := YX6_status) (pc := 0) (i := 0) dX6_status_0 rfl rfl ?_
  first | refine jm_getE (Y := YX6_status) (pc := 1) dX6_status_1 fw_RX6_48 rfl (by decide) rfl (by assumption) ?_ | refine jm_getI (Y := YX6_status) (pc := 1) dX6_status_1 fw_RX6_48.F rfl (by decide) rfl ?_ | fail
  refine jm_ret (Y := YX6_status) (pc := 4) (st := []) dX6_status_4 rfl rfl ?_
  exact ⟨rfl, rfl⟩
def q_kind (w : Nat → Nat) (v : Int32) : Int32 := if 0 ≤ v.toInt ∧ v.toInt < w 3 then nI (w (17 + 4 * v.toInt.toNat)) else -1000001
def q_isa (kd of : Nat) : Prop := of = 0 ∨ of = kd ∨ (of = 1 ∧ kd < 4) ∨ (of = 4 ∧ kd = 5)
def q_as (w : Nat → Nat) (v k : Int32) : Prop := 0 ≤ v.toInt ∧ v.toInt < w 3 ∧ 0 ≤ k.toInt ∧ k.toInt ≤ 5
theorem c_kind (w : Nat → Nat) (M : jm_M) (hM : M 17 = jm_n w) (hg : rG w) (v : Int32) : jm_J none YX6_kind 0 [some (.ref 11), some (.int v)] [] M (jm_is (some (.int (q_kind w v))) M) := by
  have hb := hg.hb
  have h3 := hg.1.2.2.2.1
  refine jm_ald_n (Y := YX6_kind) (pc := 0) (i := 0) dX6_kind_0 rfl rfl ?_
  refine jm_ild_n (Y := YX6_kind) (pc := 1) (i := 1) dX6_kind_1 rfl rfl ?_
  refine jm_V1ie (Y := YX6_kind) (pc := 2) dX6_kind_2 lk_RX6_176 ⟨_, rfl⟩ rfl rfl (by decide) (Nat.le_of_ble_eq_true rfl) ⟨by decide, by decide⟩ (c_isWord w M hM hg _) ?_
  refine jm_if_eqB (Y := YX6_kind) (pc := 5) dX6_kind_5 rfl (fun h_5 => ?_) (fun h_5 => ?_)
  · refine jm_ldc (Y := YX6_kind) (pc := 16) (v := -1000001) dX6_kind_16 kc_RX6_61 ?_
    refine jm_ret (Y := YX6_kind) (pc := 18) (st := []) dX6_kind_18 rfl rfl ?_
    unfold q_kind
    first | exact jm_eq (by rw [if_neg (by omega)]) | exact jm_eq (by rw [if_pos (by omega), n_k]) | fail
  · obtain ⟨k, h_k, rfl, t_k, n_k⟩ := jm_ofL (v := v) (n := w 3) (by omega) (by omega)
    refine jm_ald_n (Y := YX6_kind) (pc := 8) (i := 0) dX6_kind_8 rfl rfl ?_
    refine jm_ild_n (Y := YX6_kind) (pc := 9) (i := 1) dX6_kind_9 rfl rfl ?_
    refine jm_V1ie (Y := YX6_kind) (pc := 10) dX6_kind_10 lk_RX6_224 ⟨_, rfl⟩ rfl rfl (by decide) (Nat.le_of_ble_eq_true rfl) ⟨by decide, by decide⟩ (c_kindIn w _ hM hg _ (by omega)) ?_
    refine jm_goto (Y := YX6_kind) (pc := 13) dX6_kind_13 rfl ?_
    refine jm_ret (Y := YX6_kind) (pc := 18) (st := []) dX6_kind_18 rfl rfl ?_
    unfold q_kind
    first | exact jm_eq (by rw [if_neg (by omega)]) | exact jm_eq (by rw [if_pos (by omega), n_k]) | fail
theorem c_as1 (M : jm_M) (k kk b : Nat) (x : Option Value) (q : Prop) [Decidable q] : jm_J none YX6_as 60 [some (.ref 11), some (.int (nI k)), some (.int (nI b)), some (.int (nI kk)), x] [.int (jm_b q)] M (fun o M1 => (q → o = some (.int (nI k)) ∧ M1 = jm_sf M 11 (upd (M 11) 4 (nI 0))) ∧ (¬ q → o = some (.int (-1000013)) ∧ M1 = jm_sf M 11 (upd (M 11) 4 (nI 3)))) := by
  refine jm_ist (Y := YX6_as) (pc := 60) (ls' := [_, _, _, _, _]) dX6_as_60 (Nat.le_of_ble_eq_true rfl) rfl rfl ?_
  refine jm_iload (Y := YX6_as) (pc := 62) dX6_as_62 rfl ?_
  refine jm_if_eqB (Y := YX6_as) (pc := 64) dX6_as_64 rfl (fun h_64 => ?_) (fun h_64 => ?_)
  · refine jm_ald_n (Y := YX6_as) (pc := 75) (i := 0) dX6_as_75 rfl rfl ?_
    refine jm_icN (Y := YX6_as) (pc := 76) 3 dX6_as_76 rfl ?_
    refine jm_V1ie (Y := YX6_as) (pc := 77) dX6_as_77 lk_RX6_62 ⟨_, rfl⟩ rfl rfl (by decide) (Nat.le_of_ble_eq_true rfl) ⟨by decide, by decide⟩ (c_found _ _) ?_
    refine jm_ret (Y := YX6_as) (pc := 80) (st := []) dX6_as_80 rfl rfl ?_
    first | exact ⟨fun _ => ⟨rfl, rfl⟩, fun z => absurd h_64 z⟩ | exact ⟨fun z => absurd z h_64, fun _ => ⟨rfl, rfl⟩⟩ | fail
  · refine jm_ald_n (Y := YX6_as) (pc := 67) (i := 0) dX6_as_67 rfl rfl ?_
    refine jm_ild_n (Y := YX6_as) (pc := 68) (i := 1) dX6_as_68 rfl rfl ?_
    refine jm_V1ie (Y := YX6_as) (pc := 69) dX6_as_69 lk_RX6_66 ⟨_, rfl⟩ rfl rfl (by decide) (Nat.le_of_ble_eq_true rfl) ⟨by decide, by decide⟩ (c_well _ _) ?_
    refine jm_goto (Y := YX6_as) (pc := 72) dX6_as_72 rfl ?_
    refine jm_ret (Y := YX6_as) (pc := 80) (st := []) dX6_as_80 rfl rfl ?_
    first | exact ⟨fun _ => ⟨rfl, rfl⟩, fun z => absurd h_64 z⟩ | exact ⟨fun z => absurd z h_64, fun _ => ⟨rfl, rfl⟩⟩ | fail
theorem c_as (w : Nat → Nat) (M : jm_M) (hM : M 17 = jm_n w) (hg : rG w) (v kd : Int32) : jm_J none YX6_as 0 [some (.ref 11), some (.int v), some (.int kd), none, none] [] M (fun o M1 => (q_as w v kd → (q_isa (w (17 + 4 * v.toInt.toNat)) kd.toInt.toNat → o = some (.int v) ∧ M1 = jm_sf M 11 (upd (M 11) 4 (nI 0))) ∧ (¬ q_isa (w (17 + 4 * v.toInt.toNat)) kd.toInt.toNat → o = some (.int (-1000013)) ∧ M1 = jm_sf M 11 (upd (M 11) 4 (nI 3)))) ∧ (¬ q_as w v kd → o = some (.int (-1000001)) ∧ M1 = M)) := by
  have hb := hg.hb
  have h3 := hg.1.2.2.2.1
  refine jm_ald_n (Y := YX6_as) (pc := 0) (i := 0) dX6_as_0 rfl rfl ?_
  refine jm_ild_n (Y := YX6_as) (pc := 1) (i := 1) dX6_as_1 rfl rfl ?_
  refine jm_V1ie (Y := YX6_as) (pc := 2) dX6_as_2 lk_RX6_176 ⟨_, rfl⟩ rfl rfl (by decide) (Nat.le_of_ble_eq_true rfl) ⟨by decide, by decide⟩ (c_isWord w M hM hg _) ?_
  refine jm_if_eqB (Y := YX6_as) (pc := 5) dX6_as_5 rfl (fun h_5 => ?_) (fun h_5 => ?_)
  · refine jm_ldc (Y := YX6_as) (pc := 17) (v := -1000001) dX6_as_17 kc_RX6_61 ?_
    refine jm_ret (Y := YX6_as) (pc := 19) (st := []) dX6_as_19 rfl rfl ?_
    exact ⟨fun z => absurd z (by unfold q_as; omega), fun _ => ⟨rfl, rfl⟩⟩
  · refine jm_ild_n (Y := YX6_as) (pc := 8) (i := 2) dX6_as_8 rfl rfl ?_
    refine jm_icN (Y := YX6_as) (pc := 9) 0 dX6_as_9 rfl ?_
    refine jm_icN (Y := YX6_as) (pc := 10) 5 dX6_as_10 rfl ?_
    refine jm_S3ie (Y := YX6_as) (pc := 11) dX6_as_11 lk_RX6_53 ⟨_, rfl⟩ rfl rfl rfl (by decide) (Nat.le_of_ble_eq_true rfl) ⟨by decide, by decide⟩ (c_inN _ _ _ _ (by decide) (by decide)) ?_
    refine jm_if_neB (Y := YX6_as) (pc := 14) dX6_as_14 rfl (fun h_14 => ?_) (fun h_14 => ?_)
    · obtain ⟨k, h_k, rfl, t_k, n_k⟩ := jm_ofL (v := v) (n := w 3) (by omega) (by omega)
      obtain ⟨b, h_b, rfl, t_b, n_b⟩ := jm_ofL (v := kd) (n := 6) (by omega) (by omega)
      refine jm_ald_n (Y := YX6_as) (pc := 20) (i := 0) dX6_as_20 rfl rfl ?_
      refine jm_ild_n (Y := YX6_as) (pc := 21) (i := 1) dX6_as_21 rfl rfl ?_
      refine jm_V1ie (Y := YX6_as) (pc := 22) dX6_as_22 lk_RX6_224 ⟨_, rfl⟩ rfl rfl (by decide) (Nat.le_of_ble_eq_true rfl) ⟨by decide, by decide⟩ (c_kindIn w _ hM hg _ (by omega)) ?_
      refine jm_ist_n (Y := YX6_as) (pc := 25) (i := 3) (ls' := [_, _, _, _, _]) dX6_as_25 rfl (Nat.le_of_ble_eq_true rfl) rfl rfl ?_
      refine jm_ild_n (Y := YX6_as) (pc := 26) (i := 2) dX6_as_26 rfl rfl ?_
      refine jm_if_eqN (Y := YX6_as) (pc := 27) dX6_as_27 rfl (by first | omega | exact jm_lt hb _) (fun h_27 => ?_) (fun h_27 => ?_)
      · refine jm_icN (Y := YX6_as) (pc := 55) 1 dX6_as_55 rfl ?_
        refine jm_goto (Y := YX6_as) (pc := 56) dX6_as_56 rfl ?_
        haveI : Decidable (q_isa (w (17 + 4 * k)) b) := Classical.propDecidable _
        have key := c_as1 M k (w (17 + 4 * k)) b none (q_isa (w (17 + 4 * k)) b)
        have fin : ∀ (o : Option Value) (M1 : jm_M), ((q_isa (w (17 + 4 * k)) b → o = some (.int (nI k)) ∧ M1 = jm_sf M 11 (upd (M 11) 4 (nI 0))) ∧ (¬ q_isa (w (17 + 4 * k)) b → o = some (.int (-1000013)) ∧ M1 = jm_sf M 11 (upd (M 11) 4 (nI 3)))) → (q_as w (nI k) (nI b) → (q_isa (w (17 + 4 * (nI k).toInt.toNat)) (nI b).toInt.toNat → o = some (.int (nI k)) ∧ M1 = jm_sf M 11 (upd (M 11) 4 (nI 0))) ∧ (¬ q_isa (w (17 + 4 * (nI k).toInt.toNat)) (nI b).toInt.toNat → o = some (.int (-1000013)) ∧ M1 = jm_sf M 11 (upd (M 11) 4 (nI 3)))) ∧ (¬ q_as w (nI k) (nI b) → o = some (.int (-1000001)) ∧ M1 = M) := fun o M1 q => (by rw [n_k, n_b]; exact ⟨fun _ => q, fun z => absurd (by unfold q_as; omega) z⟩)
        refine jm_wk (Y := YX6_as) (pc := 60) ?_ fin
        first | (rw [jm_b_t (show q_isa (w (17 + 4 * k)) b by unfold q_isa; omega)] at key; exact key) | (rw [jm_b_f (show ¬ q_isa (w (17 + 4 * k)) b by unfold q_isa; omega)] at key; exact key) | fail
      · refine jm_ild_n (Y := YX6_as) (pc := 30) (i := 2) dX6_as_30 rfl rfl ?_
        refine jm_ild_n (Y := YX6_as) (pc := 31) (i := 3) dX6_as_31 rfl rfl ?_
        refine jm_icmp_eqN (Y := YX6_as) (pc := 32) dX6_as_32 rfl (by first | omega | exact jm_lt hb _) (by first | omega | exact jm_lt hb _) (fun h_32 => ?_) (fun h_32 => ?_)
        · refine jm_icN (Y := YX6_as) (pc := 55) 1 dX6_as_55 rfl ?_
          refine jm_goto (Y := YX6_as) (pc := 56) dX6_as_56 rfl ?_
          haveI : Decidable (q_isa (w (17 + 4 * k)) b) := Classical.propDecidable _
          have key := c_as1 M k (w (17 + 4 * k)) b none (q_isa (w (17 + 4 * k)) b)
          have fin : ∀ (o : Option Value) (M1 : jm_M), ((q_isa (w (17 + 4 * k)) b → o = some (.int (nI k)) ∧ M1 = jm_sf M 11 (upd (M 11) 4 (nI 0))) ∧ (¬ q_isa (w (17 + 4 * k)) b → o = some (.int (-1000013)) ∧ M1 = jm_sf M 11 (upd (M 11) 4 (nI 3)))) → (q_as w (nI k) (nI b) → (q_isa (w (17 + 4 * (nI k).toInt.toNat)) (nI b).toInt.toNat → o = some (.int (nI k)) ∧ M1 = jm_sf M 11 (upd (M 11) 4 (nI 0))) ∧ (¬ q_isa (w (17 + 4 * (nI k).toInt.toNat)) (nI b).toInt.toNat → o = some (.int (-1000013)) ∧ M1 = jm_sf M 11 (upd (M 11) 4 (nI 3)))) ∧ (¬ q_as w (nI k) (nI b) → o = some (.int (-1000001)) ∧ M1 = M) := fun o M1 q => (by rw [n_k, n_b]; exact ⟨fun _ => q, fun z => absurd (by unfold q_as; omega) z⟩)
          refine jm_wk (Y := YX6_as) (pc := 60) ?_ fin
          first | (rw [jm_b_t (show q_isa (w (17 + 4 * k)) b by unfold q_isa; omega)] at key; exact key) | (rw [jm_b_f (show ¬ q_isa (w (17 + 4 * k)) b by unfold q_isa; omega)] at key; exact key) | fail
        · refine jm_ild_n (Y := YX6_as) (pc := 35) (i := 2) dX6_as_35 rfl rfl ?_
          refine jm_icN (Y := YX6_as) (pc := 36) 1 dX6_as_36 rfl ?_
          refine jm_icmp_neN (Y := YX6_as) (pc := 37) dX6_as_37 rfl (by first | omega | exact jm_lt hb _) (by first | omega | exact jm_lt hb _) (fun h_37 => ?_) (fun h_37 => ?_)
          · refine jm_ild_n (Y := YX6_as) (pc := 45) (i := 2) dX6_as_45 rfl rfl ?_
            refine jm_icN (Y := YX6_as) (pc := 46) 4 dX6_as_46 rfl ?_
            refine jm_icmp_neN (Y := YX6_as) (pc := 47) dX6_as_47 rfl (by first | omega | exact jm_lt hb _) (by first | omega | exact jm_lt hb _) (fun h_47 => ?_) (fun h_47 => ?_)
            · refine jm_icN (Y := YX6_as) (pc := 59) 0 dX6_as_59 rfl ?_
              haveI : Decidable (q_isa (w (17 + 4 * k)) b) := Classical.propDecidable _
              have key := c_as1 M k (w (17 + 4 * k)) b none (q_isa (w (17 + 4 * k)) b)
              have fin : ∀ (o : Option Value) (M1 : jm_M), ((q_isa (w (17 + 4 * k)) b → o = some (.int (nI k)) ∧ M1 = jm_sf M 11 (upd (M 11) 4 (nI 0))) ∧ (¬ q_isa (w (17 + 4 * k)) b → o = some (.int (-1000013)) ∧ M1 = jm_sf M 11 (upd (M 11) 4 (nI 3)))) → (q_as w (nI k) (nI b) → (q_isa (w (17 + 4 * (nI k).toInt.toNat)) (nI b).toInt.toNat → o = some (.int (nI k)) ∧ M1 = jm_sf M 11 (upd (M 11) 4 (nI 0))) ∧ (¬ q_isa (w (17 + 4 * (nI k).toInt.toNat)) (nI b).toInt.toNat → o = some (.int (-1000013)) ∧ M1 = jm_sf M 11 (upd (M 11) 4 (nI 3)))) ∧ (¬ q_as w (nI k) (nI b) → o = some (.int (-1000001)) ∧ M1 = M) := fun o M1 q => (by rw [n_k, n_b]; exact ⟨fun _ => q, fun z => absurd (by unfold q_as; omega) z⟩)
              refine jm_wk (Y := YX6_as) (pc := 60) ?_ fin
              first | (rw [jm_b_t (show q_isa (w (17 + 4 * k)) b by unfold q_isa; omega)] at key; exact key) | (rw [jm_b_f (show ¬ q_isa (w (17 + 4 * k)) b by unfold q_isa; omega)] at key; exact key) | fail
            · refine jm_ild_n (Y := YX6_as) (pc := 50) (i := 3) dX6_as_50 rfl rfl ?_
              refine jm_icN (Y := YX6_as) (pc := 51) 5 dX6_as_51 rfl ?_
              refine jm_icmp_neN (Y := YX6_as) (pc := 52) dX6_as_52 rfl (by first | omega | exact jm_lt hb _) (by first | omega | exact jm_lt hb _) (fun h_52 => ?_) (fun h_52 => ?_)
              · refine jm_icN (Y := YX6_as) (pc := 59) 0 dX6_as_59 rfl ?_
                haveI : Decidable (q_isa (w (17 + 4 * k)) b) := Classical.propDecidable _
                have key := c_as1 M k (w (17 + 4 * k)) b none (q_isa (w (17 + 4 * k)) b)
                have fin : ∀ (o : Option Value) (M1 : jm_M), ((q_isa (w (17 + 4 * k)) b → o = some (.int (nI k)) ∧ M1 = jm_sf M 11 (upd (M 11) 4 (nI 0))) ∧ (¬ q_isa (w (17 + 4 * k)) b → o = some (.int (-1000013)) ∧ M1 = jm_sf M 11 (upd (M 11) 4 (nI 3)))) → (q_as w (nI k) (nI b) → (q_isa (w (17 + 4 * (nI k).toInt.toNat)) (nI b).toInt.toNat → o = some (.int (nI k)) ∧ M1 = jm_sf M 11 (upd (M 11) 4 (nI 0))) ∧ (¬ q_isa (w (17 + 4 * (nI k).toInt.toNat)) (nI b).toInt.toNat → o = some (.int (-1000013)) ∧ M1 = jm_sf M 11 (upd (M 11) 4 (nI 3)))) ∧ (¬ q_as w (nI k) (nI b) → o = some (.int (-1000001)) ∧ M1 = M) := fun o M1 q => (by rw [n_k, n_b]; exact ⟨fun _ => q, fun z => absurd (by unfold q_as; omega) z⟩)
                refine jm_wk (Y := YX6_as) (pc := 60) ?_ fin
                first | (rw [jm_b_t (show q_isa (w (17 + 4 * k)) b by unfold q_isa; omega)] at key; exact key) | (rw [jm_b_f (show ¬ q_isa (w (17 + 4 * k)) b by unfold q_isa; omega)] at key; exact key) | fail
              · refine jm_icN (Y := YX6_as) (pc := 55) 1 dX6_as_55 rfl ?_
                refine jm_goto (Y := YX6_as) (pc := 56) dX6_as_56 rfl ?_
                haveI : Decidable (q_isa (w (17 + 4 * k)) b) := Classical.propDecidable _
                have key := c_as1 M k (w (17 + 4 * k)) b none (q_isa (w (17 + 4 * k)) b)
                have fin : ∀ (o : Option Value) (M1 : jm_M), ((q_isa (w (17 + 4 * k)) b → o = some (.int (nI k)) ∧ M1 = jm_sf M 11 (upd (M 11) 4 (nI 0))) ∧ (¬ q_isa (w (17 + 4 * k)) b → o = some (.int (-1000013)) ∧ M1 = jm_sf M 11 (upd (M 11) 4 (nI 3)))) → (q_as w (nI k) (nI b) → (q_isa (w (17 + 4 * (nI k).toInt.toNat)) (nI b).toInt.toNat → o = some (.int (nI k)) ∧ M1 = jm_sf M 11 (upd (M 11) 4 (nI 0))) ∧ (¬ q_isa (w (17 + 4 * (nI k).toInt.toNat)) (nI b).toInt.toNat → o = some (.int (-1000013)) ∧ M1 = jm_sf M 11 (upd (M 11) 4 (nI 3)))) ∧ (¬ q_as w (nI k) (nI b) → o = some (.int (-1000001)) ∧ M1 = M) := fun o M1 q => (by rw [n_k, n_b]; exact ⟨fun _ => q, fun z => absurd (by unfold q_as; omega) z⟩)
                refine jm_wk (Y := YX6_as) (pc := 60) ?_ fin
                first | (rw [jm_b_t (show q_isa (w (17 + 4 * k)) b by unfold q_isa; omega)] at key; exact key) | (rw [jm_b_f (show ¬ q_isa (w (17 + 4 * k)) b by unfold q_isa; omega)] at key; exact key) | fail
          · refine jm_ild_n (Y := YX6_as) (pc := 40) (i := 3) dX6_as_40 rfl rfl ?_
            refine jm_icN (Y := YX6_as) (pc := 41) 4 dX6_as_41 rfl ?_
            refine jm_icmp_ltN (Y := YX6_as) (pc := 42) dX6_as_42 rfl (by first | omega | exact jm_lt hb _) (by first | omega | exact jm_lt hb _) (fun h_42 => ?_) (fun h_42 => ?_)
            · refine jm_icN (Y := YX6_as) (pc := 55) 1 dX6_as_55 rfl ?_
              refine jm_goto (Y := YX6_as) (pc := 56) dX6_as_56 rfl ?_
              haveI : Decidable (q_isa (w (17 + 4 * k)) b) := Classical.propDecidable _
              have key := c_as1 M k (w (17 + 4 * k)) b none (q_isa (w (17 + 4 * k)) b)
              have fin : ∀ (o : Option Value) (M1 : jm_M), ((q_isa (w (17 + 4 * k)) b → o = some (.int (nI k)) ∧ M1 = jm_sf M 11 (upd (M 11) 4 (nI 0))) ∧ (¬ q_isa (w (17 + 4 * k)) b → o = some (.int (-1000013)) ∧ M1 = jm_sf M 11 (upd (M 11) 4 (nI 3)))) → (q_as w (nI k) (nI b) → (q_isa (w (17 + 4 * (nI k).toInt.toNat)) (nI b).toInt.toNat → o = some (.int (nI k)) ∧ M1 = jm_sf M 11 (upd (M 11) 4 (nI 0))) ∧ (¬ q_isa (w (17 + 4 * (nI k).toInt.toNat)) (nI b).toInt.toNat → o = some (.int (-1000013)) ∧ M1 = jm_sf M 11 (upd (M 11) 4 (nI 3)))) ∧ (¬ q_as w (nI k) (nI b) → o = some (.int (-1000001)) ∧ M1 = M) := fun o M1 q => (by rw [n_k, n_b]; exact ⟨fun _ => q, fun z => absurd (by unfold q_as; omega) z⟩)
              refine jm_wk (Y := YX6_as) (pc := 60) ?_ fin
              first | (rw [jm_b_t (show q_isa (w (17 + 4 * k)) b by unfold q_isa; omega)] at key; exact key) | (rw [jm_b_f (show ¬ q_isa (w (17 + 4 * k)) b by unfold q_isa; omega)] at key; exact key) | fail
            · refine jm_ild_n (Y := YX6_as) (pc := 45) (i := 2) dX6_as_45 rfl rfl ?_
              refine jm_icN (Y := YX6_as) (pc := 46) 4 dX6_as_46 rfl ?_
              refine jm_icmp_neN (Y := YX6_as) (pc := 47) dX6_as_47 rfl (by first | omega | exact jm_lt hb _) (by first | omega | exact jm_lt hb _) (fun h_47 => ?_) (fun h_47 => ?_)
              · refine jm_icN (Y := YX6_as) (pc := 59) 0 dX6_as_59 rfl ?_
                haveI : Decidable (q_isa (w (17 + 4 * k)) b) := Classical.propDecidable _
                have key := c_as1 M k (w (17 + 4 * k)) b none (q_isa (w (17 + 4 * k)) b)
                have fin : ∀ (o : Option Value) (M1 : jm_M), ((q_isa (w (17 + 4 * k)) b → o = some (.int (nI k)) ∧ M1 = jm_sf M 11 (upd (M 11) 4 (nI 0))) ∧ (¬ q_isa (w (17 + 4 * k)) b → o = some (.int (-1000013)) ∧ M1 = jm_sf M 11 (upd (M 11) 4 (nI 3)))) → (q_as w (nI k) (nI b) → (q_isa (w (17 + 4 * (nI k).toInt.toNat)) (nI b).toInt.toNat → o = some (.int (nI k)) ∧ M1 = jm_sf M 11 (upd (M 11) 4 (nI 0))) ∧ (¬ q_isa (w (17 + 4 * (nI k).toInt.toNat)) (nI b).toInt.toNat → o = some (.int (-1000013)) ∧ M1 = jm_sf M 11 (upd (M 11) 4 (nI 3)))) ∧ (¬ q_as w (nI k) (nI b) → o = some (.int (-1000001)) ∧ M1 = M) := fun o M1 q => (by rw [n_k, n_b]; exact ⟨fun _ => q, fun z => absurd (by unfold q_as; omega) z⟩)
                refine jm_wk (Y := YX6_as) (pc := 60) ?_ fin
                first | (rw [jm_b_t (show q_isa (w (17 + 4 * k)) b by unfold q_isa; omega)] at key; exact key) | (rw [jm_b_f (show ¬ q_isa (w (17 + 4 * k)) b by unfold q_isa; omega)] at key; exact key) | fail
              · refine jm_ild_n (Y := YX6_as) (pc := 50) (i := 3) dX6_as_50 rfl rfl ?_
                refine jm_icN (Y := YX6_as) (pc := 51) 5 dX6_as_51 rfl ?_
                refine jm_icmp_neN (Y := YX6_as) (pc := 52) dX6_as_52 rfl (by first | omega | exact jm_lt hb _) (by first | omega | exact jm_lt hb _) (fun h_52 => ?_) (fun h_52 => ?_)
                · refine jm_icN (Y := YX6_as) (pc := 59) 0 dX6_as_59 rfl ?_
                  haveI : Decidable (q_isa (w (17 + 4 * k)) b) := Classical.propDecidable _
                  have key := c_as1 M k (w (17 + 4 * k)) b none (q_isa (w (17 + 4 * k)) b)
                  have fin : ∀ (o : Option Value) (M1 : jm_M), ((q_isa (w (17 + 4 * k)) b → o = some (.int (nI k)) ∧ M1 = jm_sf M 11 (upd (M 11) 4 (nI 0))) ∧ (¬ q_isa (w (17 + 4 * k)) b → o = some (.int (-1000013)) ∧ M1 = jm_sf M 11 (upd (M 11) 4 (nI 3)))) → (q_as w (nI k) (nI b) → (q_isa (w (17 + 4 * (nI k).toInt.toNat)) (nI b).toInt.toNat → o = some (.int (nI k)) ∧ M1 = jm_sf M 11 (upd (M 11) 4 (nI 0))) ∧ (¬ q_isa (w (17 + 4 * (nI k).toInt.toNat)) (nI b).toInt.toNat → o = some (.int (-1000013)) ∧ M1 = jm_sf M 11 (upd (M 11) 4 (nI 3)))) ∧ (¬ q_as w (nI k) (nI b) → o = some (.int (-1000001)) ∧ M1 = M) := fun o M1 q => (by rw [n_k, n_b]; exact ⟨fun _ => q, fun z => absurd (by unfold q_as; omega) z⟩)
                  refine jm_wk (Y := YX6_as) (pc := 60) ?_ fin
                  first | (rw [jm_b_t (show q_isa (w (17 + 4 * k)) b by unfold q_isa; omega)] at key; exact key) | (rw [jm_b_f (show ¬ q_isa (w (17 + 4 * k)) b by unfold q_isa; omega)] at key; exact key) | fail
                · refine jm_icN (Y := YX6_as) (pc := 55) 1 dX6_as_55 rfl ?_
                  refine jm_goto (Y := YX6_as) (pc := 56) dX6_as_56 rfl ?_
                  haveI : Decidable (q_isa (w (17 + 4 * k)) b) := Classical.propDecidable _
                  have key := c_as1 M k (w (17 + 4 * k)) b none (q_isa (w (17 + 4 * k)) b)
                  have fin : ∀ (o : Option Value) (M1 : jm_M), ((q_isa (w (17 + 4 * k)) b → o = some (.int (nI k)) ∧ M1 = jm_sf M 11 (upd (M 11) 4 (nI 0))) ∧ (¬ q_isa (w (17 + 4 * k)) b → o = some (.int (-1000013)) ∧ M1 = jm_sf M 11 (upd (M 11) 4 (nI 3)))) → (q_as w (nI k) (nI b) → (q_isa (w (17 + 4 * (nI k).toInt.toNat)) (nI b).toInt.toNat → o = some (.int (nI k)) ∧ M1 = jm_sf M 11 (upd (M 11) 4 (nI 0))) ∧ (¬ q_isa (w (17 + 4 * (nI k).toInt.toNat)) (nI b).toInt.toNat → o = some (.int (-1000013)) ∧ M1 = jm_sf M 11 (upd (M 11) 4 (nI 3)))) ∧ (¬ q_as w (nI k) (nI b) → o = some (.int (-1000001)) ∧ M1 = M) := fun o M1 q => (by rw [n_k, n_b]; exact ⟨fun _ => q, fun z => absurd (by unfold q_as; omega) z⟩)
                  refine jm_wk (Y := YX6_as) (pc := 60) ?_ fin
                  first | (rw [jm_b_t (show q_isa (w (17 + 4 * k)) b by unfold q_isa; omega)] at key; exact key) | (rw [jm_b_f (show ¬ q_isa (w (17 + 4 * k)) b by unfold q_isa; omega)] at key; exact key) | fail
    · refine jm_ldc (Y := YX6_as) (pc := 17) (v := -1000001) dX6_as_17 kc_RX6_61 ?_
      refine jm_ret (Y := YX6_as) (pc := 19) (st := []) dX6_as_19 rfl rfl ?_
      exact ⟨fun z => absurd z (by unfold q_as; omega), fun _ => ⟨rfl, rfl⟩⟩
def jm_tr (iA iT k : Nat) (M : jm_M) (L : List Nat) : Prop := M iA k = nI L.length ∧ ∀ i, i < L.length → M iT i = nI (L.getD i 0)
def jm_tf (iA iT k : Nat) (M M' : jm_M) : Prop := (∀ id, id ≠ iA → id ≠ iT → M' id = M id) ∧ ∀ j, j ≠ k → M' iA j = M iA j
theorem jm_tf.rf {iA iT k : Nat} {M : jm_M} : jm_tf iA iT k M M := ⟨fun _ _ _ => rfl, fun _ _ => rfl⟩
theorem jm_tf.tr {iA iT k : Nat} {M M1 M2 : jm_M} (h1 : jm_tf iA iT k M M1) (h2 : jm_tf iA iT k M1 M2) : jm_tf iA iT k M M2 := ⟨fun id a b => (h2.1 id a b).trans (h1.1 id a b), fun j a => (h2.2 j a).trans (h1.2 j a)⟩
theorem jm_tr_add {iA iT k b : Nat} {M : jm_M} {L : List Nat} (h : jm_tr iA iT k M L) (hne : iA ≠ iT) : jm_tr iA iT k (jm_sf (jm_sf M iT (upd (M iT) L.length (nI b))) iA (upd (M iA) k (nI (L.length + 1)))) (L ++ [b]) ∧ jm_tf iA iT k M (jm_sf (jm_sf M iT (upd (M iT) L.length (nI b))) iA (upd (M iA) k (nI (L.length + 1)))) := by
  refine ⟨⟨by rw [jm_sf_s, upd_s, List.length_append]; rfl, fun i hi => ?_⟩, fun id a c => by rw [jm_sf_n _ _ a, jm_sf_n _ _ c], fun j hj => by rw [jm_sf_s, upd_n _ _ hj]⟩
  rw [jm_sf_n _ _ (fun e => hne e.symm), jm_sf_s]
  rw [List.length_append] at hi
  have hi : i < L.length + 1 := hi
  by_cases e : i = L.length
  · subst e
    rw [upd_s, List.getD_eq_getElem?_getD, List.getElem?_append_right (Nat.le_refl _), Nat.sub_self]
    rfl
  · rw [upd_n _ _ e, h.2 i (by omega), List.getD_eq_getElem?_getD, List.getD_eq_getElem?_getD, List.getElem?_append_left (by omega)]
theorem c_begins (M : jm_M) (L : List Nat) (b : Nat) (hT : jm_tr 11 23 21 M L) (hl : L.length < 16) : jm_J none YX6_begins 0 [some (.ref 11), some (.int (nI b))] [] M (fun o M1 => o = none ∧ jm_tr 11 23 21 M1 (L ++ [b]) ∧ jm_tf 11 23 21 M M1) := by
  refine jm_ald_n (Y := YX6_begins) (pc := 0) (i := 0) dX6_begins_0 rfl rfl ?_
  refine jm_getE (Y := YX6_begins) (pc := 1) dX6_begins_1 fw_RX6_227 rfl (by decide) rfl (hT.1) ?_
  refine jm_bpN (Y := YX6_begins) (pc := 4) 16 dX6_begins_4 rfl ?_
  refine jm_icmp_geN (Y := YX6_begins) (pc := 6) dX6_begins_6 rfl (by omega) (by omega) (fun h_6 => ?_) (fun h_6 => ?_)
  · refine jm_retv (Y := YX6_begins) (pc := 29) (st := []) dX6_begins_29 rfl ?_
    first | exact ⟨rfl, (jm_tr_add hT (by decide)).1, (jm_tr_add hT (by decide)).2⟩ | (exfalso; omega) | fail
  · refine jm_ald_n (Y := YX6_begins) (pc := 9) (i := 0) dX6_begins_9 rfl rfl ?_
    refine jm_getR (Y := YX6_begins) (pc := 10) dX6_begins_10 fr_RX6_44 rfl (by decide) rfl ?_
    refine jm_ald_n (Y := YX6_begins) (pc := 13) (i := 0) dX6_begins_13 rfl rfl ?_
    refine jm_getE (Y := YX6_begins) (pc := 14) dX6_begins_14 fw_RX6_227 rfl (by decide) rfl (hT.1) ?_
    refine jm_ild_n (Y := YX6_begins) (pc := 17) (i := 1) dX6_begins_17 rfl rfl ?_
    refine jm_iasN (Y := YX6_begins) (pc := 18) dX6_begins_18 rfl (by omega) ?_
    refine jm_ald_n (Y := YX6_begins) (pc := 19) (i := 0) dX6_begins_19 rfl rfl ?_
    refine jm_dup (Y := YX6_begins) (pc := 20) dX6_begins_20 rfl ?_
    refine jm_getE (Y := YX6_begins) (pc := 21) dX6_begins_21 fw_RX6_227 rfl (by decide) rfl (show _ = nI L.length from hT.1) ?_
    refine jm_icN (Y := YX6_begins) (pc := 24) 1 dX6_begins_24 rfl ?_
    refine jm_addN (Y := YX6_begins) (pc := 25) dX6_begins_25 ?_
    refine jm_put (Y := YX6_begins) (pc := 26) dX6_begins_26 fw_RX6_227 rfl (by decide) rfl ?_
    refine jm_retv (Y := YX6_begins) (pc := 29) (st := []) dX6_begins_29 rfl ?_
    first | exact ⟨rfl, (jm_tr_add hT (by decide)).1, (jm_tr_add hT (by decide)).2⟩ | (exfalso; omega) | fail
theorem c_stickMark1 (w : Nat → Nat) (M : jm_M) (hM : M 17 = jm_n w) (hg : rG w) (L : List Nat) (hT : jm_tr 11 23 21 M L) (k : Nat) (hk : k < w 3) (hk7 : k < 7) (hkd : w (17 + 4 * k) = 1) (hl : L.length + 4 ≤ 16) : jm_J none YX6_stickMark 0 [some (.ref 11), some (.int (nI k)), none, none] [] M (fun o M1 => o = some (.int (nI (k + w (17 + 4 * k + 2)))) ∧ jm_tr 11 23 21 M1 (L ++ [21, 20]) ∧ jm_tf 11 23 21 M M1) := by
  have hb := hg.hb
  refine jm_ald_n (Y := YX6_stickMark) (pc := 0) (i := 0) dX6_stickMark_0 rfl rfl ?_
  refine jm_ild_n (Y := YX6_stickMark) (pc := 1) (i := 1) dX6_stickMark_1 rfl rfl ?_
  refine jm_V1ie (Y := YX6_stickMark) (pc := 2) dX6_stickMark_2 lk_RX6_224 ⟨_, rfl⟩ rfl rfl (by decide) (Nat.le_of_ble_eq_true rfl) ⟨by decide, by decide⟩ (c_kindIn w M hM hg k hk7) ?_
  refine jm_ist_n (Y := YX6_stickMark) (pc := 5) (i := 2) (ls' := [_, _, _, _]) dX6_stickMark_5 rfl (Nat.le_of_ble_eq_true rfl) rfl rfl ?_
  refine jm_ild_n (Y := YX6_stickMark) (pc := 6) (i := 2) dX6_stickMark_6 rfl rfl ?_
  refine jm_icN (Y := YX6_stickMark) (pc := 7) 1 dX6_stickMark_7 rfl ?_
  refine jm_icmp_eqN (Y := YX6_stickMark) (pc := 8) dX6_stickMark_8 rfl (by first | omega | exact jm_lt hb _) (by first | omega | exact jm_lt hb _) (fun h_8 => ?_) (fun h_8 => by exfalso; first | omega | exact jm_lt hb _)
  refine jm_ald_n (Y := YX6_stickMark) (pc := 27) (i := 0) dX6_stickMark_27 rfl rfl ?_
  refine jm_bpN (Y := YX6_stickMark) (pc := 28) 21 dX6_stickMark_28 rfl ?_
  refine jm_V1v (Y := YX6_stickMark) (pc := 30) dX6_stickMark_30 lk_RX6_230 rfl rfl rfl (by decide) (Nat.le_of_ble_eq_true rfl) ⟨by decide, by decide⟩ (c_begins M (L) 21 hT (by first | omega | (simp only [List.length_append, List.length_cons, List.length_nil]; omega))) (fun M_30 q_30 => ?_)
  refine jm_ald_n (Y := YX6_stickMark) (pc := 33) (i := 0) dX6_stickMark_33 rfl rfl ?_
  refine jm_bpN (Y := YX6_stickMark) (pc := 34) 20 dX6_stickMark_34 rfl ?_
  refine jm_V1v (Y := YX6_stickMark) (pc := 36) dX6_stickMark_36 lk_RX6_230 rfl rfl rfl (by decide) (Nat.le_of_ble_eq_true rfl) ⟨by decide, by decide⟩ (c_begins M_30 (L ++ [21]) 20 q_30.2.1 (by first | omega | (simp only [List.length_append, List.length_cons, List.length_nil]; omega))) (fun M_36 q_36 => ?_)
  have hM9 := (show M_36 17 = jm_n w from (((jm_tf.rf.tr q_30.2.2).tr q_36.2.2).1 17 (by decide) (by decide)).trans hM)
  have tf9 := ((jm_tf.rf.tr q_30.2.2).tr q_36.2.2)
  have tr9 := q_36.2.1
  refine jm_ild_n (Y := YX6_stickMark) (pc := 39) (i := 1) dX6_stickMark_39 rfl rfl ?_
  refine jm_ald_n (Y := YX6_stickMark) (pc := 40) (i := 0) dX6_stickMark_40 rfl rfl ?_
  refine jm_getR (Y := YX6_stickMark) (pc := 41) dX6_stickMark_41 fr_RX6_25 rfl (by decide) rfl ?_
  refine jm_bpN (Y := YX6_stickMark) (pc := 44) 17 dX6_stickMark_44 rfl ?_
  refine jm_icN (Y := YX6_stickMark) (pc := 46) 4 dX6_stickMark_46 rfl ?_
  refine jm_ild_n (Y := YX6_stickMark) (pc := 47) (i := 1) dX6_stickMark_47 rfl rfl ?_
  refine jm_mulN (Y := YX6_stickMark) (pc := 48) dX6_stickMark_48 ?_
  refine jm_addN (Y := YX6_stickMark) (pc := 49) dX6_stickMark_49 ?_
  refine jm_icN (Y := YX6_stickMark) (pc := 50) 2 dX6_stickMark_50 rfl ?_
  refine jm_addN (Y := YX6_stickMark) (pc := 51) dX6_stickMark_51 ?_
  refine jm_ialN (Y := YX6_stickMark) (pc := 52) dX6_stickMark_52 (by first | assumption | exact jm_arR1 ha | exact jm_arR2 ha | exact jm_arR3 ha | exact jm_arR1 hb | exact jm_arR2 hb | exact jm_arR3 hb | rfl) (by first | omega | exact jm_lt hb _) (by first | assumption | exact jm_rdN hM9 | rfl) ?_
  refine jm_addN (Y := YX6_stickMark) (pc := 53) dX6_stickMark_53 ?_
  refine jm_ist_n (Y := YX6_stickMark) (pc := 54) (i := 3) (ls' := [_, _, _, _]) dX6_stickMark_54 rfl (Nat.le_of_ble_eq_true rfl) rfl rfl ?_
  refine jm_ild_n (Y := YX6_stickMark) (pc := 55) (i := 2) dX6_stickMark_55 rfl rfl ?_
  refine jm_icN (Y := YX6_stickMark) (pc := 56) 2 dX6_stickMark_56 rfl ?_
  refine jm_icmp_neN (Y := YX6_stickMark) (pc := 57) dX6_stickMark_57 rfl (by first | omega | exact jm_lt hb _) (by first | omega | exact jm_lt hb _) (fun h_57 => ?_) (fun h_57 => by exfalso; first | omega | exact jm_lt hb _)
  refine jm_ild_n (Y := YX6_stickMark) (pc := 66) (i := 2) dX6_stickMark_66 rfl rfl ?_
  refine jm_icN (Y := YX6_stickMark) (pc := 67) 3 dX6_stickMark_67 rfl ?_
  refine jm_icmp_neN (Y := YX6_stickMark) (pc := 68) dX6_stickMark_68 rfl (by first | omega | exact jm_lt hb _) (by first | omega | exact jm_lt hb _) (fun h_68 => ?_) (fun h_68 => by exfalso; first | omega | exact jm_lt hb _)
  refine jm_ild_n (Y := YX6_stickMark) (pc := 79) (i := 3) dX6_stickMark_79 rfl rfl ?_
  refine jm_ret (Y := YX6_stickMark) (pc := 80) (st := []) dX6_stickMark_80 rfl rfl ?_
  exact ⟨rfl, (by simpa only [List.append_assoc, List.cons_append, List.nil_append] using tr9), tf9⟩
theorem c_stickMark2 (w : Nat → Nat) (M : jm_M) (hM : M 17 = jm_n w) (hg : rG w) (L : List Nat) (hT : jm_tr 11 23 21 M L) (k : Nat) (hk : k < w 3) (hk7 : k < 7) (hkd : w (17 + 4 * k) = 2) (hl : L.length + 4 ≤ 16) : jm_J none YX6_stickMark 0 [some (.ref 11), some (.int (nI k)), none, none] [] M (fun o M1 => o = some (.int (nI (2 * (k + w (17 + 4 * k + 2))))) ∧ jm_tr 11 23 21 M1 (L ++ [24, 21, 20]) ∧ jm_tf 11 23 21 M M1) := by
  have hb := hg.hb
  refine jm_ald_n (Y := YX6_stickMark) (pc := 0) (i := 0) dX6_stickMark_0 rfl rfl ?_
  refine jm_ild_n (Y := YX6_stickMark) (pc := 1) (i := 1) dX6_stickMark_1 rfl rfl ?_
  refine jm_V1ie (Y := YX6_stickMark) (pc := 2) dX6_stickMark_2 lk_RX6_224 ⟨_, rfl⟩ rfl rfl (by decide) (Nat.le_of_ble_eq_true rfl) ⟨by decide, by decide⟩ (c_kindIn w M hM hg k hk7) ?_
  refine jm_ist_n (Y := YX6_stickMark) (pc := 5) (i := 2) (ls' := [_, _, _, _]) dX6_stickMark_5 rfl (Nat.le_of_ble_eq_true rfl) rfl rfl ?_
  refine jm_ild_n (Y := YX6_stickMark) (pc := 6) (i := 2) dX6_stickMark_6 rfl rfl ?_
  refine jm_icN (Y := YX6_stickMark) (pc := 7) 1 dX6_stickMark_7 rfl ?_
  refine jm_icmp_eqN (Y := YX6_stickMark) (pc := 8) dX6_stickMark_8 rfl (by first | omega | exact jm_lt hb _) (by first | omega | exact jm_lt hb _) (fun h_8 => by exfalso; first | omega | exact jm_lt hb _) (fun h_8 => ?_)
  refine jm_ald_n (Y := YX6_stickMark) (pc := 11) (i := 0) dX6_stickMark_11 rfl rfl ?_
  refine jm_ild_n (Y := YX6_stickMark) (pc := 12) (i := 2) dX6_stickMark_12 rfl rfl ?_
  refine jm_icN (Y := YX6_stickMark) (pc := 13) 2 dX6_stickMark_13 rfl ?_
  refine jm_icmp_neN (Y := YX6_stickMark) (pc := 14) dX6_stickMark_14 rfl (by first | omega | exact jm_lt hb _) (by first | omega | exact jm_lt hb _) (fun h_14 => by exfalso; first | omega | exact jm_lt hb _) (fun h_14 => ?_)
  refine jm_bpN (Y := YX6_stickMark) (pc := 17) 24 dX6_stickMark_17 rfl ?_
  refine jm_goto (Y := YX6_stickMark) (pc := 19) dX6_stickMark_19 rfl ?_
  refine jm_V1v (Y := YX6_stickMark) (pc := 24) dX6_stickMark_24 lk_RX6_230 rfl rfl rfl (by decide) (Nat.le_of_ble_eq_true rfl) ⟨by decide, by decide⟩ (c_begins M (L) 24 hT (by first | omega | (simp only [List.length_append, List.length_cons, List.length_nil]; omega))) (fun M_24 q_24 => ?_)
  refine jm_ald_n (Y := YX6_stickMark) (pc := 27) (i := 0) dX6_stickMark_27 rfl rfl ?_
  refine jm_bpN (Y := YX6_stickMark) (pc := 28) 21 dX6_stickMark_28 rfl ?_
  refine jm_V1v (Y := YX6_stickMark) (pc := 30) dX6_stickMark_30 lk_RX6_230 rfl rfl rfl (by decide) (Nat.le_of_ble_eq_true rfl) ⟨by decide, by decide⟩ (c_begins M_24 (L ++ [24]) 21 q_24.2.1 (by first | omega | (simp only [List.length_append, List.length_cons, List.length_nil]; omega))) (fun M_30 q_30 => ?_)
  refine jm_ald_n (Y := YX6_stickMark) (pc := 33) (i := 0) dX6_stickMark_33 rfl rfl ?_
  refine jm_bpN (Y := YX6_stickMark) (pc := 34) 20 dX6_stickMark_34 rfl ?_
  refine jm_V1v (Y := YX6_stickMark) (pc := 36) dX6_stickMark_36 lk_RX6_230 rfl rfl rfl (by decide) (Nat.le_of_ble_eq_true rfl) ⟨by decide, by decide⟩ (c_begins M_30 (L ++ [24] ++ [21]) 20 q_30.2.1 (by first | omega | (simp only [List.length_append, List.length_cons, List.length_nil]; omega))) (fun M_36 q_36 => ?_)
  have hM9 := (show M_36 17 = jm_n w from ((((jm_tf.rf.tr q_24.2.2).tr q_30.2.2).tr q_36.2.2).1 17 (by decide) (by decide)).trans hM)
  have tf9 := (((jm_tf.rf.tr q_24.2.2).tr q_30.2.2).tr q_36.2.2)
  have tr9 := q_36.2.1
  refine jm_ild_n (Y := YX6_stickMark) (pc := 39) (i := 1) dX6_stickMark_39 rfl rfl ?_
  refine jm_ald_n (Y := YX6_stickMark) (pc := 40) (i := 0) dX6_stickMark_40 rfl rfl ?_
  refine jm_getR (Y := YX6_stickMark) (pc := 41) dX6_stickMark_41 fr_RX6_25 rfl (by decide) rfl ?_
  refine jm_bpN (Y := YX6_stickMark) (pc := 44) 17 dX6_stickMark_44 rfl ?_
  refine jm_icN (Y := YX6_stickMark) (pc := 46) 4 dX6_stickMark_46 rfl ?_
  refine jm_ild_n (Y := YX6_stickMark) (pc := 47) (i := 1) dX6_stickMark_47 rfl rfl ?_
  refine jm_mulN (Y := YX6_stickMark) (pc := 48) dX6_stickMark_48 ?_
  refine jm_addN (Y := YX6_stickMark) (pc := 49) dX6_stickMark_49 ?_
  refine jm_icN (Y := YX6_stickMark) (pc := 50) 2 dX6_stickMark_50 rfl ?_
  refine jm_addN (Y := YX6_stickMark) (pc := 51) dX6_stickMark_51 ?_
  refine jm_ialN (Y := YX6_stickMark) (pc := 52) dX6_stickMark_52 (by first | assumption | exact jm_arR1 ha | exact jm_arR2 ha | exact jm_arR3 ha | exact jm_arR1 hb | exact jm_arR2 hb | exact jm_arR3 hb | rfl) (by first | omega | exact jm_lt hb _) (by first | assumption | exact jm_rdN hM9 | rfl) ?_
  refine jm_addN (Y := YX6_stickMark) (pc := 53) dX6_stickMark_53 ?_
  refine jm_ist_n (Y := YX6_stickMark) (pc := 54) (i := 3) (ls' := [_, _, _, _]) dX6_stickMark_54 rfl (Nat.le_of_ble_eq_true rfl) rfl rfl ?_
  refine jm_ild_n (Y := YX6_stickMark) (pc := 55) (i := 2) dX6_stickMark_55 rfl rfl ?_
  refine jm_icN (Y := YX6_stickMark) (pc := 56) 2 dX6_stickMark_56 rfl ?_
  refine jm_icmp_neN (Y := YX6_stickMark) (pc := 57) dX6_stickMark_57 rfl (by first | omega | exact jm_lt hb _) (by first | omega | exact jm_lt hb _) (fun h_57 => by exfalso; first | omega | exact jm_lt hb _) (fun h_57 => ?_)
  refine jm_icN (Y := YX6_stickMark) (pc := 60) 2 dX6_stickMark_60 rfl ?_
  refine jm_ild_n (Y := YX6_stickMark) (pc := 61) (i := 3) dX6_stickMark_61 rfl rfl ?_
  refine jm_mulN (Y := YX6_stickMark) (pc := 62) dX6_stickMark_62 ?_
  refine jm_goto (Y := YX6_stickMark) (pc := 63) dX6_stickMark_63 rfl ?_
  refine jm_ret (Y := YX6_stickMark) (pc := 80) (st := []) dX6_stickMark_80 rfl rfl ?_
  exact ⟨rfl, (by simpa only [List.append_assoc, List.cons_append, List.nil_append] using tr9), tf9⟩
theorem c_stickMark3 (w : Nat → Nat) (M : jm_M) (hM : M 17 = jm_n w) (hg : rG w) (L : List Nat) (hT : jm_tr 11 23 21 M L) (k : Nat) (hk : k < w 3) (hk7 : k < 7) (hkd : w (17 + 4 * k) = 3) (hl : L.length + 4 ≤ 16) : jm_J none YX6_stickMark 0 [some (.ref 11), some (.int (nI k)), none, none] [] M (fun o M1 => o = some (.int (nI (k + w (17 + 4 * k + 2)) - nI 1000)) ∧ jm_tr 11 23 21 M1 (L ++ [22, 21, 20]) ∧ jm_tf 11 23 21 M M1) := by
  have hb := hg.hb
  refine jm_ald_n (Y := YX6_stickMark) (pc := 0) (i := 0) dX6_stickMark_0 rfl rfl ?_
  refine jm_ild_n (Y := YX6_stickMark) (pc := 1) (i := 1) dX6_stickMark_1 rfl rfl ?_
  refine jm_V1ie (Y := YX6_stickMark) (pc := 2) dX6_stickMark_2 lk_RX6_224 ⟨_, rfl⟩ rfl rfl (by decide) (Nat.le_of_ble_eq_true rfl) ⟨by decide, by decide⟩ (c_kindIn w M hM hg k hk7) ?_
  refine jm_ist_n (Y := YX6_stickMark) (pc := 5) (i := 2) (ls' := [_, _, _, _]) dX6_stickMark_5 rfl (Nat.le_of_ble_eq_true rfl) rfl rfl ?_
  refine jm_ild_n (Y := YX6_stickMark) (pc := 6) (i := 2) dX6_stickMark_6 rfl rfl ?_
  refine jm_icN (Y := YX6_stickMark) (pc := 7) 1 dX6_stickMark_7 rfl ?_
  refine jm_icmp_eqN (Y := YX6_stickMark) (pc := 8) dX6_stickMark_8 rfl (by first | omega | exact jm_lt hb _) (by first | omega | exact jm_lt hb _) (fun h_8 => by exfalso; first | omega | exact jm_lt hb _) (fun h_8 => ?_)
  refine jm_ald_n (Y := YX6_stickMark) (pc := 11) (i := 0) dX6_stickMark_11 rfl rfl ?_
  refine jm_ild_n (Y := YX6_stickMark) (pc := 12) (i := 2) dX6_stickMark_12 rfl rfl ?_
  refine jm_icN (Y := YX6_stickMark) (pc := 13) 2 dX6_stickMark_13 rfl ?_
  refine jm_icmp_neN (Y := YX6_stickMark) (pc := 14) dX6_stickMark_14 rfl (by first | omega | exact jm_lt hb _) (by first | omega | exact jm_lt hb _) (fun h_14 => ?_) (fun h_14 => by exfalso; first | omega | exact jm_lt hb _)
  refine jm_bpN (Y := YX6_stickMark) (pc := 22) 22 dX6_stickMark_22 rfl ?_
  refine jm_V1v (Y := YX6_stickMark) (pc := 24) dX6_stickMark_24 lk_RX6_230 rfl rfl rfl (by decide) (Nat.le_of_ble_eq_true rfl) ⟨by decide, by decide⟩ (c_begins M (L) 22 hT (by first | omega | (simp only [List.length_append, List.length_cons, List.length_nil]; omega))) (fun M_24 q_24 => ?_)
  refine jm_ald_n (Y := YX6_stickMark) (pc := 27) (i := 0) dX6_stickMark_27 rfl rfl ?_
  refine jm_bpN (Y := YX6_stickMark) (pc := 28) 21 dX6_stickMark_28 rfl ?_
  refine jm_V1v (Y := YX6_stickMark) (pc := 30) dX6_stickMark_30 lk_RX6_230 rfl rfl rfl (by decide) (Nat.le_of_ble_eq_true rfl) ⟨by decide, by decide⟩ (c_begins M_24 (L ++ [22]) 21 q_24.2.1 (by first | omega | (simp only [List.length_append, List.length_cons, List.length_nil]; omega))) (fun M_30 q_30 => ?_)
  refine jm_ald_n (Y := YX6_stickMark) (pc := 33) (i := 0) dX6_stickMark_33 rfl rfl ?_
  refine jm_bpN (Y := YX6_stickMark) (pc := 34) 20 dX6_stickMark_34 rfl ?_
  refine jm_V1v (Y := YX6_stickMark) (pc := 36) dX6_stickMark_36 lk_RX6_230 rfl rfl rfl (by decide) (Nat.le_of_ble_eq_true rfl) ⟨by decide, by decide⟩ (c_begins M_30 (L ++ [22] ++ [21]) 20 q_30.2.1 (by first | omega | (simp only [List.length_append, List.length_cons, List.length_nil]; omega))) (fun M_36 q_36 => ?_)
  have hM9 := (show M_36 17 = jm_n w from ((((jm_tf.rf.tr q_24.2.2).tr q_30.2.2).tr q_36.2.2).1 17 (by decide) (by decide)).trans hM)
  have tf9 := (((jm_tf.rf.tr q_24.2.2).tr q_30.2.2).tr q_36.2.2)
  have tr9 := q_36.2.1
  refine jm_ild_n (Y := YX6_stickMark) (pc := 39) (i := 1) dX6_stickMark_39 rfl rfl ?_
  refine jm_ald_n (Y := YX6_stickMark) (pc := 40) (i := 0) dX6_stickMark_40 rfl rfl ?_
  refine jm_getR (Y := YX6_stickMark) (pc := 41) dX6_stickMark_41 fr_RX6_25 rfl (by decide) rfl ?_
  refine jm_bpN (Y := YX6_stickMark) (pc := 44) 17 dX6_stickMark_44 rfl ?_
  refine jm_icN (Y := YX6_stickMark) (pc := 46) 4 dX6_stickMark_46 rfl ?_
  refine jm_ild_n (Y := YX6_stickMark) (pc := 47) (i := 1) dX6_stickMark_47 rfl rfl ?_
  refine jm_mulN (Y := YX6_stickMark) (pc := 48) dX6_stickMark_48 ?_
  refine jm_addN (Y := YX6_stickMark) (pc := 49) dX6_stickMark_49 ?_
  refine jm_icN (Y := YX6_stickMark) (pc := 50) 2 dX6_stickMark_50 rfl ?_
  refine jm_addN (Y := YX6_stickMark) (pc := 51) dX6_stickMark_51 ?_
  refine jm_ialN (Y := YX6_stickMark) (pc := 52) dX6_stickMark_52 (by first | assumption | exact jm_arR1 ha | exact jm_arR2 ha | exact jm_arR3 ha | exact jm_arR1 hb | exact jm_arR2 hb | exact jm_arR3 hb | rfl) (by first | omega | exact jm_lt hb _) (by first | assumption | exact jm_rdN hM9 | rfl) ?_
  refine jm_addN (Y := YX6_stickMark) (pc := 53) dX6_stickMark_53 ?_
  refine jm_ist_n (Y := YX6_stickMark) (pc := 54) (i := 3) (ls' := [_, _, _, _]) dX6_stickMark_54 rfl (Nat.le_of_ble_eq_true rfl) rfl rfl ?_
  refine jm_ild_n (Y := YX6_stickMark) (pc := 55) (i := 2) dX6_stickMark_55 rfl rfl ?_
  refine jm_icN (Y := YX6_stickMark) (pc := 56) 2 dX6_stickMark_56 rfl ?_
  refine jm_icmp_neN (Y := YX6_stickMark) (pc := 57) dX6_stickMark_57 rfl (by first | omega | exact jm_lt hb _) (by first | omega | exact jm_lt hb _) (fun h_57 => ?_) (fun h_57 => by exfalso; first | omega | exact jm_lt hb _)
  refine jm_ild_n (Y := YX6_stickMark) (pc := 66) (i := 2) dX6_stickMark_66 rfl rfl ?_
  refine jm_icN (Y := YX6_stickMark) (pc := 67) 3 dX6_stickMark_67 rfl ?_
  refine jm_icmp_neN (Y := YX6_stickMark) (pc := 68) dX6_stickMark_68 rfl (by first | omega | exact jm_lt hb _) (by first | omega | exact jm_lt hb _) (fun h_68 => by exfalso; first | omega | exact jm_lt hb _) (fun h_68 => ?_)
  refine jm_ild_n (Y := YX6_stickMark) (pc := 71) (i := 3) dX6_stickMark_71 rfl rfl ?_
  refine jm_spN (Y := YX6_stickMark) (pc := 72) 1000 dX6_stickMark_72 rfl ?_
  refine jm_isub (Y := YX6_stickMark) (pc := 75) dX6_stickMark_75 ?_
  refine jm_goto (Y := YX6_stickMark) (pc := 76) dX6_stickMark_76 rfl ?_
  refine jm_ret (Y := YX6_stickMark) (pc := 80) (st := []) dX6_stickMark_80 rfl rfl ?_
  exact ⟨rfl, (by simpa only [List.append_assoc, List.cons_append, List.nil_append] using tr9), tf9⟩
theorem c_salmonSize4 (w : Nat → Nat) (M : jm_M) (hM : M 17 = jm_n w) (hg : rG w) (L : List Nat) (hT : jm_tr 11 23 21 M L) (k : Nat) (hk : k < w 3) (hk7 : k < 7) (hkd : w (17 + 4 * k) = 4) (hl : L.length + 4 ≤ 16) : jm_J none YX6_salmonSize 0 [some (.ref 11), some (.int (nI k)), none, none] [] M (fun o M1 => o = some (.int (nI (w (17 + 4 * k + 1)) - nI 100)) ∧ jm_tr 11 23 21 M1 (L ++ [13, 10]) ∧ jm_tf 11 23 21 M M1) := by
  have hb := hg.hb
  refine jm_ald_n (Y := YX6_salmonSize) (pc := 0) (i := 0) dX6_salmonSize_0 rfl rfl ?_
  refine jm_ild_n (Y := YX6_salmonSize) (pc := 1) (i := 1) dX6_salmonSize_1 rfl rfl ?_
  refine jm_V1ie (Y := YX6_salmonSize) (pc := 2) dX6_salmonSize_2 lk_RX6_224 ⟨_, rfl⟩ rfl rfl (by decide) (Nat.le_of_ble_eq_true rfl) ⟨by decide, by decide⟩ (c_kindIn w M hM hg k hk7) ?_
  refine jm_icN (Y := YX6_salmonSize) (pc := 5) 5 dX6_salmonSize_5 rfl ?_
  refine jm_icmp_neN (Y := YX6_salmonSize) (pc := 6) dX6_salmonSize_6 rfl (by first | omega | exact jm_lt hb _) (by first | omega | exact jm_lt hb _) (fun h_6 => ?_) (fun h_6 => by exfalso; first | omega | exact jm_lt hb _)
  refine jm_icN (Y := YX6_salmonSize) (pc := 13) 0 dX6_salmonSize_13 rfl ?_
  refine jm_ist_n (Y := YX6_salmonSize) (pc := 14) (i := 2) (ls' := [_, _, _, _]) dX6_salmonSize_14 rfl (Nat.le_of_ble_eq_true rfl) rfl rfl ?_
  refine jm_ild_n (Y := YX6_salmonSize) (pc := 15) (i := 2) dX6_salmonSize_15 rfl rfl ?_
  refine jm_if_eqN (Y := YX6_salmonSize) (pc := 16) dX6_salmonSize_16 rfl (by first | omega | exact jm_lt hb _) (fun h_16 => ?_) (fun h_16 => by exfalso; first | omega | exact jm_lt hb _)
  refine jm_ald_n (Y := YX6_salmonSize) (pc := 25) (i := 0) dX6_salmonSize_25 rfl rfl ?_
  refine jm_bpN (Y := YX6_salmonSize) (pc := 26) 13 dX6_salmonSize_26 rfl ?_
  refine jm_V1v (Y := YX6_salmonSize) (pc := 28) dX6_salmonSize_28 lk_RX6_230 rfl rfl rfl (by decide) (Nat.le_of_ble_eq_true rfl) ⟨by decide, by decide⟩ (c_begins M (L) 13 hT (by first | omega | (simp only [List.length_append, List.length_cons, List.length_nil]; omega))) (fun M_28 q_28 => ?_)
  refine jm_ald_n (Y := YX6_salmonSize) (pc := 31) (i := 0) dX6_salmonSize_31 rfl rfl ?_
  refine jm_bpN (Y := YX6_salmonSize) (pc := 32) 10 dX6_salmonSize_32 rfl ?_
  refine jm_V1v (Y := YX6_salmonSize) (pc := 34) dX6_salmonSize_34 lk_RX6_230 rfl rfl rfl (by decide) (Nat.le_of_ble_eq_true rfl) ⟨by decide, by decide⟩ (c_begins M_28 (L ++ [13]) 10 q_28.2.1 (by first | omega | (simp only [List.length_append, List.length_cons, List.length_nil]; omega))) (fun M_34 q_34 => ?_)
  have hM9 := (show M_34 17 = jm_n w from (((jm_tf.rf.tr q_28.2.2).tr q_34.2.2).1 17 (by decide) (by decide)).trans hM)
  have tf9 := ((jm_tf.rf.tr q_28.2.2).tr q_34.2.2)
  have tr9 := q_34.2.1
  refine jm_ald_n (Y := YX6_salmonSize) (pc := 37) (i := 0) dX6_salmonSize_37 rfl rfl ?_
  refine jm_getR (Y := YX6_salmonSize) (pc := 38) dX6_salmonSize_38 fr_RX6_25 rfl (by decide) rfl ?_
  refine jm_bpN (Y := YX6_salmonSize) (pc := 41) 17 dX6_salmonSize_41 rfl ?_
  refine jm_icN (Y := YX6_salmonSize) (pc := 43) 4 dX6_salmonSize_43 rfl ?_
  refine jm_ild_n (Y := YX6_salmonSize) (pc := 44) (i := 1) dX6_salmonSize_44 rfl rfl ?_
  refine jm_mulN (Y := YX6_salmonSize) (pc := 45) dX6_salmonSize_45 ?_
  refine jm_addN (Y := YX6_salmonSize) (pc := 46) dX6_salmonSize_46 ?_
  refine jm_icN (Y := YX6_salmonSize) (pc := 47) 1 dX6_salmonSize_47 rfl ?_
  refine jm_addN (Y := YX6_salmonSize) (pc := 48) dX6_salmonSize_48 ?_
  refine jm_ialN (Y := YX6_salmonSize) (pc := 49) dX6_salmonSize_49 (by first | assumption | exact jm_arR1 ha | exact jm_arR2 ha | exact jm_arR3 ha | exact jm_arR1 hb | exact jm_arR2 hb | exact jm_arR3 hb | rfl) (by first | omega | exact jm_lt hb _) (by first | assumption | exact jm_rdN hM9 | rfl) ?_
  refine jm_bpN (Y := YX6_salmonSize) (pc := 50) 100 dX6_salmonSize_50 rfl ?_
  refine jm_isub (Y := YX6_salmonSize) (pc := 52) dX6_salmonSize_52 ?_
  refine jm_ist_n (Y := YX6_salmonSize) (pc := 53) (i := 3) (ls' := [_, _, _, _]) dX6_salmonSize_53 rfl (Nat.le_of_ble_eq_true rfl) rfl rfl ?_
  refine jm_ild_n (Y := YX6_salmonSize) (pc := 54) (i := 2) dX6_salmonSize_54 rfl rfl ?_
  refine jm_if_eqN (Y := YX6_salmonSize) (pc := 55) dX6_salmonSize_55 rfl (by first | omega | exact jm_lt hb _) (fun h_55 => ?_) (fun h_55 => by exfalso; first | omega | exact jm_lt hb _)
  refine jm_ild_n (Y := YX6_salmonSize) (pc := 64) (i := 3) dX6_salmonSize_64 rfl rfl ?_
  refine jm_ret (Y := YX6_salmonSize) (pc := 65) (st := []) dX6_salmonSize_65 rfl rfl ?_
  exact ⟨rfl, (by simpa only [List.append_assoc, List.cons_append, List.nil_append] using tr9), tf9⟩
theorem c_salmonMark4 (w : Nat → Nat) (M : jm_M) (hM : M 17 = jm_n w) (hg : rG w) (L : List Nat) (hT : jm_tr 11 23 21 M L) (k : Nat) (hk : k < w 3) (hk7 : k < 7) (hkd : w (17 + 4 * k) = 4) (hl : L.length + 8 ≤ 16) : jm_J none YX6_salmonMark 0 [some (.ref 11), some (.int (nI k))] [] M (fun o M1 => o = some (.int (nI k - (nI (w (17 + 4 * k + 1)) - nI 100))) ∧ jm_tr 11 23 21 M1 (L ++ [23, 20, 13, 10]) ∧ jm_tf 11 23 21 M M1) := by
  refine jm_ald_n (Y := YX6_salmonMark) (pc := 0) (i := 0) dX6_salmonMark_0 rfl rfl ?_
  refine jm_bpN (Y := YX6_salmonMark) (pc := 1) 23 dX6_salmonMark_1 rfl ?_
  refine jm_V1v (Y := YX6_salmonMark) (pc := 3) dX6_salmonMark_3 lk_RX6_230 rfl rfl rfl (by decide) (Nat.le_of_ble_eq_true rfl) ⟨by decide, by decide⟩ (c_begins M (L) 23 hT (by first | omega | (simp only [List.length_append, List.length_cons, List.length_nil]; omega))) (fun M_3 q_3 => ?_)
  refine jm_ald_n (Y := YX6_salmonMark) (pc := 6) (i := 0) dX6_salmonMark_6 rfl rfl ?_
  refine jm_bpN (Y := YX6_salmonMark) (pc := 7) 20 dX6_salmonMark_7 rfl ?_
  refine jm_V1v (Y := YX6_salmonMark) (pc := 9) dX6_salmonMark_9 lk_RX6_230 rfl rfl rfl (by decide) (Nat.le_of_ble_eq_true rfl) ⟨by decide, by decide⟩ (c_begins M_3 (L ++ [23]) 20 q_3.2.1 (by first | omega | (simp only [List.length_append, List.length_cons, List.length_nil]; omega))) (fun M_9 q_9 => ?_)
  refine jm_ild_n (Y := YX6_salmonMark) (pc := 12) (i := 1) dX6_salmonMark_12 rfl rfl ?_
  refine jm_ald_n (Y := YX6_salmonMark) (pc := 13) (i := 0) dX6_salmonMark_13 rfl rfl ?_
  refine jm_ild_n (Y := YX6_salmonMark) (pc := 14) (i := 1) dX6_salmonMark_14 rfl rfl ?_
  refine jm_V1i (Y := YX6_salmonMark) (pc := 15) dX6_salmonMark_15 lk_RX6_236 ⟨_, rfl⟩ rfl rfl (by decide) (Nat.le_of_ble_eq_true rfl) ⟨by decide, by decide⟩ (c_salmonSize4 w M_9 (show M_9 17 = jm_n w from (((jm_tf.rf.tr q_3.2.2).tr q_9.2.2).1 17 (by decide) (by decide)).trans hM) hg (L ++ [23] ++ [20]) q_9.2.1 k hk hk7 hkd (by first | omega | (simp only [List.length_append, List.length_cons, List.length_nil]; omega))) (fun r_15 M_15 q_15 => ?_)
  obtain ⟨e15, t15, f15⟩ := q_15
  cases e15
  refine jm_isub (Y := YX6_salmonMark) (pc := 18) dX6_salmonMark_18 ?_
  refine jm_ret (Y := YX6_salmonMark) (pc := 19) (st := []) dX6_salmonMark_19 rfl rfl ?_
  exact ⟨rfl, (by simpa only [List.append_assoc, List.cons_append, List.nil_append] using t15), ((jm_tf.rf.tr q_3.2.2).tr q_9.2.2).tr f15⟩
theorem c_salmonSize5 (w : Nat → Nat) (M : jm_M) (hM : M 17 = jm_n w) (hg : rG w) (L : List Nat) (hT : jm_tr 11 23 21 M L) (k : Nat) (hk : k < w 3) (hk7 : k < 7) (hkd : w (17 + 4 * k) = 5) (hl : L.length + 4 ≤ 16) : jm_J none YX6_salmonSize 0 [some (.ref 11), some (.int (nI k)), none, none] [] M (fun o M1 => o = some (.int (nI 2 * (nI (w (17 + 4 * k + 1)) - nI 100))) ∧ jm_tr 11 23 21 M1 (L ++ [14, 13, 10]) ∧ jm_tf 11 23 21 M M1) := by
  have hb := hg.hb
  refine jm_ald_n (Y := YX6_salmonSize) (pc := 0) (i := 0) dX6_salmonSize_0 rfl rfl ?_
  refine jm_ild_n (Y := YX6_salmonSize) (pc := 1) (i := 1) dX6_salmonSize_1 rfl rfl ?_
  refine jm_V1ie (Y := YX6_salmonSize) (pc := 2) dX6_salmonSize_2 lk_RX6_224 ⟨_, rfl⟩ rfl rfl (by decide) (Nat.le_of_ble_eq_true rfl) ⟨by decide, by decide⟩ (c_kindIn w M hM hg k hk7) ?_
  refine jm_icN (Y := YX6_salmonSize) (pc := 5) 5 dX6_salmonSize_5 rfl ?_
  refine jm_icmp_neN (Y := YX6_salmonSize) (pc := 6) dX6_salmonSize_6 rfl (by first | omega | exact jm_lt hb _) (by first | omega | exact jm_lt hb _) (fun h_6 => by exfalso; first | omega | exact jm_lt hb _) (fun h_6 => ?_)
  refine jm_icN (Y := YX6_salmonSize) (pc := 9) 1 dX6_salmonSize_9 rfl ?_
  refine jm_goto (Y := YX6_salmonSize) (pc := 10) dX6_salmonSize_10 rfl ?_
  refine jm_ist_n (Y := YX6_salmonSize) (pc := 14) (i := 2) (ls' := [_, _, _, _]) dX6_salmonSize_14 rfl (Nat.le_of_ble_eq_true rfl) rfl rfl ?_
  refine jm_ild_n (Y := YX6_salmonSize) (pc := 15) (i := 2) dX6_salmonSize_15 rfl rfl ?_
  refine jm_if_eqN (Y := YX6_salmonSize) (pc := 16) dX6_salmonSize_16 rfl (by first | omega | exact jm_lt hb _) (fun h_16 => by exfalso; first | omega | exact jm_lt hb _) (fun h_16 => ?_)
  refine jm_ald_n (Y := YX6_salmonSize) (pc := 19) (i := 0) dX6_salmonSize_19 rfl rfl ?_
  refine jm_bpN (Y := YX6_salmonSize) (pc := 20) 14 dX6_salmonSize_20 rfl ?_
  refine jm_V1v (Y := YX6_salmonSize) (pc := 22) dX6_salmonSize_22 lk_RX6_230 rfl rfl rfl (by decide) (Nat.le_of_ble_eq_true rfl) ⟨by decide, by decide⟩ (c_begins M (L) 14 hT (by first | omega | (simp only [List.length_append, List.length_cons, List.length_nil]; omega))) (fun M_22 q_22 => ?_)
  refine jm_ald_n (Y := YX6_salmonSize) (pc := 25) (i := 0) dX6_salmonSize_25 rfl rfl ?_
  refine jm_bpN (Y := YX6_salmonSize) (pc := 26) 13 dX6_salmonSize_26 rfl ?_
  refine jm_V1v (Y := YX6_salmonSize) (pc := 28) dX6_salmonSize_28 lk_RX6_230 rfl rfl rfl (by decide) (Nat.le_of_ble_eq_true rfl) ⟨by decide, by decide⟩ (c_begins M_22 (L ++ [14]) 13 q_22.2.1 (by first | omega | (simp only [List.length_append, List.length_cons, List.length_nil]; omega))) (fun M_28 q_28 => ?_)
  refine jm_ald_n (Y := YX6_salmonSize) (pc := 31) (i := 0) dX6_salmonSize_31 rfl rfl ?_
  refine jm_bpN (Y := YX6_salmonSize) (pc := 32) 10 dX6_salmonSize_32 rfl ?_
  refine jm_V1v (Y := YX6_salmonSize) (pc := 34) dX6_salmonSize_34 lk_RX6_230 rfl rfl rfl (by decide) (Nat.le_of_ble_eq_true rfl) ⟨by decide, by decide⟩ (c_begins M_28 (L ++ [14] ++ [13]) 10 q_28.2.1 (by first | omega | (simp only [List.length_append, List.length_cons, List.length_nil]; omega))) (fun M_34 q_34 => ?_)
  have hM9 := (show M_34 17 = jm_n w from ((((jm_tf.rf.tr q_22.2.2).tr q_28.2.2).tr q_34.2.2).1 17 (by decide) (by decide)).trans hM)
  have tf9 := (((jm_tf.rf.tr q_22.2.2).tr q_28.2.2).tr q_34.2.2)
  have tr9 := q_34.2.1
  refine jm_ald_n (Y := YX6_salmonSize) (pc := 37) (i := 0) dX6_salmonSize_37 rfl rfl ?_
  refine jm_getR (Y := YX6_salmonSize) (pc := 38) dX6_salmonSize_38 fr_RX6_25 rfl (by decide) rfl ?_
  refine jm_bpN (Y := YX6_salmonSize) (pc := 41) 17 dX6_salmonSize_41 rfl ?_
  refine jm_icN (Y := YX6_salmonSize) (pc := 43) 4 dX6_salmonSize_43 rfl ?_
  refine jm_ild_n (Y := YX6_salmonSize) (pc := 44) (i := 1) dX6_salmonSize_44 rfl rfl ?_
  refine jm_mulN (Y := YX6_salmonSize) (pc := 45) dX6_salmonSize_45 ?_
  refine jm_addN (Y := YX6_salmonSize) (pc := 46) dX6_salmonSize_46 ?_
  refine jm_icN (Y := YX6_salmonSize) (pc := 47) 1 dX6_salmonSize_47 rfl ?_
  refine jm_addN (Y := YX6_salmonSize) (pc := 48) dX6_salmonSize_48 ?_
  refine jm_ialN (Y := YX6_salmonSize) (pc := 49) dX6_salmonSize_49 (by first | assumption | exact jm_arR1 ha | exact jm_arR2 ha | exact jm_arR3 ha | exact jm_arR1 hb | exact jm_arR2 hb | exact jm_arR3 hb | rfl) (by first | omega | exact jm_lt hb _) (by first | assumption | exact jm_rdN hM9 | rfl) ?_
  refine jm_bpN (Y := YX6_salmonSize) (pc := 50) 100 dX6_salmonSize_50 rfl ?_
  refine jm_isub (Y := YX6_salmonSize) (pc := 52) dX6_salmonSize_52 ?_
  refine jm_ist_n (Y := YX6_salmonSize) (pc := 53) (i := 3) (ls' := [_, _, _, _]) dX6_salmonSize_53 rfl (Nat.le_of_ble_eq_true rfl) rfl rfl ?_
  refine jm_ild_n (Y := YX6_salmonSize) (pc := 54) (i := 2) dX6_salmonSize_54 rfl rfl ?_
  refine jm_if_eqN (Y := YX6_salmonSize) (pc := 55) dX6_salmonSize_55 rfl (by first | omega | exact jm_lt hb _) (fun h_55 => by exfalso; first | omega | exact jm_lt hb _) (fun h_55 => ?_)
  refine jm_icN (Y := YX6_salmonSize) (pc := 58) 2 dX6_salmonSize_58 rfl ?_
  refine jm_ild_n (Y := YX6_salmonSize) (pc := 59) (i := 3) dX6_salmonSize_59 rfl rfl ?_
  refine jm_imul (Y := YX6_salmonSize) (pc := 60) dX6_salmonSize_60 ?_
  refine jm_goto (Y := YX6_salmonSize) (pc := 61) dX6_salmonSize_61 rfl ?_
  refine jm_ret (Y := YX6_salmonSize) (pc := 65) (st := []) dX6_salmonSize_65 rfl rfl ?_
  exact ⟨rfl, (by simpa only [List.append_assoc, List.cons_append, List.nil_append] using tr9), tf9⟩
theorem c_salmonMark5 (w : Nat → Nat) (M : jm_M) (hM : M 17 = jm_n w) (hg : rG w) (L : List Nat) (hT : jm_tr 11 23 21 M L) (k : Nat) (hk : k < w 3) (hk7 : k < 7) (hkd : w (17 + 4 * k) = 5) (hl : L.length + 8 ≤ 16) : jm_J none YX6_salmonMark 0 [some (.ref 11), some (.int (nI k))] [] M (fun o M1 => o = some (.int (nI k - (nI 2 * (nI (w (17 + 4 * k + 1)) - nI 100)))) ∧ jm_tr 11 23 21 M1 (L ++ [23, 20, 14, 13, 10]) ∧ jm_tf 11 23 21 M M1) := by
  refine jm_ald_n (Y := YX6_salmonMark) (pc := 0) (i := 0) dX6_salmonMark_0 rfl rfl ?_
  refine jm_bpN (Y := YX6_salmonMark) (pc := 1) 23 dX6_salmonMark_1 rfl ?_
  refine jm_V1v (Y := YX6_salmonMark) (pc := 3) dX6_salmonMark_3 lk_RX6_230 rfl rfl rfl (by decide) (Nat.le_of_ble_eq_true rfl) ⟨by decide, by decide⟩ (c_begins M (L) 23 hT (by first | omega | (simp only [List.length_append, List.length_cons, List.length_nil]; omega))) (fun M_3 q_3 => ?_)
  refine jm_ald_n (Y := YX6_salmonMark) (pc := 6) (i := 0) dX6_salmonMark_6 rfl rfl ?_
  refine jm_bpN (Y := YX6_salmonMark) (pc := 7) 20 dX6_salmonMark_7 rfl ?_
  refine jm_V1v (Y := YX6_salmonMark) (pc := 9) dX6_salmonMark_9 lk_RX6_230 rfl rfl rfl (by decide) (Nat.le_of_ble_eq_true rfl) ⟨by decide, by decide⟩ (c_begins M_3 (L ++ [23]) 20 q_3.2.1 (by first | omega | (simp only [List.length_append, List.length_cons, List.length_nil]; omega))) (fun M_9 q_9 => ?_)
  refine jm_ild_n (Y := YX6_salmonMark) (pc := 12) (i := 1) dX6_salmonMark_12 rfl rfl ?_
  refine jm_ald_n (Y := YX6_salmonMark) (pc := 13) (i := 0) dX6_salmonMark_13 rfl rfl ?_
  refine jm_ild_n (Y := YX6_salmonMark) (pc := 14) (i := 1) dX6_salmonMark_14 rfl rfl ?_
  refine jm_V1i (Y := YX6_salmonMark) (pc := 15) dX6_salmonMark_15 lk_RX6_236 ⟨_, rfl⟩ rfl rfl (by decide) (Nat.le_of_ble_eq_true rfl) ⟨by decide, by decide⟩ (c_salmonSize5 w M_9 (show M_9 17 = jm_n w from (((jm_tf.rf.tr q_3.2.2).tr q_9.2.2).1 17 (by decide) (by decide)).trans hM) hg (L ++ [23] ++ [20]) q_9.2.1 k hk hk7 hkd (by first | omega | (simp only [List.length_append, List.length_cons, List.length_nil]; omega))) (fun r_15 M_15 q_15 => ?_)
  obtain ⟨e15, t15, f15⟩ := q_15
  cases e15
  refine jm_isub (Y := YX6_salmonMark) (pc := 18) dX6_salmonMark_18 ?_
  refine jm_ret (Y := YX6_salmonMark) (pc := 19) (st := []) dX6_salmonMark_19 rfl rfl ?_
  exact ⟨rfl, (by simpa only [List.append_assoc, List.cons_append, List.nil_append] using t15), ((jm_tf.rf.tr q_3.2.2).tr q_9.2.2).tr f15⟩
theorem c_stickSize1 (w : Nat → Nat) (M : jm_M) (hM : M 17 = jm_n w) (hg : rG w) (L : List Nat) (hT : jm_tr 11 23 21 M L) (k : Nat) (hk : k < w 3) (hk7 : k < 7) (hkd : w (17 + 4 * k) = 1) (hl : L.length + 8 ≤ 16) : jm_J none YX6_stickSize 0 [some (.ref 11), some (.int (nI k)), none, none] [] M (fun o M1 => o = some (.int (nI (w (17 + 4 * k + 1)) + (nI (k + w (17 + 4 * k + 2))))) ∧ jm_tr 11 23 21 M1 (L ++ [11, 10, 21, 20]) ∧ jm_tf 11 23 21 M M1) := by
  have hb := hg.hb
  refine jm_ald_n (Y := YX6_stickSize) (pc := 0) (i := 0) dX6_stickSize_0 rfl rfl ?_
  refine jm_ild_n (Y := YX6_stickSize) (pc := 1) (i := 1) dX6_stickSize_1 rfl rfl ?_
  refine jm_V1ie (Y := YX6_stickSize) (pc := 2) dX6_stickSize_2 lk_RX6_224 ⟨_, rfl⟩ rfl rfl (by decide) (Nat.le_of_ble_eq_true rfl) ⟨by decide, by decide⟩ (c_kindIn w M hM hg k hk7) ?_
  refine jm_icN (Y := YX6_stickSize) (pc := 5) 2 dX6_stickSize_5 rfl ?_
  refine jm_icmp_neN (Y := YX6_stickSize) (pc := 6) dX6_stickSize_6 rfl (by first | omega | exact jm_lt hb _) (by first | omega | exact jm_lt hb _) (fun h_6 => ?_) (fun h_6 => by exfalso; first | omega | exact jm_lt hb _)
  refine jm_icN (Y := YX6_stickSize) (pc := 13) 0 dX6_stickSize_13 rfl ?_
  refine jm_ist_n (Y := YX6_stickSize) (pc := 14) (i := 2) (ls' := [_, _, _, _]) dX6_stickSize_14 rfl (Nat.le_of_ble_eq_true rfl) rfl rfl ?_
  refine jm_ild_n (Y := YX6_stickSize) (pc := 15) (i := 2) dX6_stickSize_15 rfl rfl ?_
  refine jm_if_eqN (Y := YX6_stickSize) (pc := 16) dX6_stickSize_16 rfl (by first | omega | exact jm_lt hb _) (fun h_16 => ?_) (fun h_16 => by exfalso; first | omega | exact jm_lt hb _)
  refine jm_ald_n (Y := YX6_stickSize) (pc := 25) (i := 0) dX6_stickSize_25 rfl rfl ?_
  refine jm_bpN (Y := YX6_stickSize) (pc := 26) 11 dX6_stickSize_26 rfl ?_
  refine jm_V1v (Y := YX6_stickSize) (pc := 28) dX6_stickSize_28 lk_RX6_230 rfl rfl rfl (by decide) (Nat.le_of_ble_eq_true rfl) ⟨by decide, by decide⟩ (c_begins M (L) 11 hT (by first | omega | (simp only [List.length_append, List.length_cons, List.length_nil]; omega))) (fun M_28 q_28 => ?_)
  refine jm_ald_n (Y := YX6_stickSize) (pc := 31) (i := 0) dX6_stickSize_31 rfl rfl ?_
  refine jm_bpN (Y := YX6_stickSize) (pc := 32) 10 dX6_stickSize_32 rfl ?_
  refine jm_V1v (Y := YX6_stickSize) (pc := 34) dX6_stickSize_34 lk_RX6_230 rfl rfl rfl (by decide) (Nat.le_of_ble_eq_true rfl) ⟨by decide, by decide⟩ (c_begins M_28 (L ++ [11]) 10 q_28.2.1 (by first | omega | (simp only [List.length_append, List.length_cons, List.length_nil]; omega))) (fun M_34 q_34 => ?_)
  have hM9 := (show M_34 17 = jm_n w from (((jm_tf.rf.tr q_28.2.2).tr q_34.2.2).1 17 (by decide) (by decide)).trans hM)
  refine jm_ald_n (Y := YX6_stickSize) (pc := 37) (i := 0) dX6_stickSize_37 rfl rfl ?_
  refine jm_getR (Y := YX6_stickSize) (pc := 38) dX6_stickSize_38 fr_RX6_25 rfl (by decide) rfl ?_
  refine jm_bpN (Y := YX6_stickSize) (pc := 41) 17 dX6_stickSize_41 rfl ?_
  refine jm_icN (Y := YX6_stickSize) (pc := 43) 4 dX6_stickSize_43 rfl ?_
  refine jm_ild_n (Y := YX6_stickSize) (pc := 44) (i := 1) dX6_stickSize_44 rfl rfl ?_
  refine jm_mulN (Y := YX6_stickSize) (pc := 45) dX6_stickSize_45 ?_
  refine jm_addN (Y := YX6_stickSize) (pc := 46) dX6_stickSize_46 ?_
  refine jm_icN (Y := YX6_stickSize) (pc := 47) 1 dX6_stickSize_47 rfl ?_
  refine jm_addN (Y := YX6_stickSize) (pc := 48) dX6_stickSize_48 ?_
  refine jm_ialN (Y := YX6_stickSize) (pc := 49) dX6_stickSize_49 (by first | assumption | exact jm_arR1 ha | exact jm_arR2 ha | exact jm_arR3 ha | exact jm_arR1 hb | exact jm_arR2 hb | exact jm_arR3 hb | rfl) (by first | omega | exact jm_lt hb _) (by first | assumption | exact jm_rdN hM9 | rfl) ?_
  refine jm_ald_n (Y := YX6_stickSize) (pc := 50) (i := 0) dX6_stickSize_50 rfl rfl ?_
  refine jm_ild_n (Y := YX6_stickSize) (pc := 51) (i := 1) dX6_stickSize_51 rfl rfl ?_
  refine jm_V1i (Y := YX6_stickSize) (pc := 52) dX6_stickSize_52 lk_RX6_233 ⟨_, rfl⟩ rfl rfl (by decide) (Nat.le_of_ble_eq_true rfl) ⟨by decide, by decide⟩ (c_stickMark1 w M_34 hM9 hg (L ++ [11] ++ [10]) q_34.2.1 k hk hk7 hkd (by first | omega | (simp only [List.length_append, List.length_cons, List.length_nil]; omega))) (fun r_52 M_52 q_52 => ?_)
  obtain ⟨e52, t52, f52⟩ := q_52
  cases e52
  refine jm_iadd (Y := YX6_stickSize) (pc := 55) dX6_stickSize_55 ?_
  refine jm_ist_n (Y := YX6_stickSize) (pc := 56) (i := 3) (ls' := [_, _, _, _]) dX6_stickSize_56 rfl (Nat.le_of_ble_eq_true rfl) rfl rfl ?_
  refine jm_ild_n (Y := YX6_stickSize) (pc := 57) (i := 2) dX6_stickSize_57 rfl rfl ?_
  refine jm_if_eqN (Y := YX6_stickSize) (pc := 58) dX6_stickSize_58 rfl (by first | omega | exact jm_lt hb _) (fun h_58 => ?_) (fun h_58 => by exfalso; first | omega | exact jm_lt hb _)
  refine jm_ild_n (Y := YX6_stickSize) (pc := 66) (i := 3) dX6_stickSize_66 rfl rfl ?_
  refine jm_ret (Y := YX6_stickSize) (pc := 67) (st := []) dX6_stickSize_67 rfl rfl ?_
  exact ⟨rfl, (by simpa only [List.append_assoc, List.cons_append, List.nil_append] using t52), ((jm_tf.rf.tr q_28.2.2).tr q_34.2.2).tr f52⟩
theorem c_stickSize2 (w : Nat → Nat) (M : jm_M) (hM : M 17 = jm_n w) (hg : rG w) (L : List Nat) (hT : jm_tr 11 23 21 M L) (k : Nat) (hk : k < w 3) (hk7 : k < 7) (hkd : w (17 + 4 * k) = 2) (hl : L.length + 8 ≤ 16) : jm_J none YX6_stickSize 0 [some (.ref 11), some (.int (nI k)), none, none] [] M (fun o M1 => o = some (.int (-(nI (w (17 + 4 * k + 1)) + (nI (2 * (k + w (17 + 4 * k + 2))))))) ∧ jm_tr 11 23 21 M1 (L ++ [12, 11, 10, 24, 21, 20]) ∧ jm_tf 11 23 21 M M1) := by
  have hb := hg.hb
  refine jm_ald_n (Y := YX6_stickSize) (pc := 0) (i := 0) dX6_stickSize_0 rfl rfl ?_
  refine jm_ild_n (Y := YX6_stickSize) (pc := 1) (i := 1) dX6_stickSize_1 rfl rfl ?_
  refine jm_V1ie (Y := YX6_stickSize) (pc := 2) dX6_stickSize_2 lk_RX6_224 ⟨_, rfl⟩ rfl rfl (by decide) (Nat.le_of_ble_eq_true rfl) ⟨by decide, by decide⟩ (c_kindIn w M hM hg k hk7) ?_
  refine jm_icN (Y := YX6_stickSize) (pc := 5) 2 dX6_stickSize_5 rfl ?_
  refine jm_icmp_neN (Y := YX6_stickSize) (pc := 6) dX6_stickSize_6 rfl (by first | omega | exact jm_lt hb _) (by first | omega | exact jm_lt hb _) (fun h_6 => by exfalso; first | omega | exact jm_lt hb _) (fun h_6 => ?_)
  refine jm_icN (Y := YX6_stickSize) (pc := 9) 1 dX6_stickSize_9 rfl ?_
  refine jm_goto (Y := YX6_stickSize) (pc := 10) dX6_stickSize_10 rfl ?_
  refine jm_ist_n (Y := YX6_stickSize) (pc := 14) (i := 2) (ls' := [_, _, _, _]) dX6_stickSize_14 rfl (Nat.le_of_ble_eq_true rfl) rfl rfl ?_
  refine jm_ild_n (Y := YX6_stickSize) (pc := 15) (i := 2) dX6_stickSize_15 rfl rfl ?_
  refine jm_if_eqN (Y := YX6_stickSize) (pc := 16) dX6_stickSize_16 rfl (by first | omega | exact jm_lt hb _) (fun h_16 => by exfalso; first | omega | exact jm_lt hb _) (fun h_16 => ?_)
  refine jm_ald_n (Y := YX6_stickSize) (pc := 19) (i := 0) dX6_stickSize_19 rfl rfl ?_
  refine jm_bpN (Y := YX6_stickSize) (pc := 20) 12 dX6_stickSize_20 rfl ?_
  refine jm_V1v (Y := YX6_stickSize) (pc := 22) dX6_stickSize_22 lk_RX6_230 rfl rfl rfl (by decide) (Nat.le_of_ble_eq_true rfl) ⟨by decide, by decide⟩ (c_begins M (L) 12 hT (by first | omega | (simp only [List.length_append, List.length_cons, List.length_nil]; omega))) (fun M_22 q_22 => ?_)
  refine jm_ald_n (Y := YX6_stickSize) (pc := 25) (i := 0) dX6_stickSize_25 rfl rfl ?_
  refine jm_bpN (Y := YX6_stickSize) (pc := 26) 11 dX6_stickSize_26 rfl ?_
  refine jm_V1v (Y := YX6_stickSize) (pc := 28) dX6_stickSize_28 lk_RX6_230 rfl rfl rfl (by decide) (Nat.le_of_ble_eq_true rfl) ⟨by decide, by decide⟩ (c_begins M_22 (L ++ [12]) 11 q_22.2.1 (by first | omega | (simp only [List.length_append, List.length_cons, List.length_nil]; omega))) (fun M_28 q_28 => ?_)
  refine jm_ald_n (Y := YX6_stickSize) (pc := 31) (i := 0) dX6_stickSize_31 rfl rfl ?_
  refine jm_bpN (Y := YX6_stickSize) (pc := 32) 10 dX6_stickSize_32 rfl ?_
  refine jm_V1v (Y := YX6_stickSize) (pc := 34) dX6_stickSize_34 lk_RX6_230 rfl rfl rfl (by decide) (Nat.le_of_ble_eq_true rfl) ⟨by decide, by decide⟩ (c_begins M_28 (L ++ [12] ++ [11]) 10 q_28.2.1 (by first | omega | (simp only [List.length_append, List.length_cons, List.length_nil]; omega))) (fun M_34 q_34 => ?_)
  have hM9 := (show M_34 17 = jm_n w from ((((jm_tf.rf.tr q_22.2.2).tr q_28.2.2).tr q_34.2.2).1 17 (by decide) (by decide)).trans hM)
  refine jm_ald_n (Y := YX6_stickSize) (pc := 37) (i := 0) dX6_stickSize_37 rfl rfl ?_
  refine jm_getR (Y := YX6_stickSize) (pc := 38) dX6_stickSize_38 fr_RX6_25 rfl (by decide) rfl ?_
  refine jm_bpN (Y := YX6_stickSize) (pc := 41) 17 dX6_stickSize_41 rfl ?_
  refine jm_icN (Y := YX6_stickSize) (pc := 43) 4 dX6_stickSize_43 rfl ?_
  refine jm_ild_n (Y := YX6_stickSize) (pc := 44) (i := 1) dX6_stickSize_44 rfl rfl ?_
  refine jm_mulN (Y := YX6_stickSize) (pc := 45) dX6_stickSize_45 ?_
  refine jm_addN (Y := YX6_stickSize) (pc := 46) dX6_stickSize_46 ?_
  refine jm_icN (Y := YX6_stickSize) (pc := 47) 1 dX6_stickSize_47 rfl ?_
  refine jm_addN (Y := YX6_stickSize) (pc := 48) dX6_stickSize_48 ?_
  refine jm_ialN (Y := YX6_stickSize) (pc := 49) dX6_stickSize_49 (by first | assumption | exact jm_arR1 ha | exact jm_arR2 ha | exact jm_arR3 ha | exact jm_arR1 hb | exact jm_arR2 hb | exact jm_arR3 hb | rfl) (by first | omega | exact jm_lt hb _) (by first | assumption | exact jm_rdN hM9 | rfl) ?_
  refine jm_ald_n (Y := YX6_stickSize) (pc := 50) (i := 0) dX6_stickSize_50 rfl rfl ?_
  refine jm_ild_n (Y := YX6_stickSize) (pc := 51) (i := 1) dX6_stickSize_51 rfl rfl ?_
  refine jm_V1i (Y := YX6_stickSize) (pc := 52) dX6_stickSize_52 lk_RX6_233 ⟨_, rfl⟩ rfl rfl (by decide) (Nat.le_of_ble_eq_true rfl) ⟨by decide, by decide⟩ (c_stickMark2 w M_34 hM9 hg (L ++ [12] ++ [11] ++ [10]) q_34.2.1 k hk hk7 hkd (by first | omega | (simp only [List.length_append, List.length_cons, List.length_nil]; omega))) (fun r_52 M_52 q_52 => ?_)
  obtain ⟨e52, t52, f52⟩ := q_52
  cases e52
  refine jm_iadd (Y := YX6_stickSize) (pc := 55) dX6_stickSize_55 ?_
  refine jm_ist_n (Y := YX6_stickSize) (pc := 56) (i := 3) (ls' := [_, _, _, _]) dX6_stickSize_56 rfl (Nat.le_of_ble_eq_true rfl) rfl rfl ?_
  refine jm_ild_n (Y := YX6_stickSize) (pc := 57) (i := 2) dX6_stickSize_57 rfl rfl ?_
  refine jm_if_eqN (Y := YX6_stickSize) (pc := 58) dX6_stickSize_58 rfl (by first | omega | exact jm_lt hb _) (fun h_58 => by exfalso; first | omega | exact jm_lt hb _) (fun h_58 => ?_)
  refine jm_ild_n (Y := YX6_stickSize) (pc := 61) (i := 3) dX6_stickSize_61 rfl rfl ?_
  refine jm_ineg (Y := YX6_stickSize) (pc := 62) dX6_stickSize_62 ?_
  refine jm_goto (Y := YX6_stickSize) (pc := 63) dX6_stickSize_63 rfl ?_
  refine jm_ret (Y := YX6_stickSize) (pc := 67) (st := []) dX6_stickSize_67 rfl rfl ?_
  exact ⟨rfl, (by simpa only [List.append_assoc, List.cons_append, List.nil_append] using t52), (((jm_tf.rf.tr q_22.2.2).tr q_28.2.2).tr q_34.2.2).tr f52⟩
theorem c_stickSize3 (w : Nat → Nat) (M : jm_M) (hM : M 17 = jm_n w) (hg : rG w) (L : List Nat) (hT : jm_tr 11 23 21 M L) (k : Nat) (hk : k < w 3) (hk7 : k < 7) (hkd : w (17 + 4 * k) = 3) (hl : L.length + 8 ≤ 16) : jm_J none YX6_stickSize 0 [some (.ref 11), some (.int (nI k)), none, none] [] M (fun o M1 => o = some (.int (nI (w (17 + 4 * k + 1)) + (nI (k + w (17 + 4 * k + 2)) - nI 1000))) ∧ jm_tr 11 23 21 M1 (L ++ [11, 10, 22, 21, 20]) ∧ jm_tf 11 23 21 M M1) := by
  have hb := hg.hb
  refine jm_ald_n (Y := YX6_stickSize) (pc := 0) (i := 0) dX6_stickSize_0 rfl rfl ?_
  refine jm_ild_n (Y := YX6_stickSize) (pc := 1) (i := 1) dX6_stickSize_1 rfl rfl ?_
  refine jm_V1ie (Y := YX6_stickSize) (pc := 2) dX6_stickSize_2 lk_RX6_224 ⟨_, rfl⟩ rfl rfl (by decide) (Nat.le_of_ble_eq_true rfl) ⟨by decide, by decide⟩ (c_kindIn w M hM hg k hk7) ?_
  refine jm_icN (Y := YX6_stickSize) (pc := 5) 2 dX6_stickSize_5 rfl ?_
  refine jm_icmp_neN (Y := YX6_stickSize) (pc := 6) dX6_stickSize_6 rfl (by first | omega | exact jm_lt hb _) (by first | omega | exact jm_lt hb _) (fun h_6 => ?_) (fun h_6 => by exfalso; first | omega | exact jm_lt hb _)
  refine jm_icN (Y := YX6_stickSize) (pc := 13) 0 dX6_stickSize_13 rfl ?_
  refine jm_ist_n (Y := YX6_stickSize) (pc := 14) (i := 2) (ls' := [_, _, _, _]) dX6_stickSize_14 rfl (Nat.le_of_ble_eq_true rfl) rfl rfl ?_
  refine jm_ild_n (Y := YX6_stickSize) (pc := 15) (i := 2) dX6_stickSize_15 rfl rfl ?_
  refine jm_if_eqN (Y := YX6_stickSize) (pc := 16) dX6_stickSize_16 rfl (by first | omega | exact jm_lt hb _) (fun h_16 => ?_) (fun h_16 => by exfalso; first | omega | exact jm_lt hb _)
  refine jm_ald_n (Y := YX6_stickSize) (pc := 25) (i := 0) dX6_stickSize_25 rfl rfl ?_
  refine jm_bpN (Y := YX6_stickSize) (pc := 26) 11 dX6_stickSize_26 rfl ?_
  refine jm_V1v (Y := YX6_stickSize) (pc := 28) dX6_stickSize_28 lk_RX6_230 rfl rfl rfl (by decide) (Nat.le_of_ble_eq_true rfl) ⟨by decide, by decide⟩ (c_begins M (L) 11 hT (by first | omega | (simp only [List.length_append, List.length_cons, List.length_nil]; omega))) (fun M_28 q_28 => ?_)
  refine jm_ald_n (Y := YX6_stickSize) (pc := 31) (i := 0) dX6_stickSize_31 rfl rfl ?_
  refine jm_bpN (Y := YX6_stickSize) (pc := 32) 10 dX6_stickSize_32 rfl ?_
  refine jm_V1v (Y := YX6_stickSize) (pc := 34) dX6_stickSize_34 lk_RX6_230 rfl rfl rfl (by decide) (Nat.le_of_ble_eq_true rfl) ⟨by decide, by decide⟩ (c_begins M_28 (L ++ [11]) 10 q_28.2.1 (by first | omega | (simp only [List.length_append, List.length_cons, List.length_nil]; omega))) (fun M_34 q_34 => ?_)
  have hM9 := (show M_34 17 = jm_n w from (((jm_tf.rf.tr q_28.2.2).tr q_34.2.2).1 17 (by decide) (by decide)).trans hM)
  refine jm_ald_n (Y := YX6_stickSize) (pc := 37) (i := 0) dX6_stickSize_37 rfl rfl ?_
  refine jm_getR (Y := YX6_stickSize) (pc := 38) dX6_stickSize_38 fr_RX6_25 rfl (by decide) rfl ?_
  refine jm_bpN (Y := YX6_stickSize) (pc := 41) 17 dX6_stickSize_41 rfl ?_
  refine jm_icN (Y := YX6_stickSize) (pc := 43) 4 dX6_stickSize_43 rfl ?_
  refine jm_ild_n (Y := YX6_stickSize) (pc := 44) (i := 1) dX6_stickSize_44 rfl rfl ?_
  refine jm_mulN (Y := YX6_stickSize) (pc := 45) dX6_stickSize_45 ?_
  refine jm_addN (Y := YX6_stickSize) (pc := 46) dX6_stickSize_46 ?_
  refine jm_icN (Y := YX6_stickSize) (pc := 47) 1 dX6_stickSize_47 rfl ?_
  refine jm_addN (Y := YX6_stickSize) (pc := 48) dX6_stickSize_48 ?_
  refine jm_ialN (Y := YX6_stickSize) (pc := 49) dX6_stickSize_49 (by first | assumption | exact jm_arR1 ha | exact jm_arR2 ha | exact jm_arR3 ha | exact jm_arR1 hb | exact jm_arR2 hb | exact jm_arR3 hb | rfl) (by first | omega | exact jm_lt hb _) (by first | assumption | exact jm_rdN hM9 | rfl) ?_
  refine jm_ald_n (Y := YX6_stickSize) (pc := 50) (i := 0) dX6_stickSize_50 rfl rfl ?_
  refine jm_ild_n (Y := YX6_stickSize) (pc := 51) (i := 1) dX6_stickSize_51 rfl rfl ?_
  refine jm_V1i (Y := YX6_stickSize) (pc := 52) dX6_stickSize_52 lk_RX6_233 ⟨_, rfl⟩ rfl rfl (by decide) (Nat.le_of_ble_eq_true rfl) ⟨by decide, by decide⟩ (c_stickMark3 w M_34 hM9 hg (L ++ [11] ++ [10]) q_34.2.1 k hk hk7 hkd (by first | omega | (simp only [List.length_append, List.length_cons, List.length_nil]; omega))) (fun r_52 M_52 q_52 => ?_)
  obtain ⟨e52, t52, f52⟩ := q_52
  cases e52
  refine jm_iadd (Y := YX6_stickSize) (pc := 55) dX6_stickSize_55 ?_
  refine jm_ist_n (Y := YX6_stickSize) (pc := 56) (i := 3) (ls' := [_, _, _, _]) dX6_stickSize_56 rfl (Nat.le_of_ble_eq_true rfl) rfl rfl ?_
  refine jm_ild_n (Y := YX6_stickSize) (pc := 57) (i := 2) dX6_stickSize_57 rfl rfl ?_
  refine jm_if_eqN (Y := YX6_stickSize) (pc := 58) dX6_stickSize_58 rfl (by first | omega | exact jm_lt hb _) (fun h_58 => ?_) (fun h_58 => by exfalso; first | omega | exact jm_lt hb _)
  refine jm_ild_n (Y := YX6_stickSize) (pc := 66) (i := 3) dX6_stickSize_66 rfl rfl ?_
  refine jm_ret (Y := YX6_stickSize) (pc := 67) (st := []) dX6_stickSize_67 rfl rfl ?_
  exact ⟨rfl, (by simpa only [List.append_assoc, List.cons_append, List.nil_append] using t52), ((jm_tf.rf.tr q_28.2.2).tr q_34.2.2).tr f52⟩
def a_sz (w : Nat → Nat) (k : Nat) : Int32 := if w (17 + 4 * k) = 1 then nI (w (17 + 4 * k + 1)) + (nI (k + w (17 + 4 * k + 2))) else if w (17 + 4 * k) = 2 then -(nI (w (17 + 4 * k + 1)) + (nI (2 * (k + w (17 + 4 * k + 2))))) else if w (17 + 4 * k) = 3 then nI (w (17 + 4 * k + 1)) + (nI (k + w (17 + 4 * k + 2)) - nI 1000) else if w (17 + 4 * k) = 4 then nI (w (17 + 4 * k + 1)) - nI 100 else nI 2 * (nI (w (17 + 4 * k + 1)) - nI 100)
def a_mk (w : Nat → Nat) (k : Nat) : Int32 := if w (17 + 4 * k) = 1 then nI (k + w (17 + 4 * k + 2)) else if w (17 + 4 * k) = 2 then nI (2 * (k + w (17 + 4 * k + 2))) else if w (17 + 4 * k) = 3 then nI (k + w (17 + 4 * k + 2)) - nI 1000 else if w (17 + 4 * k) = 4 then nI k - (nI (w (17 + 4 * k + 1)) - nI 100) else nI k - (nI 2 * (nI (w (17 + 4 * k + 1)) - nI 100))
def a_szT (w : Nat → Nat) (k : Nat) : List Nat := if w (17 + 4 * k) = 1 then [11, 10, 21, 20] else if w (17 + 4 * k) = 2 then [12, 11, 10, 24, 21, 20] else if w (17 + 4 * k) = 3 then [11, 10, 22, 21, 20] else if w (17 + 4 * k) = 4 then [13, 10] else [14, 13, 10]
def a_mkT (w : Nat → Nat) (k : Nat) : List Nat := if w (17 + 4 * k) = 1 then [21, 20] else if w (17 + 4 * k) = 2 then [24, 21, 20] else if w (17 + 4 * k) = 3 then [22, 21, 20] else if w (17 + 4 * k) = 4 then [23, 20, 13, 10] else [23, 20, 14, 13, 10]
theorem c_ask10 (w : Nat → Nat) (M : jm_M) (hM : M 17 = jm_n w) (hg : rG w) (k : Nat) (hk : k < w 3) (hk7 : k < 7) (hkd : w (17 + 4 * k) = 1) : jm_J none YX6_ask 20 [some (.ref 11), some (.int (nI k)), some (.int (nI 0)), none] [] M (fun o M1 => o = some (.int (nI (w (17 + 4 * k + 1)) + (nI (k + w (17 + 4 * k + 2))))) ∧ jm_tr 11 23 21 M1 [11, 10, 21, 20] ∧ jm_tf 11 23 21 M M1) := by
  have hb := hg.hb
  refine jm_ald_n (Y := YX6_ask) (pc := 20) (i := 0) dX6_ask_20 rfl rfl ?_
  refine jm_icN (Y := YX6_ask) (pc := 21) 0 dX6_ask_21 rfl ?_
  refine jm_put (Y := YX6_ask) (pc := 22) dX6_ask_22 fw_RX6_227 rfl (by decide) rfl ?_
  refine jm_ald_n (Y := YX6_ask) (pc := 25) (i := 0) dX6_ask_25 rfl rfl ?_
  refine jm_ild_n (Y := YX6_ask) (pc := 26) (i := 1) dX6_ask_26 rfl rfl ?_
  refine jm_V1ie (Y := YX6_ask) (pc := 27) dX6_ask_27 lk_RX6_224 ⟨_, rfl⟩ rfl rfl (by decide) (Nat.le_of_ble_eq_true rfl) ⟨by decide, by decide⟩ (c_kindIn w (jm_sf M 11 (upd (M 11) 21 (nI 0))) (by rw [jm_sf_n _ _ (by decide)]; exact hM) hg k hk7) ?_
  refine jm_icN (Y := YX6_ask) (pc := 30) 4 dX6_ask_30 rfl ?_
  refine jm_icmp_ltN (Y := YX6_ask) (pc := 31) dX6_ask_31 rfl (by first | omega | exact jm_lt hb _) (by first | omega | exact jm_lt hb _) (fun h_31 => ?_) (fun h_31 => by exfalso; first | omega | exact jm_lt hb _)
  refine jm_icN (Y := YX6_ask) (pc := 38) 0 dX6_ask_38 rfl ?_
  refine jm_ist_n (Y := YX6_ask) (pc := 39) (i := 3) (ls' := [_, _, _, _]) dX6_ask_39 rfl (Nat.le_of_ble_eq_true rfl) rfl rfl ?_
  refine jm_ild_n (Y := YX6_ask) (pc := 40) (i := 2) dX6_ask_40 rfl rfl ?_
  refine jm_if_neN (Y := YX6_ask) (pc := 41) dX6_ask_41 rfl (by first | omega | exact jm_lt hb _) (fun h_41 => by exfalso; first | omega | exact jm_lt hb _) (fun h_41 => ?_)
  refine jm_ild_n (Y := YX6_ask) (pc := 44) (i := 3) dX6_ask_44 rfl rfl ?_
  refine jm_if_eqN (Y := YX6_ask) (pc := 45) dX6_ask_45 rfl (by first | omega | exact jm_lt hb _) (fun h_45 => ?_) (fun h_45 => by exfalso; first | omega | exact jm_lt hb _)
  refine jm_ald_n (Y := YX6_ask) (pc := 56) (i := 0) dX6_ask_56 rfl rfl ?_
  refine jm_ild_n (Y := YX6_ask) (pc := 57) (i := 1) dX6_ask_57 rfl rfl ?_
  refine jm_V1i (Y := YX6_ask) (pc := 58) dX6_ask_58 lk_RX6_239 ⟨_, rfl⟩ rfl rfl (by decide) (Nat.le_of_ble_eq_true rfl) ⟨by decide, by decide⟩ (c_stickSize1 w (jm_sf M 11 (upd (M 11) 21 (nI 0))) (by rw [jm_sf_n _ _ (by decide)]; exact hM) hg [] ⟨by rw [jm_sf_s, upd_s]; rfl, fun i hi => absurd hi (Nat.not_lt_zero _)⟩ k hk hk7 hkd (by decide)) (fun r_58 M_58 q_58 => ?_)
  refine jm_ret (Y := YX6_ask) (pc := 61) (st := []) dX6_ask_61 rfl rfl ?_
  obtain ⟨e9, t9, f9⟩ := q_58
  cases e9
  exact ⟨rfl, by simpa only [List.nil_append] using t9, (show jm_tf 11 23 21 M (jm_sf M 11 (upd (M 11) 21 (nI 0))) from ⟨fun id a _ => jm_sf_n _ _ a, fun j a => by rw [jm_sf_s, upd_n _ _ a]⟩).tr f9⟩
theorem c_ask11 (w : Nat → Nat) (M : jm_M) (hM : M 17 = jm_n w) (hg : rG w) (k : Nat) (hk : k < w 3) (hk7 : k < 7) (hkd : w (17 + 4 * k) = 1) : jm_J none YX6_ask 20 [some (.ref 11), some (.int (nI k)), some (.int (nI 1)), none] [] M (fun o M1 => o = some (.int (nI (k + w (17 + 4 * k + 2)))) ∧ jm_tr 11 23 21 M1 [21, 20] ∧ jm_tf 11 23 21 M M1) := by
  have hb := hg.hb
  refine jm_ald_n (Y := YX6_ask) (pc := 20) (i := 0) dX6_ask_20 rfl rfl ?_
  refine jm_icN (Y := YX6_ask) (pc := 21) 0 dX6_ask_21 rfl ?_
  refine jm_put (Y := YX6_ask) (pc := 22) dX6_ask_22 fw_RX6_227 rfl (by decide) rfl ?_
  refine jm_ald_n (Y := YX6_ask) (pc := 25) (i := 0) dX6_ask_25 rfl rfl ?_
  refine jm_ild_n (Y := YX6_ask) (pc := 26) (i := 1) dX6_ask_26 rfl rfl ?_
  refine jm_V1ie (Y := YX6_ask) (pc := 27) dX6_ask_27 lk_RX6_224 ⟨_, rfl⟩ rfl rfl (by decide) (Nat.le_of_ble_eq_true rfl) ⟨by decide, by decide⟩ (c_kindIn w (jm_sf M 11 (upd (M 11) 21 (nI 0))) (by rw [jm_sf_n _ _ (by decide)]; exact hM) hg k hk7) ?_
  refine jm_icN (Y := YX6_ask) (pc := 30) 4 dX6_ask_30 rfl ?_
  refine jm_icmp_ltN (Y := YX6_ask) (pc := 31) dX6_ask_31 rfl (by first | omega | exact jm_lt hb _) (by first | omega | exact jm_lt hb _) (fun h_31 => ?_) (fun h_31 => by exfalso; first | omega | exact jm_lt hb _)
  refine jm_icN (Y := YX6_ask) (pc := 38) 0 dX6_ask_38 rfl ?_
  refine jm_ist_n (Y := YX6_ask) (pc := 39) (i := 3) (ls' := [_, _, _, _]) dX6_ask_39 rfl (Nat.le_of_ble_eq_true rfl) rfl rfl ?_
  refine jm_ild_n (Y := YX6_ask) (pc := 40) (i := 2) dX6_ask_40 rfl rfl ?_
  refine jm_if_neN (Y := YX6_ask) (pc := 41) dX6_ask_41 rfl (by first | omega | exact jm_lt hb _) (fun h_41 => ?_) (fun h_41 => by exfalso; first | omega | exact jm_lt hb _)
  refine jm_ild_n (Y := YX6_ask) (pc := 62) (i := 3) dX6_ask_62 rfl rfl ?_
  refine jm_if_eqN (Y := YX6_ask) (pc := 63) dX6_ask_63 rfl (by first | omega | exact jm_lt hb _) (fun h_63 => ?_) (fun h_63 => by exfalso; first | omega | exact jm_lt hb _)
  refine jm_ald_n (Y := YX6_ask) (pc := 74) (i := 0) dX6_ask_74 rfl rfl ?_
  refine jm_ild_n (Y := YX6_ask) (pc := 75) (i := 1) dX6_ask_75 rfl rfl ?_
  refine jm_V1i (Y := YX6_ask) (pc := 76) dX6_ask_76 lk_RX6_233 ⟨_, rfl⟩ rfl rfl (by decide) (Nat.le_of_ble_eq_true rfl) ⟨by decide, by decide⟩ (c_stickMark1 w (jm_sf M 11 (upd (M 11) 21 (nI 0))) (by rw [jm_sf_n _ _ (by decide)]; exact hM) hg [] ⟨by rw [jm_sf_s, upd_s]; rfl, fun i hi => absurd hi (Nat.not_lt_zero _)⟩ k hk hk7 hkd (by decide)) (fun r_76 M_76 q_76 => ?_)
  refine jm_ret (Y := YX6_ask) (pc := 79) (st := []) dX6_ask_79 rfl rfl ?_
  obtain ⟨e9, t9, f9⟩ := q_76
  cases e9
  exact ⟨rfl, by simpa only [List.nil_append] using t9, (show jm_tf 11 23 21 M (jm_sf M 11 (upd (M 11) 21 (nI 0))) from ⟨fun id a _ => jm_sf_n _ _ a, fun j a => by rw [jm_sf_s, upd_n _ _ a]⟩).tr f9⟩
theorem c_ask20 (w : Nat → Nat) (M : jm_M) (hM : M 17 = jm_n w) (hg : rG w) (k : Nat) (hk : k < w 3) (hk7 : k < 7) (hkd : w (17 + 4 * k) = 2) : jm_J none YX6_ask 20 [some (.ref 11), some (.int (nI k)), some (.int (nI 0)), none] [] M (fun o M1 => o = some (.int (-(nI (w (17 + 4 * k + 1)) + (nI (2 * (k + w (17 + 4 * k + 2))))))) ∧ jm_tr 11 23 21 M1 [12, 11, 10, 24, 21, 20] ∧ jm_tf 11 23 21 M M1) := by
  have hb := hg.hb
  refine jm_ald_n (Y := YX6_ask) (pc := 20) (i := 0) dX6_ask_20 rfl rfl ?_
  refine jm_icN (Y := YX6_ask) (pc := 21) 0 dX6_ask_21 rfl ?_
  refine jm_put (Y := YX6_ask) (pc := 22) dX6_ask_22 fw_RX6_227 rfl (by decide) rfl ?_
  refine jm_ald_n (Y := YX6_ask) (pc := 25) (i := 0) dX6_ask_25 rfl rfl ?_
  refine jm_ild_n (Y := YX6_ask) (pc := 26) (i := 1) dX6_ask_26 rfl rfl ?_
  refine jm_V1ie (Y := YX6_ask) (pc := 27) dX6_ask_27 lk_RX6_224 ⟨_, rfl⟩ rfl rfl (by decide) (Nat.le_of_ble_eq_true rfl) ⟨by decide, by decide⟩ (c_kindIn w (jm_sf M 11 (upd (M 11) 21 (nI 0))) (by rw [jm_sf_n _ _ (by decide)]; exact hM) hg k hk7) ?_
  refine jm_icN (Y := YX6_ask) (pc := 30) 4 dX6_ask_30 rfl ?_
  refine jm_icmp_ltN (Y := YX6_ask) (pc := 31) dX6_ask_31 rfl (by first | omega | exact jm_lt hb _) (by first | omega | exact jm_lt hb _) (fun h_31 => ?_) (fun h_31 => by exfalso; first | omega | exact jm_lt hb _)
  refine jm_icN (Y := YX6_ask) (pc := 38) 0 dX6_ask_38 rfl ?_
  refine jm_ist_n (Y := YX6_ask) (pc := 39) (i := 3) (ls' := [_, _, _, _]) dX6_ask_39 rfl (Nat.le_of_ble_eq_true rfl) rfl rfl ?_
  refine jm_ild_n (Y := YX6_ask) (pc := 40) (i := 2) dX6_ask_40 rfl rfl ?_
  refine jm_if_neN (Y := YX6_ask) (pc := 41) dX6_ask_41 rfl (by first | omega | exact jm_lt hb _) (fun h_41 => by exfalso; first | omega | exact jm_lt hb _) (fun h_41 => ?_)
  refine jm_ild_n (Y := YX6_ask) (pc := 44) (i := 3) dX6_ask_44 rfl rfl ?_
  refine jm_if_eqN (Y := YX6_ask) (pc := 45) dX6_ask_45 rfl (by first | omega | exact jm_lt hb _) (fun h_45 => ?_) (fun h_45 => by exfalso; first | omega | exact jm_lt hb _)
  refine jm_ald_n (Y := YX6_ask) (pc := 56) (i := 0) dX6_ask_56 rfl rfl ?_
  refine jm_ild_n (Y := YX6_ask) (pc := 57) (i := 1) dX6_ask_57 rfl rfl ?_
  refine jm_V1i (Y := YX6_ask) (pc := 58) dX6_ask_58 lk_RX6_239 ⟨_, rfl⟩ rfl rfl (by decide) (Nat.le_of_ble_eq_true rfl) ⟨by decide, by decide⟩ (c_stickSize2 w (jm_sf M 11 (upd (M 11) 21 (nI 0))) (by rw [jm_sf_n _ _ (by decide)]; exact hM) hg [] ⟨by rw [jm_sf_s, upd_s]; rfl, fun i hi => absurd hi (Nat.not_lt_zero _)⟩ k hk hk7 hkd (by decide)) (fun r_58 M_58 q_58 => ?_)
  refine jm_ret (Y := YX6_ask) (pc := 61) (st := []) dX6_ask_61 rfl rfl ?_
  obtain ⟨e9, t9, f9⟩ := q_58
  cases e9
  exact ⟨rfl, by simpa only [List.nil_append] using t9, (show jm_tf 11 23 21 M (jm_sf M 11 (upd (M 11) 21 (nI 0))) from ⟨fun id a _ => jm_sf_n _ _ a, fun j a => by rw [jm_sf_s, upd_n _ _ a]⟩).tr f9⟩
theorem c_ask21 (w : Nat → Nat) (M : jm_M) (hM : M 17 = jm_n w) (hg : rG w) (k : Nat) (hk : k < w 3) (hk7 : k < 7) (hkd : w (17 + 4 * k) = 2) : jm_J none YX6_ask 20 [some (.ref 11), some (.int (nI k)), some (.int (nI 1)), none] [] M (fun o M1 => o = some (.int (nI (2 * (k + w (17 + 4 * k + 2))))) ∧ jm_tr 11 23 21 M1 [24, 21, 20] ∧ jm_tf 11 23 21 M M1) := by
  have hb := hg.hb
  refine jm_ald_n (Y := YX6_ask) (pc := 20) (i := 0) dX6_ask_20 rfl rfl ?_
  refine jm_icN (Y := YX6_ask) (pc := 21) 0 dX6_ask_21 rfl ?_
  refine jm_put (Y := YX6_ask) (pc := 22) dX6_ask_22 fw_RX6_227 rfl (by decide) rfl ?_
  refine jm_ald_n (Y := YX6_ask) (pc := 25) (i := 0) dX6_ask_25 rfl rfl ?_
  refine jm_ild_n (Y := YX6_ask) (pc := 26) (i := 1) dX6_ask_26 rfl rfl ?_
  refine jm_V1ie (Y := YX6_ask) (pc := 27) dX6_ask_27 lk_RX6_224 ⟨_, rfl⟩ rfl rfl (by decide) (Nat.le_of_ble_eq_true rfl) ⟨by decide, by decide⟩ (c_kindIn w (jm_sf M 11 (upd (M 11) 21 (nI 0))) (by rw [jm_sf_n _ _ (by decide)]; exact hM) hg k hk7) ?_
  refine jm_icN (Y := YX6_ask) (pc := 30) 4 dX6_ask_30 rfl ?_
  refine jm_icmp_ltN (Y := YX6_ask) (pc := 31) dX6_ask_31 rfl (by first | omega | exact jm_lt hb _) (by first | omega | exact jm_lt hb _) (fun h_31 => ?_) (fun h_31 => by exfalso; first | omega | exact jm_lt hb _)
  refine jm_icN (Y := YX6_ask) (pc := 38) 0 dX6_ask_38 rfl ?_
  refine jm_ist_n (Y := YX6_ask) (pc := 39) (i := 3) (ls' := [_, _, _, _]) dX6_ask_39 rfl (Nat.le_of_ble_eq_true rfl) rfl rfl ?_
  refine jm_ild_n (Y := YX6_ask) (pc := 40) (i := 2) dX6_ask_40 rfl rfl ?_
  refine jm_if_neN (Y := YX6_ask) (pc := 41) dX6_ask_41 rfl (by first | omega | exact jm_lt hb _) (fun h_41 => ?_) (fun h_41 => by exfalso; first | omega | exact jm_lt hb _)
  refine jm_ild_n (Y := YX6_ask) (pc := 62) (i := 3) dX6_ask_62 rfl rfl ?_
  refine jm_if_eqN (Y := YX6_ask) (pc := 63) dX6_ask_63 rfl (by first | omega | exact jm_lt hb _) (fun h_63 => ?_) (fun h_63 => by exfalso; first | omega | exact jm_lt hb _)
  refine jm_ald_n (Y := YX6_ask) (pc := 74) (i := 0) dX6_ask_74 rfl rfl ?_
  refine jm_ild_n (Y := YX6_ask) (pc := 75) (i := 1) dX6_ask_75 rfl rfl ?_
  refine jm_V1i (Y := YX6_ask) (pc := 76) dX6_ask_76 lk_RX6_233 ⟨_, rfl⟩ rfl rfl (by decide) (Nat.le_of_ble_eq_true rfl) ⟨by decide, by decide⟩ (c_stickMark2 w (jm_sf M 11 (upd (M 11) 21 (nI 0))) (by rw [jm_sf_n _ _ (by decide)]; exact hM) hg [] ⟨by rw [jm_sf_s, upd_s]; rfl, fun i hi => absurd hi (Nat.not_lt_zero _)⟩ k hk hk7 hkd (by decide)) (fun r_76 M_76 q_76 => ?_)
  refine jm_ret (Y := YX6_ask) (pc := 79) (st := []) dX6_ask_79 rfl rfl ?_
  obtain ⟨e9, t9, f9⟩ := q_76
  cases e9
  exact ⟨rfl, by simpa only [List.nil_append] using t9, (show jm_tf 11 23 21 M (jm_sf M 11 (upd (M 11) 21 (nI 0))) from ⟨fun id a _ => jm_sf_n _ _ a, fun j a => by rw [jm_sf_s, upd_n _ _ a]⟩).tr f9⟩
theorem c_ask30 (w : Nat → Nat) (M : jm_M) (hM : M 17 = jm_n w) (hg : rG w) (k : Nat) (hk : k < w 3) (hk7 : k < 7) (hkd : w (17 + 4 * k) = 3) : jm_J none YX6_ask 20 [some (.ref 11), some (.int (nI k)), some (.int (nI 0)), none] [] M (fun o M1 => o = some (.int (nI (w (17 + 4 * k + 1)) + (nI (k + w (17 + 4 * k + 2)) - nI 1000))) ∧ jm_tr 11 23 21 M1 [11, 10, 22, 21, 20] ∧ jm_tf 11 23 21 M M1) := by
  have hb := hg.hb
  refine jm_ald_n (Y := YX6_ask) (pc := 20) (i := 0) dX6_ask_20 rfl rfl ?_
  refine jm_icN (Y := YX6_ask) (pc := 21) 0 dX6_ask_21 rfl ?_
  refine jm_put (Y := YX6_ask) (pc := 22) dX6_ask_22 fw_RX6_227 rfl (by decide) rfl ?_
  refine jm_ald_n (Y := YX6_ask) (pc := 25) (i := 0) dX6_ask_25 rfl rfl ?_
  refine jm_ild_n (Y := YX6_ask) (pc := 26) (i := 1) dX6_ask_26 rfl rfl ?_
  refine jm_V1ie (Y := YX6_ask) (pc := 27) dX6_ask_27 lk_RX6_224 ⟨_, rfl⟩ rfl rfl (by decide) (Nat.le_of_ble_eq_true rfl) ⟨by decide, by decide⟩ (c_kindIn w (jm_sf M 11 (upd (M 11) 21 (nI 0))) (by rw [jm_sf_n _ _ (by decide)]; exact hM) hg k hk7) ?_
  refine jm_icN (Y := YX6_ask) (pc := 30) 4 dX6_ask_30 rfl ?_
  refine jm_icmp_ltN (Y := YX6_ask) (pc := 31) dX6_ask_31 rfl (by first | omega | exact jm_lt hb _) (by first | omega | exact jm_lt hb _) (fun h_31 => ?_) (fun h_31 => by exfalso; first | omega | exact jm_lt hb _)
  refine jm_icN (Y := YX6_ask) (pc := 38) 0 dX6_ask_38 rfl ?_
  refine jm_ist_n (Y := YX6_ask) (pc := 39) (i := 3) (ls' := [_, _, _, _]) dX6_ask_39 rfl (Nat.le_of_ble_eq_true rfl) rfl rfl ?_
  refine jm_ild_n (Y := YX6_ask) (pc := 40) (i := 2) dX6_ask_40 rfl rfl ?_
  refine jm_if_neN (Y := YX6_ask) (pc := 41) dX6_ask_41 rfl (by first | omega | exact jm_lt hb _) (fun h_41 => by exfalso; first | omega | exact jm_lt hb _) (fun h_41 => ?_)
  refine jm_ild_n (Y := YX6_ask) (pc := 44) (i := 3) dX6_ask_44 rfl rfl ?_
  refine jm_if_eqN (Y := YX6_ask) (pc := 45) dX6_ask_45 rfl (by first | omega | exact jm_lt hb _) (fun h_45 => ?_) (fun h_45 => by exfalso; first | omega | exact jm_lt hb _)
  refine jm_ald_n (Y := YX6_ask) (pc := 56) (i := 0) dX6_ask_56 rfl rfl ?_
  refine jm_ild_n (Y := YX6_ask) (pc := 57) (i := 1) dX6_ask_57 rfl rfl ?_
  refine jm_V1i (Y := YX6_ask) (pc := 58) dX6_ask_58 lk_RX6_239 ⟨_, rfl⟩ rfl rfl (by decide) (Nat.le_of_ble_eq_true rfl) ⟨by decide, by decide⟩ (c_stickSize3 w (jm_sf M 11 (upd (M 11) 21 (nI 0))) (by rw [jm_sf_n _ _ (by decide)]; exact hM) hg [] ⟨by rw [jm_sf_s, upd_s]; rfl, fun i hi => absurd hi (Nat.not_lt_zero _)⟩ k hk hk7 hkd (by decide)) (fun r_58 M_58 q_58 => ?_)
  refine jm_ret (Y := YX6_ask) (pc := 61) (st := []) dX6_ask_61 rfl rfl ?_
  obtain ⟨e9, t9, f9⟩ := q_58
  cases e9
  exact ⟨rfl, by simpa only [List.nil_append] using t9, (show jm_tf 11 23 21 M (jm_sf M 11 (upd (M 11) 21 (nI 0))) from ⟨fun id a _ => jm_sf_n _ _ a, fun j a => by rw [jm_sf_s, upd_n _ _ a]⟩).tr f9⟩
theorem c_ask31 (w : Nat → Nat) (M : jm_M) (hM : M 17 = jm_n w) (hg : rG w) (k : Nat) (hk : k < w 3) (hk7 : k < 7) (hkd : w (17 + 4 * k) = 3) : jm_J none YX6_ask 20 [some (.ref 11), some (.int (nI k)), some (.int (nI 1)), none] [] M (fun o M1 => o = some (.int (nI (k + w (17 + 4 * k + 2)) - nI 1000)) ∧ jm_tr 11 23 21 M1 [22, 21, 20] ∧ jm_tf 11 23 21 M M1) := by
  have hb := hg.hb
  refine jm_ald_n (Y := YX6_ask) (pc := 20) (i := 0) dX6_ask_20 rfl rfl ?_
  refine jm_icN (Y := YX6_ask) (pc := 21) 0 dX6_ask_21 rfl ?_
  refine jm_put (Y := YX6_ask) (pc := 22) dX6_ask_22 fw_RX6_227 rfl (by decide) rfl ?_
  refine jm_ald_n (Y := YX6_ask) (pc := 25) (i := 0) dX6_ask_25 rfl rfl ?_
  refine jm_ild_n (Y := YX6_ask) (pc := 26) (i := 1) dX6_ask_26 rfl rfl ?_
  refine jm_V1ie (Y := YX6_ask) (pc := 27) dX6_ask_27 lk_RX6_224 ⟨_, rfl⟩ rfl rfl (by decide) (Nat.le_of_ble_eq_true rfl) ⟨by decide, by decide⟩ (c_kindIn w (jm_sf M 11 (upd (M 11) 21 (nI 0))) (by rw [jm_sf_n _ _ (by decide)]; exact hM) hg k hk7) ?_
  refine jm_icN (Y := YX6_ask) (pc := 30) 4 dX6_ask_30 rfl ?_
  refine jm_icmp_ltN (Y := YX6_ask) (pc := 31) dX6_ask_31 rfl (by first | omega | exact jm_lt hb _) (by first | omega | exact jm_lt hb _) (fun h_31 => ?_) (fun h_31 => by exfalso; first | omega | exact jm_lt hb _)
  refine jm_icN (Y := YX6_ask) (pc := 38) 0 dX6_ask_38 rfl ?_
  refine jm_ist_n (Y := YX6_ask) (pc := 39) (i := 3) (ls' := [_, _, _, _]) dX6_ask_39 rfl (Nat.le_of_ble_eq_true rfl) rfl rfl ?_
  refine jm_ild_n (Y := YX6_ask) (pc := 40) (i := 2) dX6_ask_40 rfl rfl ?_
  refine jm_if_neN (Y := YX6_ask) (pc := 41) dX6_ask_41 rfl (by first | omega | exact jm_lt hb _) (fun h_41 => ?_) (fun h_41 => by exfalso; first | omega | exact jm_lt hb _)
  refine jm_ild_n (Y := YX6_ask) (pc := 62) (i := 3) dX6_ask_62 rfl rfl ?_
  refine jm_if_eqN (Y := YX6_ask) (pc := 63) dX6_ask_63 rfl (by first | omega | exact jm_lt hb _) (fun h_63 => ?_) (fun h_63 => by exfalso; first | omega | exact jm_lt hb _)
  refine jm_ald_n (Y := YX6_ask) (pc := 74) (i := 0) dX6_ask_74 rfl rfl ?_
  refine jm_ild_n (Y := YX6_ask) (pc := 75) (i := 1) dX6_ask_75 rfl rfl ?_
  refine jm_V1i (Y := YX6_ask) (pc := 76) dX6_ask_76 lk_RX6_233 ⟨_, rfl⟩ rfl rfl (by decide) (Nat.le_of_ble_eq_true rfl) ⟨by decide, by decide⟩ (c_stickMark3 w (jm_sf M 11 (upd (M 11) 21 (nI 0))) (by rw [jm_sf_n _ _ (by decide)]; exact hM) hg [] ⟨by rw [jm_sf_s, upd_s]; rfl, fun i hi => absurd hi (Nat.not_lt_zero _)⟩ k hk hk7 hkd (by decide)) (fun r_76 M_76 q_76 => ?_)
  refine jm_ret (Y := YX6_ask) (pc := 79) (st := []) dX6_ask_79 rfl rfl ?_
  obtain ⟨e9, t9, f9⟩ := q_76
  cases e9
  exact ⟨rfl, by simpa only [List.nil_append] using t9, (show jm_tf 11 23 21 M (jm_sf M 11 (upd (M 11) 21 (nI 0))) from ⟨fun id a _ => jm_sf_n _ _ a, fun j a => by rw [jm_sf_s, upd_n _ _ a]⟩).tr f9⟩
theorem c_ask40 (w : Nat → Nat) (M : jm_M) (hM : M 17 = jm_n w) (hg : rG w) (k : Nat) (hk : k < w 3) (hk7 : k < 7) (hkd : w (17 + 4 * k) = 4) : jm_J none YX6_ask 20 [some (.ref 11), some (.int (nI k)), some (.int (nI 0)), none] [] M (fun o M1 => o = some (.int (nI (w (17 + 4 * k + 1)) - nI 100)) ∧ jm_tr 11 23 21 M1 [13, 10] ∧ jm_tf 11 23 21 M M1) := by
  have hb := hg.hb
  refine jm_ald_n (Y := YX6_ask) (pc := 20) (i := 0) dX6_ask_20 rfl rfl ?_
  refine jm_icN (Y := YX6_ask) (pc := 21) 0 dX6_ask_21 rfl ?_
  refine jm_put (Y := YX6_ask) (pc := 22) dX6_ask_22 fw_RX6_227 rfl (by decide) rfl ?_
  refine jm_ald_n (Y := YX6_ask) (pc := 25) (i := 0) dX6_ask_25 rfl rfl ?_
  refine jm_ild_n (Y := YX6_ask) (pc := 26) (i := 1) dX6_ask_26 rfl rfl ?_
  refine jm_V1ie (Y := YX6_ask) (pc := 27) dX6_ask_27 lk_RX6_224 ⟨_, rfl⟩ rfl rfl (by decide) (Nat.le_of_ble_eq_true rfl) ⟨by decide, by decide⟩ (c_kindIn w (jm_sf M 11 (upd (M 11) 21 (nI 0))) (by rw [jm_sf_n _ _ (by decide)]; exact hM) hg k hk7) ?_
  refine jm_icN (Y := YX6_ask) (pc := 30) 4 dX6_ask_30 rfl ?_
  refine jm_icmp_ltN (Y := YX6_ask) (pc := 31) dX6_ask_31 rfl (by first | omega | exact jm_lt hb _) (by first | omega | exact jm_lt hb _) (fun h_31 => by exfalso; first | omega | exact jm_lt hb _) (fun h_31 => ?_)
  refine jm_icN (Y := YX6_ask) (pc := 34) 1 dX6_ask_34 rfl ?_
  refine jm_goto (Y := YX6_ask) (pc := 35) dX6_ask_35 rfl ?_
  refine jm_ist_n (Y := YX6_ask) (pc := 39) (i := 3) (ls' := [_, _, _, _]) dX6_ask_39 rfl (Nat.le_of_ble_eq_true rfl) rfl rfl ?_
  refine jm_ild_n (Y := YX6_ask) (pc := 40) (i := 2) dX6_ask_40 rfl rfl ?_
  refine jm_if_neN (Y := YX6_ask) (pc := 41) dX6_ask_41 rfl (by first | omega | exact jm_lt hb _) (fun h_41 => by exfalso; first | omega | exact jm_lt hb _) (fun h_41 => ?_)
  refine jm_ild_n (Y := YX6_ask) (pc := 44) (i := 3) dX6_ask_44 rfl rfl ?_
  refine jm_if_eqN (Y := YX6_ask) (pc := 45) dX6_ask_45 rfl (by first | omega | exact jm_lt hb _) (fun h_45 => by exfalso; first | omega | exact jm_lt hb _) (fun h_45 => ?_)
  refine jm_ald_n (Y := YX6_ask) (pc := 48) (i := 0) dX6_ask_48 rfl rfl ?_
  refine jm_ild_n (Y := YX6_ask) (pc := 49) (i := 1) dX6_ask_49 rfl rfl ?_
  refine jm_V1i (Y := YX6_ask) (pc := 50) dX6_ask_50 lk_RX6_236 ⟨_, rfl⟩ rfl rfl (by decide) (Nat.le_of_ble_eq_true rfl) ⟨by decide, by decide⟩ (c_salmonSize4 w (jm_sf M 11 (upd (M 11) 21 (nI 0))) (by rw [jm_sf_n _ _ (by decide)]; exact hM) hg [] ⟨by rw [jm_sf_s, upd_s]; rfl, fun i hi => absurd hi (Nat.not_lt_zero _)⟩ k hk hk7 hkd (by decide)) (fun r_50 M_50 q_50 => ?_)
  refine jm_goto (Y := YX6_ask) (pc := 53) dX6_ask_53 rfl ?_
  refine jm_ret (Y := YX6_ask) (pc := 61) (st := []) dX6_ask_61 rfl rfl ?_
  obtain ⟨e9, t9, f9⟩ := q_50
  cases e9
  exact ⟨rfl, by simpa only [List.nil_append] using t9, (show jm_tf 11 23 21 M (jm_sf M 11 (upd (M 11) 21 (nI 0))) from ⟨fun id a _ => jm_sf_n _ _ a, fun j a => by rw [jm_sf_s, upd_n _ _ a]⟩).tr f9⟩
theorem c_ask41 (w : Nat → Nat) (M : jm_M) (hM : M 17 = jm_n w) (hg : rG w) (k : Nat) (hk : k < w 3) (hk7 : k < 7) (hkd : w (17 + 4 * k) = 4) : jm_J none YX6_ask 20 [some (.ref 11), some (.int (nI k)), some (.int (nI 1)), none] [] M (fun o M1 => o = some (.int (nI k - (nI (w (17 + 4 * k + 1)) - nI 100))) ∧ jm_tr 11 23 21 M1 [23, 20, 13, 10] ∧ jm_tf 11 23 21 M M1) := by
  have hb := hg.hb
  refine jm_ald_n (Y := YX6_ask) (pc := 20) (i := 0) dX6_ask_20 rfl rfl ?_
  refine jm_icN (Y := YX6_ask) (pc := 21) 0 dX6_ask_21 rfl ?_
  refine jm_put (Y := YX6_ask) (pc := 22) dX6_ask_22 fw_RX6_227 rfl (by decide) rfl ?_
  refine jm_ald_n (Y := YX6_ask) (pc := 25) (i := 0) dX6_ask_25 rfl rfl ?_
  refine jm_ild_n (Y := YX6_ask) (pc := 26) (i := 1) dX6_ask_26 rfl rfl ?_
  refine jm_V1ie (Y := YX6_ask) (pc := 27) dX6_ask_27 lk_RX6_224 ⟨_, rfl⟩ rfl rfl (by decide) (Nat.le_of_ble_eq_true rfl) ⟨by decide, by decide⟩ (c_kindIn w (jm_sf M 11 (upd (M 11) 21 (nI 0))) (by rw [jm_sf_n _ _ (by decide)]; exact hM) hg k hk7) ?_
  refine jm_icN (Y := YX6_ask) (pc := 30) 4 dX6_ask_30 rfl ?_
  refine jm_icmp_ltN (Y := YX6_ask) (pc := 31) dX6_ask_31 rfl (by first | omega | exact jm_lt hb _) (by first | omega | exact jm_lt hb _) (fun h_31 => by exfalso; first | omega | exact jm_lt hb _) (fun h_31 => ?_)
  refine jm_icN (Y := YX6_ask) (pc := 34) 1 dX6_ask_34 rfl ?_
  refine jm_goto (Y := YX6_ask) (pc := 35) dX6_ask_35 rfl ?_
  refine jm_ist_n (Y := YX6_ask) (pc := 39) (i := 3) (ls' := [_, _, _, _]) dX6_ask_39 rfl (Nat.le_of_ble_eq_true rfl) rfl rfl ?_
  refine jm_ild_n (Y := YX6_ask) (pc := 40) (i := 2) dX6_ask_40 rfl rfl ?_
  refine jm_if_neN (Y := YX6_ask) (pc := 41) dX6_ask_41 rfl (by first | omega | exact jm_lt hb _) (fun h_41 => ?_) (fun h_41 => by exfalso; first | omega | exact jm_lt hb _)
  refine jm_ild_n (Y := YX6_ask) (pc := 62) (i := 3) dX6_ask_62 rfl rfl ?_
  refine jm_if_eqN (Y := YX6_ask) (pc := 63) dX6_ask_63 rfl (by first | omega | exact jm_lt hb _) (fun h_63 => by exfalso; first | omega | exact jm_lt hb _) (fun h_63 => ?_)
  refine jm_ald_n (Y := YX6_ask) (pc := 66) (i := 0) dX6_ask_66 rfl rfl ?_
  refine jm_ild_n (Y := YX6_ask) (pc := 67) (i := 1) dX6_ask_67 rfl rfl ?_
  refine jm_V1i (Y := YX6_ask) (pc := 68) dX6_ask_68 lk_RX6_242 ⟨_, rfl⟩ rfl rfl (by decide) (Nat.le_of_ble_eq_true rfl) ⟨by decide, by decide⟩ (c_salmonMark4 w (jm_sf M 11 (upd (M 11) 21 (nI 0))) (by rw [jm_sf_n _ _ (by decide)]; exact hM) hg [] ⟨by rw [jm_sf_s, upd_s]; rfl, fun i hi => absurd hi (Nat.not_lt_zero _)⟩ k hk hk7 hkd (by decide)) (fun r_68 M_68 q_68 => ?_)
  refine jm_goto (Y := YX6_ask) (pc := 71) dX6_ask_71 rfl ?_
  refine jm_ret (Y := YX6_ask) (pc := 79) (st := []) dX6_ask_79 rfl rfl ?_
  obtain ⟨e9, t9, f9⟩ := q_68
  cases e9
  exact ⟨rfl, by simpa only [List.nil_append] using t9, (show jm_tf 11 23 21 M (jm_sf M 11 (upd (M 11) 21 (nI 0))) from ⟨fun id a _ => jm_sf_n _ _ a, fun j a => by rw [jm_sf_s, upd_n _ _ a]⟩).tr f9⟩
theorem c_ask50 (w : Nat → Nat) (M : jm_M) (hM : M 17 = jm_n w) (hg : rG w) (k : Nat) (hk : k < w 3) (hk7 : k < 7) (hkd : w (17 + 4 * k) = 5) : jm_J none YX6_ask 20 [some (.ref 11), some (.int (nI k)), some (.int (nI 0)), none] [] M (fun o M1 => o = some (.int (nI 2 * (nI (w (17 + 4 * k + 1)) - nI 100))) ∧ jm_tr 11 23 21 M1 [14, 13, 10] ∧ jm_tf 11 23 21 M M1) := by
  have hb := hg.hb
  refine jm_ald_n (Y := YX6_ask) (pc := 20) (i := 0) dX6_ask_20 rfl rfl ?_
  refine jm_icN (Y := YX6_ask) (pc := 21) 0 dX6_ask_21 rfl ?_
  refine jm_put (Y := YX6_ask) (pc := 22) dX6_ask_22 fw_RX6_227 rfl (by decide) rfl ?_
  refine jm_ald_n (Y := YX6_ask) (pc := 25) (i := 0) dX6_ask_25 rfl rfl ?_
  refine jm_ild_n (Y := YX6_ask) (pc := 26) (i := 1) dX6_ask_26 rfl rfl ?_
  refine jm_V1ie (Y := YX6_ask) (pc := 27) dX6_ask_27 lk_RX6_224 ⟨_, rfl⟩ rfl rfl (by decide) (Nat.le_of_ble_eq_true rfl) ⟨by decide, by decide⟩ (c_kindIn w (jm_sf M 11 (upd (M 11) 21 (nI 0))) (by rw [jm_sf_n _ _ (by decide)]; exact hM) hg k hk7) ?_
  refine jm_icN (Y := YX6_ask) (pc := 30) 4 dX6_ask_30 rfl ?_
  refine jm_icmp_ltN (Y := YX6_ask) (pc := 31) dX6_ask_31 rfl (by first | omega | exact jm_lt hb _) (by first | omega | exact jm_lt hb _) (fun h_31 => by exfalso; first | omega | exact jm_lt hb _) (fun h_31 => ?_)
  refine jm_icN (Y := YX6_ask) (pc := 34) 1 dX6_ask_34 rfl ?_
  refine jm_goto (Y := YX6_ask) (pc := 35) dX6_ask_35 rfl ?_
  refine jm_ist_n (Y := YX6_ask) (pc := 39) (i := 3) (ls' := [_, _, _, _]) dX6_ask_39 rfl (Nat.le_of_ble_eq_true rfl) rfl rfl ?_
  refine jm_ild_n (Y := YX6_ask) (pc := 40) (i := 2) dX6_ask_40 rfl rfl ?_
  refine jm_if_neN (Y := YX6_ask) (pc := 41) dX6_ask_41 rfl (by first | omega | exact jm_lt hb _) (fun h_41 => by exfalso; first | omega | exact jm_lt hb _) (fun h_41 => ?_)
  refine jm_ild_n (Y := YX6_ask) (pc := 44) (i := 3) dX6_ask_44 rfl rfl ?_
  refine jm_if_eqN (Y := YX6_ask) (pc := 45) dX6_ask_45 rfl (by first | omega | exact jm_lt hb _) (fun h_45 => by exfalso; first | omega | exact jm_lt hb _) (fun h_45 => ?_)
  refine jm_ald_n (Y := YX6_ask) (pc := 48) (i := 0) dX6_ask_48 rfl rfl ?_
  refine jm_ild_n (Y := YX6_ask) (pc := 49) (i := 1) dX6_ask_49 rfl rfl ?_
  refine jm_V1i (Y := YX6_ask) (pc := 50) dX6_ask_50 lk_RX6_236 ⟨_, rfl⟩ rfl rfl (by decide) (Nat.le_of_ble_eq_true rfl) ⟨by decide, by decide⟩ (c_salmonSize5 w (jm_sf M 11 (upd (M 11) 21 (nI 0))) (by rw [jm_sf_n _ _ (by decide)]; exact hM) hg [] ⟨by rw [jm_sf_s, upd_s]; rfl, fun i hi => absurd hi (Nat.not_lt_zero _)⟩ k hk hk7 hkd (by decide)) (fun r_50 M_50 q_50 => ?_)
  refine jm_goto (Y := YX6_ask) (pc := 53) dX6_ask_53 rfl ?_
  refine jm_ret (Y := YX6_ask) (pc := 61) (st := []) dX6_ask_61 rfl rfl ?_
  obtain ⟨e9, t9, f9⟩ := q_50
  cases e9
  exact ⟨rfl, by simpa only [List.nil_append] using t9, (show jm_tf 11 23 21 M (jm_sf M 11 (upd (M 11) 21 (nI 0))) from ⟨fun id a _ => jm_sf_n _ _ a, fun j a => by rw [jm_sf_s, upd_n _ _ a]⟩).tr f9⟩
theorem c_ask51 (w : Nat → Nat) (M : jm_M) (hM : M 17 = jm_n w) (hg : rG w) (k : Nat) (hk : k < w 3) (hk7 : k < 7) (hkd : w (17 + 4 * k) = 5) : jm_J none YX6_ask 20 [some (.ref 11), some (.int (nI k)), some (.int (nI 1)), none] [] M (fun o M1 => o = some (.int (nI k - (nI 2 * (nI (w (17 + 4 * k + 1)) - nI 100)))) ∧ jm_tr 11 23 21 M1 [23, 20, 14, 13, 10] ∧ jm_tf 11 23 21 M M1) := by
  have hb := hg.hb
  refine jm_ald_n (Y := YX6_ask) (pc := 20) (i := 0) dX6_ask_20 rfl rfl ?_
  refine jm_icN (Y := YX6_ask) (pc := 21) 0 dX6_ask_21 rfl ?_
  refine jm_put (Y := YX6_ask) (pc := 22) dX6_ask_22 fw_RX6_227 rfl (by decide) rfl ?_
  refine jm_ald_n (Y := YX6_ask) (pc := 25) (i := 0) dX6_ask_25 rfl rfl ?_
  refine jm_ild_n (Y := YX6_ask) (pc := 26) (i := 1) dX6_ask_26 rfl rfl ?_
  refine jm_V1ie (Y := YX6_ask) (pc := 27) dX6_ask_27 lk_RX6_224 ⟨_, rfl⟩ rfl rfl (by decide) (Nat.le_of_ble_eq_true rfl) ⟨by decide, by decide⟩ (c_kindIn w (jm_sf M 11 (upd (M 11) 21 (nI 0))) (by rw [jm_sf_n _ _ (by decide)]; exact hM) hg k hk7) ?_
  refine jm_icN (Y := YX6_ask) (pc := 30) 4 dX6_ask_30 rfl ?_
  refine jm_icmp_ltN (Y := YX6_ask) (pc := 31) dX6_ask_31 rfl (by first | omega | exact jm_lt hb _) (by first | omega | exact jm_lt hb _) (fun h_31 => by exfalso; first | omega | exact jm_lt hb _) (fun h_31 => ?_)
  refine jm_icN (Y := YX6_ask) (pc := 34) 1 dX6_ask_34 rfl ?_
  refine jm_goto (Y := YX6_ask) (pc := 35) dX6_ask_35 rfl ?_
  refine jm_ist_n (Y := YX6_ask) (pc := 39) (i := 3) (ls' := [_, _, _, _]) dX6_ask_39 rfl (Nat.le_of_ble_eq_true rfl) rfl rfl ?_
  refine jm_ild_n (Y := YX6_ask) (pc := 40) (i := 2) dX6_ask_40 rfl rfl ?_
  refine jm_if_neN (Y := YX6_ask) (pc := 41) dX6_ask_41 rfl (by first | omega | exact jm_lt hb _) (fun h_41 => ?_) (fun h_41 => by exfalso; first | omega | exact jm_lt hb _)
  refine jm_ild_n (Y := YX6_ask) (pc := 62) (i := 3) dX6_ask_62 rfl rfl ?_
  refine jm_if_eqN (Y := YX6_ask) (pc := 63) dX6_ask_63 rfl (by first | omega | exact jm_lt hb _) (fun h_63 => by exfalso; first | omega | exact jm_lt hb _) (fun h_63 => ?_)
  refine jm_ald_n (Y := YX6_ask) (pc := 66) (i := 0) dX6_ask_66 rfl rfl ?_
  refine jm_ild_n (Y := YX6_ask) (pc := 67) (i := 1) dX6_ask_67 rfl rfl ?_
  refine jm_V1i (Y := YX6_ask) (pc := 68) dX6_ask_68 lk_RX6_242 ⟨_, rfl⟩ rfl rfl (by decide) (Nat.le_of_ble_eq_true rfl) ⟨by decide, by decide⟩ (c_salmonMark5 w (jm_sf M 11 (upd (M 11) 21 (nI 0))) (by rw [jm_sf_n _ _ (by decide)]; exact hM) hg [] ⟨by rw [jm_sf_s, upd_s]; rfl, fun i hi => absurd hi (Nat.not_lt_zero _)⟩ k hk hk7 hkd (by decide)) (fun r_68 M_68 q_68 => ?_)
  refine jm_goto (Y := YX6_ask) (pc := 71) dX6_ask_71 rfl ?_
  refine jm_ret (Y := YX6_ask) (pc := 79) (st := []) dX6_ask_79 rfl rfl ?_
  obtain ⟨e9, t9, f9⟩ := q_68
  cases e9
  exact ⟨rfl, by simpa only [List.nil_append] using t9, (show jm_tf 11 23 21 M (jm_sf M 11 (upd (M 11) 21 (nI 0))) from ⟨fun id a _ => jm_sf_n _ _ a, fun j a => by rw [jm_sf_s, upd_n _ _ a]⟩).tr f9⟩
def q_ask (w : Nat → Nat) (v a : Int32) : Prop := 0 ≤ v.toInt ∧ v.toInt < w 3 ∧ 0 ≤ a.toInt ∧ a.toInt ≤ 1
theorem c_ask (w : Nat → Nat) (M : jm_M) (hM : M 17 = jm_n w) (hg : rG w) (v a : Int32) : jm_J none YX6_ask 0 [some (.ref 11), some (.int v), some (.int a), none] [] M (fun o M1 => (q_ask w v a → o = some (.int (if a.toInt.toNat = 0 then a_sz w v.toInt.toNat else a_mk w v.toInt.toNat)) ∧ jm_tr 11 23 21 M1 (if a.toInt.toNat = 0 then a_szT w v.toInt.toNat else a_mkT w v.toInt.toNat) ∧ jm_tf 11 23 21 M M1) ∧ (¬ q_ask w v a → o = some (.int (-1000001)) ∧ M1 = M)) := by
  have hb := hg.hb
  have h3 := hg.1.2.2.2.1
  refine jm_ald_n (Y := YX6_ask) (pc := 0) (i := 0) dX6_ask_0 rfl rfl ?_
  refine jm_ild_n (Y := YX6_ask) (pc := 1) (i := 1) dX6_ask_1 rfl rfl ?_
  refine jm_V1ie (Y := YX6_ask) (pc := 2) dX6_ask_2 lk_RX6_176 ⟨_, rfl⟩ rfl rfl (by decide) (Nat.le_of_ble_eq_true rfl) ⟨by decide, by decide⟩ (c_isWord w M hM hg _) ?_
  refine jm_if_eqB (Y := YX6_ask) (pc := 5) dX6_ask_5 rfl (fun h_5 => ?_) (fun h_5 => ?_)
  · refine jm_ldc (Y := YX6_ask) (pc := 17) (v := -1000001) dX6_ask_17 kc_RX6_61 ?_
    refine jm_ret (Y := YX6_ask) (pc := 19) (st := []) dX6_ask_19 rfl rfl ?_
    exact ⟨fun z => absurd z (by unfold q_ask; omega), fun _ => ⟨rfl, rfl⟩⟩
  · refine jm_ild_n (Y := YX6_ask) (pc := 8) (i := 2) dX6_ask_8 rfl rfl ?_
    refine jm_icN (Y := YX6_ask) (pc := 9) 0 dX6_ask_9 rfl ?_
    refine jm_icN (Y := YX6_ask) (pc := 10) 1 dX6_ask_10 rfl ?_
    refine jm_S3ie (Y := YX6_ask) (pc := 11) dX6_ask_11 lk_RX6_53 ⟨_, rfl⟩ rfl rfl rfl (by decide) (Nat.le_of_ble_eq_true rfl) ⟨by decide, by decide⟩ (c_inN _ _ _ _ (by decide) (by decide)) ?_
    refine jm_if_neB (Y := YX6_ask) (pc := 14) dX6_ask_14 rfl (fun h_14 => ?_) (fun h_14 => ?_)
    · obtain ⟨k, h_k, rfl, t_k, n_k⟩ := jm_ofL (v := v) (n := w 3) (by omega) (by omega)
      obtain ⟨b, h_b, rfl, t_b, n_b⟩ := jm_ofL (v := a) (n := 2) (by omega) (by omega)
      have k1 := (hg.2.2.2.2 k (by omega)).1
      have k5 := (hg.2.2.1 k (by omega)).1
      rcases (show b = 0 ∨ b = 1 by omega) with rfl | rfl
      · rcases (show w (17 + 4 * k) = 1 ∨ w (17 + 4 * k) = 2 ∨ w (17 + 4 * k) = 3 ∨ w (17 + 4 * k) = 4 ∨ w (17 + 4 * k) = 5 by omega) with h_kd | h_kd | h_kd | h_kd | h_kd
        · exact jm_wk (c_ask10 w M hM hg k (by omega) (by omega) h_kd) (fun o M1 q => ⟨fun _ => (by rw [n_k, n_b]; obtain ⟨q1, q2, q3⟩ := q; refine ⟨q1.trans ?_, ?_, q3⟩; (show some (Value.int _) = some (Value.int (if 0 = 0 then a_sz w k else a_mk w k)); unfold a_sz a_mk; simp [h_kd]); (show jm_tr 11 23 21 M1 (if 0 = 0 then a_szT w k else a_mkT w k); unfold a_szT a_mkT; simpa [h_kd] using q2)), fun z => absurd (by unfold q_ask; omega) z⟩)
        · exact jm_wk (c_ask20 w M hM hg k (by omega) (by omega) h_kd) (fun o M1 q => ⟨fun _ => (by rw [n_k, n_b]; obtain ⟨q1, q2, q3⟩ := q; refine ⟨q1.trans ?_, ?_, q3⟩; (show some (Value.int _) = some (Value.int (if 0 = 0 then a_sz w k else a_mk w k)); unfold a_sz a_mk; simp [h_kd]); (show jm_tr 11 23 21 M1 (if 0 = 0 then a_szT w k else a_mkT w k); unfold a_szT a_mkT; simpa [h_kd] using q2)), fun z => absurd (by unfold q_ask; omega) z⟩)
        · exact jm_wk (c_ask30 w M hM hg k (by omega) (by omega) h_kd) (fun o M1 q => ⟨fun _ => (by rw [n_k, n_b]; obtain ⟨q1, q2, q3⟩ := q; refine ⟨q1.trans ?_, ?_, q3⟩; (show some (Value.int _) = some (Value.int (if 0 = 0 then a_sz w k else a_mk w k)); unfold a_sz a_mk; simp [h_kd]); (show jm_tr 11 23 21 M1 (if 0 = 0 then a_szT w k else a_mkT w k); unfold a_szT a_mkT; simpa [h_kd] using q2)), fun z => absurd (by unfold q_ask; omega) z⟩)
        · exact jm_wk (c_ask40 w M hM hg k (by omega) (by omega) h_kd) (fun o M1 q => ⟨fun _ => (by rw [n_k, n_b]; obtain ⟨q1, q2, q3⟩ := q; refine ⟨q1.trans ?_, ?_, q3⟩; (show some (Value.int _) = some (Value.int (if 0 = 0 then a_sz w k else a_mk w k)); unfold a_sz a_mk; simp [h_kd]); (show jm_tr 11 23 21 M1 (if 0 = 0 then a_szT w k else a_mkT w k); unfold a_szT a_mkT; simpa [h_kd] using q2)), fun z => absurd (by unfold q_ask; omega) z⟩)
        · exact jm_wk (c_ask50 w M hM hg k (by omega) (by omega) h_kd) (fun o M1 q => ⟨fun _ => (by rw [n_k, n_b]; obtain ⟨q1, q2, q3⟩ := q; refine ⟨q1.trans ?_, ?_, q3⟩; (show some (Value.int _) = some (Value.int (if 0 = 0 then a_sz w k else a_mk w k)); unfold a_sz a_mk; simp [h_kd]); (show jm_tr 11 23 21 M1 (if 0 = 0 then a_szT w k else a_mkT w k); unfold a_szT a_mkT; simpa [h_kd] using q2)), fun z => absurd (by unfold q_ask; omega) z⟩)
      · rcases (show w (17 + 4 * k) = 1 ∨ w (17 + 4 * k) = 2 ∨ w (17 + 4 * k) = 3 ∨ w (17 + 4 * k) = 4 ∨ w (17 + 4 * k) = 5 by omega) with h_kd | h_kd | h_kd | h_kd | h_kd
        · exact jm_wk (c_ask11 w M hM hg k (by omega) (by omega) h_kd) (fun o M1 q => ⟨fun _ => (by rw [n_k, n_b]; obtain ⟨q1, q2, q3⟩ := q; refine ⟨q1.trans ?_, ?_, q3⟩; (show some (Value.int _) = some (Value.int (if 1 = 0 then a_sz w k else a_mk w k)); unfold a_sz a_mk; simp [h_kd]); (show jm_tr 11 23 21 M1 (if 1 = 0 then a_szT w k else a_mkT w k); unfold a_szT a_mkT; simpa [h_kd] using q2)), fun z => absurd (by unfold q_ask; omega) z⟩)
        · exact jm_wk (c_ask21 w M hM hg k (by omega) (by omega) h_kd) (fun o M1 q => ⟨fun _ => (by rw [n_k, n_b]; obtain ⟨q1, q2, q3⟩ := q; refine ⟨q1.trans ?_, ?_, q3⟩; (show some (Value.int _) = some (Value.int (if 1 = 0 then a_sz w k else a_mk w k)); unfold a_sz a_mk; simp [h_kd]); (show jm_tr 11 23 21 M1 (if 1 = 0 then a_szT w k else a_mkT w k); unfold a_szT a_mkT; simpa [h_kd] using q2)), fun z => absurd (by unfold q_ask; omega) z⟩)
        · exact jm_wk (c_ask31 w M hM hg k (by omega) (by omega) h_kd) (fun o M1 q => ⟨fun _ => (by rw [n_k, n_b]; obtain ⟨q1, q2, q3⟩ := q; refine ⟨q1.trans ?_, ?_, q3⟩; (show some (Value.int _) = some (Value.int (if 1 = 0 then a_sz w k else a_mk w k)); unfold a_sz a_mk; simp [h_kd]); (show jm_tr 11 23 21 M1 (if 1 = 0 then a_szT w k else a_mkT w k); unfold a_szT a_mkT; simpa [h_kd] using q2)), fun z => absurd (by unfold q_ask; omega) z⟩)
        · exact jm_wk (c_ask41 w M hM hg k (by omega) (by omega) h_kd) (fun o M1 q => ⟨fun _ => (by rw [n_k, n_b]; obtain ⟨q1, q2, q3⟩ := q; refine ⟨q1.trans ?_, ?_, q3⟩; (show some (Value.int _) = some (Value.int (if 1 = 0 then a_sz w k else a_mk w k)); unfold a_sz a_mk; simp [h_kd]); (show jm_tr 11 23 21 M1 (if 1 = 0 then a_szT w k else a_mkT w k); unfold a_szT a_mkT; simpa [h_kd] using q2)), fun z => absurd (by unfold q_ask; omega) z⟩)
        · exact jm_wk (c_ask51 w M hM hg k (by omega) (by omega) h_kd) (fun o M1 q => ⟨fun _ => (by rw [n_k, n_b]; obtain ⟨q1, q2, q3⟩ := q; refine ⟨q1.trans ?_, ?_, q3⟩; (show some (Value.int _) = some (Value.int (if 1 = 0 then a_sz w k else a_mk w k)); unfold a_sz a_mk; simp [h_kd]); (show jm_tr 11 23 21 M1 (if 1 = 0 then a_szT w k else a_mkT w k); unfold a_szT a_mkT; simpa [h_kd] using q2)), fun z => absurd (by unfold q_ask; omega) z⟩)
    · refine jm_ldc (Y := YX6_ask) (pc := 17) (v := -1000001) dX6_ask_17 kc_RX6_61 ?_
      refine jm_ret (Y := YX6_ask) (pc := 19) (st := []) dX6_ask_19 rfl rfl ?_
      exact ⟨fun z => absurd z (by unfold q_ask; omega), fun _ => ⟨rfl, rfl⟩⟩
