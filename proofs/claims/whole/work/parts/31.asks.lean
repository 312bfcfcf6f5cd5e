/-! the class: its asks -/
theorem a_hasLeft (n : Nat) (hn : n ≤ 16) (v : Int32) (M : jm_M) (hl : M 3 1 = nI n) : jm_J none YX0_hasLeft 0 [some (.ref 3), some (.int v)] [] M (jm_is (some (.int (jm_b (0 ≤ v.toInt ∧ v.toInt < n)))) M) := by
  refine jm_ild_n (Y := YX0_hasLeft) (pc := 0) (i := 1) dX0_hasLeft_0 rfl rfl ?_
  refine jm_if_lt (Y := YX0_hasLeft) (pc := 1) dX0_hasLeft_1 rfl (fun h_1 => ?_) (fun h_1 => ?_)
  · refine jm_icN (Y := YX0_hasLeft) (pc := 16) 0 dX0_hasLeft_16 rfl ?_
    refine jm_ret (Y := YX0_hasLeft) (pc := 17) (st := []) dX0_hasLeft_17 rfl rfl ?_
    first | exact jm_bf (fun z => by have := jm_lt0.mp h_1; omega) | exact jm_bf (by omega) | exact jm_bt (by omega) | fail
  · have hv0 : 0 ≤ v.toInt := (Int.not_lt.mp (fun z => h_1 (jm_lt0.mpr z)))
    obtain ⟨x, hx, rfl⟩ := jm_nn h_1
    have hx2 := jm_tI hx
    refine jm_ild_n (Y := YX0_hasLeft) (pc := 4) (i := 1) dX0_hasLeft_4 rfl rfl ?_
    refine jm_ald_n (Y := YX0_hasLeft) (pc := 5) (i := 0) dX0_hasLeft_5 rfl rfl ?_
    refine jm_getE (Y := YX0_hasLeft) (pc := 6) dX0_hasLeft_6 fw_RX0_13 rfl (by decide) rfl (hl) ?_
    refine jm_icmp_geN (Y := YX0_hasLeft) (pc := 9) dX0_hasLeft_9 rfl (by omega) (by omega) (fun h_9 => ?_) (fun h_9 => ?_)
    · refine jm_icN (Y := YX0_hasLeft) (pc := 16) 0 dX0_hasLeft_16 rfl ?_
      refine jm_ret (Y := YX0_hasLeft) (pc := 17) (st := []) dX0_hasLeft_17 rfl rfl ?_
      first | exact jm_bf (fun z => by have := jm_lt0.mp h_1; omega) | exact jm_bf (by omega) | exact jm_bt (by omega) | fail
    · refine jm_icN (Y := YX0_hasLeft) (pc := 12) 1 dX0_hasLeft_12 rfl ?_
      refine jm_goto (Y := YX0_hasLeft) (pc := 13) dX0_hasLeft_13 rfl ?_
      refine jm_ret (Y := YX0_hasLeft) (pc := 17) (st := []) dX0_hasLeft_17 rfl rfl ?_
      first | exact jm_bf (fun z => by have := jm_lt0.mp h_1; omega) | exact jm_bf (by omega) | exact jm_bt (by omega) | fail
theorem a_leave (b : Nat) (L : List Nat) (M : jm_M) (hT : jm_tr 3 8 1 M L) (hL : L.length < 16) : jm_J none YX0_leave 0 [some (.ref 3), some (.int (nI b))] [] M ((fun o M1 => o = none ∧ jm_tr 3 8 1 M1 (L ++ [b]) ∧ jm_tf 3 8 1 M M1)) := by
  refine jm_ald_n (Y := YX0_leave) (pc := 0) (i := 0) dX0_leave_0 rfl rfl ?_
  refine jm_getE (Y := YX0_leave) (pc := 1) dX0_leave_1 fw_RX0_13 rfl (by decide) rfl (hT.1) ?_
  refine jm_bpN (Y := YX0_leave) (pc := 4) 16 dX0_leave_4 rfl ?_
  refine jm_icmp_geN (Y := YX0_leave) (pc := 6) dX0_leave_6 rfl (by omega) (by omega) (fun h_6 => by exfalso; omega) (fun h_6 => ?_)
  refine jm_ald_n (Y := YX0_leave) (pc := 9) (i := 0) dX0_leave_9 rfl rfl ?_
  refine jm_getR (Y := YX0_leave) (pc := 10) dX0_leave_10 fr_RX0_9 rfl (by decide) rfl ?_
  refine jm_ald_n (Y := YX0_leave) (pc := 13) (i := 0) dX0_leave_13 rfl rfl ?_
  refine jm_getE (Y := YX0_leave) (pc := 14) dX0_leave_14 fw_RX0_13 rfl (by decide) rfl (hT.1) ?_
  refine jm_ild_n (Y := YX0_leave) (pc := 17) (i := 1) dX0_leave_17 rfl rfl ?_
  refine jm_iasN (Y := YX0_leave) (pc := 18) dX0_leave_18 (by first | assumption | exact jm_arR1 ha | exact jm_arR2 ha | exact jm_arR3 ha | exact jm_arR1 hb | exact jm_arR2 hb | exact jm_arR3 hb | rfl) (by omega) ?_
  refine jm_ald_n (Y := YX0_leave) (pc := 19) (i := 0) dX0_leave_19 rfl rfl ?_
  refine jm_dup (Y := YX0_leave) (pc := 20) dX0_leave_20 rfl ?_
  refine jm_getE (Y := YX0_leave) (pc := 21) dX0_leave_21 fw_RX0_13 rfl (by decide) rfl (((congrFun (jm_sf_n _ _ (by decide)) _).trans hT.1)) ?_
  refine jm_icN (Y := YX0_leave) (pc := 24) 1 dX0_leave_24 rfl ?_
  refine jm_addN (Y := YX0_leave) (pc := 25) dX0_leave_25 ?_
  refine jm_put (Y := YX0_leave) (pc := 26) dX0_leave_26 fw_RX0_13 rfl (by decide) rfl ?_
  refine jm_retv (Y := YX0_leave) (pc := 29) (st := []) dX0_leave_29 rfl ?_
  have h9 := jm_tr_add (b := b) hT (by decide)
  exact ⟨rfl, h9.1, h9.2⟩
theorem a_begin (r : Nat) (ha : r < 28) (w : Nat → Nat) (M : jm_M) (hR : RV M r w) (hg : rG w) (k : Nat) (hk : k < w 3) : jm_J none YX0_begin 0 [some (.ref 3), some (.ref (32 + 4 * r)), some (.int (nI k))] [] M ((fun o M1 => o = none ∧ jm_tr 3 8 1 M1 [] ∧ M1 3 2 = nI k ∧ M1 3 3 = nI (w (17 + 4 * k)) ∧ M1 3 4 = nI (w (17 + 4 * k + 1)) ∧ M1 3 5 = nI (w (17 + 4 * k + 2)) ∧ ∀ i, i ≠ 3 → M1 i = M i)) := by
  have g2 := hg.1.2.2.1
  have g3 := hg.1.2.2.2.1
  have q0 := hg.2.2.1 k (by omega)
  refine jm_ald_n (Y := YX0_begin) (pc := 0) (i := 0) dX0_begin_0 rfl rfl ?_
  refine jm_icN (Y := YX0_begin) (pc := 1) 0 dX0_begin_1 rfl ?_
  refine jm_put (Y := YX0_begin) (pc := 2) dX0_begin_2 fw_RX0_13 rfl (by decide) rfl ?_
  refine jm_ald_n (Y := YX0_begin) (pc := 5) (i := 0) dX0_begin_5 rfl rfl ?_
  refine jm_ild_n (Y := YX0_begin) (pc := 6) (i := 2) dX0_begin_6 rfl rfl ?_
  refine jm_put (Y := YX0_begin) (pc := 7) dX0_begin_7 fw_RX0_17 rfl (by decide) rfl ?_
  rw [jm_sf_s, jm_sfsf]
  refine jm_ald_n (Y := YX0_begin) (pc := 10) (i := 0) dX0_begin_10 rfl rfl ?_
  refine jm_ald_n (Y := YX0_begin) (pc := 11) (i := 1) dX0_begin_11 rfl rfl ?_
  refine jm_getR (Y := YX0_begin) (pc := 12) dX0_begin_12 fr_RX0_31 (by first | exact jm_obR ha | exact jm_obR hb | rfl) (by decide) (by first | exact jm_rf6 | rfl) ?_
  refine jm_ild_n (Y := YX0_begin) (pc := 15) (i := 2) dX0_begin_15 rfl rfl ?_
  refine jm_ialN (Y := YX0_begin) (pc := 16) dX0_begin_16 (by first | assumption | exact jm_arR1 ha | exact jm_arR2 ha | exact jm_arR3 ha | exact jm_arR1 hb | exact jm_arR2 hb | exact jm_arR3 hb | rfl) (by omega) (((congrFun (jm_sf_n _ _ (by omega)) _).trans (hR.2.2 k hk).1)) ?_
  refine jm_put (Y := YX0_begin) (pc := 17) dX0_begin_17 fw_RX0_22 rfl (by decide) rfl ?_
  rw [jm_sf_s, jm_sfsf]
  refine jm_ald_n (Y := YX0_begin) (pc := 20) (i := 0) dX0_begin_20 rfl rfl ?_
  refine jm_ald_n (Y := YX0_begin) (pc := 21) (i := 1) dX0_begin_21 rfl rfl ?_
  refine jm_getR (Y := YX0_begin) (pc := 22) dX0_begin_22 fr_RX0_36 (by first | exact jm_obR ha | exact jm_obR hb | rfl) (by decide) (by first | exact jm_rf7 | rfl) ?_
  refine jm_ild_n (Y := YX0_begin) (pc := 25) (i := 2) dX0_begin_25 rfl rfl ?_
  refine jm_ialN (Y := YX0_begin) (pc := 26) dX0_begin_26 (by first | assumption | exact jm_arR1 ha | exact jm_arR2 ha | exact jm_arR3 ha | exact jm_arR1 hb | exact jm_arR2 hb | exact jm_arR3 hb | rfl) (by omega) (((congrFun (jm_sf_n _ _ (by omega)) _).trans (hR.2.2 k hk).2)) ?_
  refine jm_S1ie (Y := YX0_begin) (pc := 27) dX0_begin_27 lk_RX0_39 ⟨_, rfl⟩ rfl (by decide) (Nat.le_of_ble_eq_true rfl) ⟨by decide, by decide⟩ (m_sizeIn _ _ _ (by omega) (by omega)) ?_
  refine jm_put (Y := YX0_begin) (pc := 30) dX0_begin_30 fw_RX0_25 rfl (by decide) rfl ?_
  rw [jm_sf_s, jm_sfsf]
  refine jm_ald_n (Y := YX0_begin) (pc := 33) (i := 0) dX0_begin_33 rfl rfl ?_
  refine jm_ald_n (Y := YX0_begin) (pc := 34) (i := 1) dX0_begin_34 rfl rfl ?_
  refine jm_getR (Y := YX0_begin) (pc := 35) dX0_begin_35 fr_RX0_36 (by first | exact jm_obR ha | exact jm_obR hb | rfl) (by decide) (by first | exact jm_rf7 | rfl) ?_
  refine jm_ild_n (Y := YX0_begin) (pc := 38) (i := 2) dX0_begin_38 rfl rfl ?_
  refine jm_ialN (Y := YX0_begin) (pc := 39) dX0_begin_39 (by first | assumption | exact jm_arR1 ha | exact jm_arR2 ha | exact jm_arR3 ha | exact jm_arR1 hb | exact jm_arR2 hb | exact jm_arR3 hb | rfl) (by omega) (((congrFun (jm_sf_n _ _ (by omega)) _).trans (hR.2.2 k hk).2)) ?_
  refine jm_S1ie (Y := YX0_begin) (pc := 40) dX0_begin_40 lk_RX0_43 ⟨_, rfl⟩ rfl (by decide) (Nat.le_of_ble_eq_true rfl) ⟨by decide, by decide⟩ (m_cellIn _ _ _ (by omega) (by omega)) ?_
  refine jm_put (Y := YX0_begin) (pc := 43) dX0_begin_43 fw_RX0_28 rfl (by decide) rfl ?_
  rw [jm_sf_s, jm_sfsf]
  refine jm_retv (Y := YX0_begin) (pc := 46) (st := []) dX0_begin_46 rfl ?_
  exact ⟨rfl, ⟨by rw [jm_sf_s]; rfl, fun i hi => absurd hi (Nat.not_lt_zero _)⟩, by rw [jm_sf_s]; rfl, by rw [jm_sf_s]; rfl, by rw [jm_sf_s]; rfl, by rw [jm_sf_s]; rfl, fun i hi => jm_sf_n _ _ hi⟩
theorem a_lentSize (L : List Nat) (M : jm_M) (hT : jm_tr 3 8 1 M L) (hL : L.length + 1 ≤ 16) (kw sz ce kd : Nat) (h2 : M 3 2 = nI kw) (h3 : M 3 3 = nI kd) (h4 : M 3 4 = nI sz) (h5 : M 3 5 = nI ce) (b2 : kw ≤ 7) (b4 : sz ≤ 60) (b5 : ce ≤ 12) : jm_J none YX0_lentSize 0 [some (.ref 3)] [] M ((fun o M1 => o = some (.int (nI sz)) ∧ jm_tr 3 8 1 M1 (L ++ [10]) ∧ jm_tf 3 8 1 M M1)) := by
  refine jm_ald_n (Y := YX0_lentSize) (pc := 0) (i := 0) dX0_lentSize_0 rfl rfl ?_
  refine jm_bpN (Y := YX0_lentSize) (pc := 1) 10 dX0_lentSize_1 rfl ?_
  refine jm_V1v (Y := YX0_lentSize) (pc := 3) dX0_lentSize_3 lk_RX0_50 rfl rfl rfl (by decide) (Nat.le_of_ble_eq_true rfl) ⟨by decide, by decide⟩ (a_leave 10 (L) M hT (by first | omega | (simp only [List.length_append, List.length_cons, List.length_nil]; omega))) (fun M_3 q_3 => ?_)
  refine jm_ald_n (Y := YX0_lentSize) (pc := 6) (i := 0) dX0_lentSize_6 rfl rfl ?_
  refine jm_getE (Y := YX0_lentSize) (pc := 7) dX0_lentSize_7 fw_RX0_25 rfl (by decide) rfl (((q_3.2.2.2 4 (by decide)).trans h4)) ?_
  refine jm_ret (Y := YX0_lentSize) (pc := 10) (st := []) dX0_lentSize_10 rfl rfl ?_
  exact ⟨rfl, q_3.2.1, q_3.2.2⟩
theorem a_lentMark (L : List Nat) (M : jm_M) (hT : jm_tr 3 8 1 M L) (hL : L.length + 1 ≤ 16) (kw sz ce kd : Nat) (h2 : M 3 2 = nI kw) (h3 : M 3 3 = nI kd) (h4 : M 3 4 = nI sz) (h5 : M 3 5 = nI ce) (b2 : kw ≤ 7) (b4 : sz ≤ 60) (b5 : ce ≤ 12) : jm_J none YX0_lentMark 0 [some (.ref 3)] [] M ((fun o M1 => o = some (.int (nI kw)) ∧ jm_tr 3 8 1 M1 (L ++ [20]) ∧ jm_tf 3 8 1 M M1)) := by
  refine jm_ald_n (Y := YX0_lentMark) (pc := 0) (i := 0) dX0_lentMark_0 rfl rfl ?_
  refine jm_bpN (Y := YX0_lentMark) (pc := 1) 20 dX0_lentMark_1 rfl ?_
  refine jm_V1v (Y := YX0_lentMark) (pc := 3) dX0_lentMark_3 lk_RX0_50 rfl rfl rfl (by decide) (Nat.le_of_ble_eq_true rfl) ⟨by decide, by decide⟩ (a_leave 20 (L) M hT (by first | omega | (simp only [List.length_append, List.length_cons, List.length_nil]; omega))) (fun M_3 q_3 => ?_)
  refine jm_ald_n (Y := YX0_lentMark) (pc := 6) (i := 0) dX0_lentMark_6 rfl rfl ?_
  refine jm_getE (Y := YX0_lentMark) (pc := 7) dX0_lentMark_7 fw_RX0_17 rfl (by decide) rfl (((q_3.2.2.2 2 (by decide)).trans h2)) ?_
  refine jm_ret (Y := YX0_lentMark) (pc := 10) (st := []) dX0_lentMark_10 rfl rfl ?_
  exact ⟨rfl, q_3.2.1, q_3.2.2⟩
theorem a_stickMark (L : List Nat) (M : jm_M) (hT : jm_tr 3 8 1 M L) (hL : L.length + 2 ≤ 16) (kw sz ce kd : Nat) (h2 : M 3 2 = nI kw) (h3 : M 3 3 = nI kd) (h4 : M 3 4 = nI sz) (h5 : M 3 5 = nI ce) (b2 : kw ≤ 7) (b4 : sz ≤ 60) (b5 : ce ≤ 12) : jm_J none YX0_stickMark 0 [some (.ref 3)] [] M ((fun o M1 => o = some (.int (nI (kw + ce))) ∧ jm_tr 3 8 1 M1 (L ++ [21, 20]) ∧ jm_tf 3 8 1 M M1)) := by
  refine jm_ald_n (Y := YX0_stickMark) (pc := 0) (i := 0) dX0_stickMark_0 rfl rfl ?_
  refine jm_bpN (Y := YX0_stickMark) (pc := 1) 21 dX0_stickMark_1 rfl ?_
  refine jm_V1v (Y := YX0_stickMark) (pc := 3) dX0_stickMark_3 lk_RX0_50 rfl rfl rfl (by decide) (Nat.le_of_ble_eq_true rfl) ⟨by decide, by decide⟩ (a_leave 21 (L) M hT (by first | omega | (simp only [List.length_append, List.length_cons, List.length_nil]; omega))) (fun M_3 q_3 => ?_)
  refine jm_ald_n (Y := YX0_stickMark) (pc := 6) (i := 0) dX0_stickMark_6 rfl rfl ?_
  refine jm_V0i (Y := YX0_stickMark) (pc := 7) dX0_stickMark_7 lk_RX0_66 ⟨_, rfl⟩ rfl (by decide) (Nat.le_of_ble_eq_true rfl) ⟨by decide, by decide⟩ (a_lentMark (L ++ [21]) M_3 q_3.2.1 (by first | omega | (simp only [List.length_append, List.length_cons, List.length_nil]; omega)) kw sz ce kd ((q_3.2.2.2 2 (by decide)).trans h2) ((q_3.2.2.2 3 (by decide)).trans h3) ((q_3.2.2.2 4 (by decide)).trans h4) ((q_3.2.2.2 5 (by decide)).trans h5) b2 b4 b5) (fun r_7 M_7 q_7 => ?_)
  obtain ⟨e7, t7, f7⟩ := q_7
  cases e7
  have f9 := q_3.2.2.tr f7
  refine jm_ald_n (Y := YX0_stickMark) (pc := 10) (i := 0) dX0_stickMark_10 rfl rfl ?_
  refine jm_getE (Y := YX0_stickMark) (pc := 11) dX0_stickMark_11 fw_RX0_28 rfl (by decide) rfl (((f9.2 5 (by decide)).trans h5)) ?_
  refine jm_addN (Y := YX0_stickMark) (pc := 14) dX0_stickMark_14 ?_
  refine jm_ret (Y := YX0_stickMark) (pc := 15) (st := []) dX0_stickMark_15 rfl rfl ?_
  exact ⟨rfl, by simpa only [List.append_assoc, List.cons_append, List.nil_append] using t7, f9⟩
theorem a_salmonSize (L : List Nat) (M : jm_M) (hT : jm_tr 3 8 1 M L) (hL : L.length + 2 ≤ 16) (kw sz ce kd : Nat) (h2 : M 3 2 = nI kw) (h3 : M 3 3 = nI kd) (h4 : M 3 4 = nI sz) (h5 : M 3 5 = nI ce) (b2 : kw ≤ 7) (b4 : sz ≤ 60) (b5 : ce ≤ 12) : jm_J none YX0_salmonSize 0 [some (.ref 3)] [] M ((fun o M1 => o = some (.int (nI sz - nI 100)) ∧ jm_tr 3 8 1 M1 (L ++ [13, 10]) ∧ jm_tf 3 8 1 M M1)) := by
  refine jm_ald_n (Y := YX0_salmonSize) (pc := 0) (i := 0) dX0_salmonSize_0 rfl rfl ?_
  refine jm_bpN (Y := YX0_salmonSize) (pc := 1) 13 dX0_salmonSize_1 rfl ?_
  refine jm_V1v (Y := YX0_salmonSize) (pc := 3) dX0_salmonSize_3 lk_RX0_50 rfl rfl rfl (by decide) (Nat.le_of_ble_eq_true rfl) ⟨by decide, by decide⟩ (a_leave 13 (L) M hT (by first | omega | (simp only [List.length_append, List.length_cons, List.length_nil]; omega))) (fun M_3 q_3 => ?_)
  refine jm_ald_n (Y := YX0_salmonSize) (pc := 6) (i := 0) dX0_salmonSize_6 rfl rfl ?_
  refine jm_V0i (Y := YX0_salmonSize) (pc := 7) dX0_salmonSize_7 lk_RX0_57 ⟨_, rfl⟩ rfl (by decide) (Nat.le_of_ble_eq_true rfl) ⟨by decide, by decide⟩ (a_lentSize (L ++ [13]) M_3 q_3.2.1 (by first | omega | (simp only [List.length_append, List.length_cons, List.length_nil]; omega)) kw sz ce kd ((q_3.2.2.2 2 (by decide)).trans h2) ((q_3.2.2.2 3 (by decide)).trans h3) ((q_3.2.2.2 4 (by decide)).trans h4) ((q_3.2.2.2 5 (by decide)).trans h5) b2 b4 b5) (fun r_7 M_7 q_7 => ?_)
  obtain ⟨e7, t7, f7⟩ := q_7
  cases e7
  have f9 := q_3.2.2.tr f7
  refine jm_bpN (Y := YX0_salmonSize) (pc := 10) 100 dX0_salmonSize_10 rfl ?_
  refine jm_isub (Y := YX0_salmonSize) (pc := 12) dX0_salmonSize_12 ?_
  refine jm_ret (Y := YX0_salmonSize) (pc := 13) (st := []) dX0_salmonSize_13 rfl rfl ?_
  exact ⟨rfl, by simpa only [List.append_assoc, List.cons_append, List.nil_append] using t7, f9⟩
theorem a_anyStick1 (L : List Nat) (M : jm_M) (hT : jm_tr 3 8 1 M L) (hL : L.length + 3 ≤ 16) (kw sz ce kd : Nat) (h2 : M 3 2 = nI kw) (h3 : M 3 3 = nI kd) (h4 : M 3 4 = nI sz) (h5 : M 3 5 = nI ce) (b2 : kw ≤ 7) (b4 : sz ≤ 60) (b5 : ce ≤ 12) (hk : kd = 1) : jm_J none YX0_anyStickMark 0 [some (.ref 3)] [] M ((fun o M1 => o = some (.int (nI (kw + ce))) ∧ jm_tr 3 8 1 M1 (L ++ [21, 20]) ∧ jm_tf 3 8 1 M M1)) := by
  subst hk
  refine jm_ald_n (Y := YX0_anyStickMark) (pc := 0) (i := 0) dX0_anyStickMark_0 rfl rfl ?_
  refine jm_getE (Y := YX0_anyStickMark) (pc := 1) dX0_anyStickMark_1 fw_RX0_22 rfl (by decide) rfl (h3) ?_
  refine jm_look (Y := YX0_anyStickMark) (pc := 4) dX0_anyStickMark_4 (by decide) rfl rfl ?_
  refine jm_ald_n (Y := YX0_anyStickMark) (pc := 60) (i := 0) dX0_anyStickMark_60 rfl rfl ?_
  refine jm_V0i (Y := YX0_anyStickMark) (pc := 61) dX0_anyStickMark_61 lk_RX0_69 ⟨_, rfl⟩ rfl (by decide) (Nat.le_of_ble_eq_true rfl) ⟨by decide, by decide⟩ (a_stickMark L M hT (by first | omega | (simp only [List.length_append, List.length_cons, List.length_nil]; omega)) kw sz ce 1 h2 h3 h4 h5 b2 b4 b5) (fun r_61 M_61 q_61 => ?_)
  refine jm_ret (Y := YX0_anyStickMark) (pc := 64) (st := []) dX0_anyStickMark_64 rfl rfl ?_
  obtain ⟨e9, t9, f9⟩ := q_61
  cases e9
  exact ⟨rfl, t9, f9⟩
theorem a_anyStick2 (L : List Nat) (M : jm_M) (hT : jm_tr 3 8 1 M L) (hL : L.length + 3 ≤ 16) (kw sz ce kd : Nat) (h2 : M 3 2 = nI kw) (h3 : M 3 3 = nI kd) (h4 : M 3 4 = nI sz) (h5 : M 3 5 = nI ce) (b2 : kw ≤ 7) (b4 : sz ≤ 60) (b5 : ce ≤ 12) (hk : kd = 2) : jm_J none YX0_anyStickMark 0 [some (.ref 3)] [] M ((fun o M1 => o = some (.int (nI (2 * (kw + ce)))) ∧ jm_tr 3 8 1 M1 (L ++ [24, 21, 20]) ∧ jm_tf 3 8 1 M M1)) := by
  subst hk
  refine jm_ald_n (Y := YX0_anyStickMark) (pc := 0) (i := 0) dX0_anyStickMark_0 rfl rfl ?_
  refine jm_getE (Y := YX0_anyStickMark) (pc := 1) dX0_anyStickMark_1 fw_RX0_22 rfl (by decide) rfl (h3) ?_
  refine jm_look (Y := YX0_anyStickMark) (pc := 4) dX0_anyStickMark_4 (by decide) rfl rfl ?_
  refine jm_ald_n (Y := YX0_anyStickMark) (pc := 32) (i := 0) dX0_anyStickMark_32 rfl rfl ?_
  refine jm_bpN (Y := YX0_anyStickMark) (pc := 33) 24 dX0_anyStickMark_33 rfl ?_
  refine jm_V1v (Y := YX0_anyStickMark) (pc := 35) dX0_anyStickMark_35 lk_RX0_50 rfl rfl rfl (by decide) (Nat.le_of_ble_eq_true rfl) ⟨by decide, by decide⟩ (a_leave 24 (L) M hT (by first | omega | (simp only [List.length_append, List.length_cons, List.length_nil]; omega))) (fun M_35 q_35 => ?_)
  refine jm_icN (Y := YX0_anyStickMark) (pc := 38) 2 dX0_anyStickMark_38 rfl ?_
  refine jm_ald_n (Y := YX0_anyStickMark) (pc := 39) (i := 0) dX0_anyStickMark_39 rfl rfl ?_
  refine jm_V0i (Y := YX0_anyStickMark) (pc := 40) dX0_anyStickMark_40 lk_RX0_69 ⟨_, rfl⟩ rfl (by decide) (Nat.le_of_ble_eq_true rfl) ⟨by decide, by decide⟩ (a_stickMark (L ++ [24]) M_35 q_35.2.1 (by first | omega | (simp only [List.length_append, List.length_cons, List.length_nil]; omega)) kw sz ce 2 ((q_35.2.2.2 2 (by decide)).trans h2) ((q_35.2.2.2 3 (by decide)).trans h3) ((q_35.2.2.2 4 (by decide)).trans h4) ((q_35.2.2.2 5 (by decide)).trans h5) b2 b4 b5) (fun r_40 M_40 q_40 => ?_)
  obtain ⟨e9, t9, f9⟩ := q_40
  cases e9
  refine jm_mulN (Y := YX0_anyStickMark) (pc := 43) dX0_anyStickMark_43 ?_
  refine jm_ret (Y := YX0_anyStickMark) (pc := 44) (st := []) dX0_anyStickMark_44 rfl rfl ?_
  exact ⟨rfl, by simpa only [List.append_assoc, List.cons_append, List.nil_append] using t9, q_35.2.2.tr f9⟩
theorem a_anyStick3 (L : List Nat) (M : jm_M) (hT : jm_tr 3 8 1 M L) (hL : L.length + 3 ≤ 16) (kw sz ce kd : Nat) (h2 : M 3 2 = nI kw) (h3 : M 3 3 = nI kd) (h4 : M 3 4 = nI sz) (h5 : M 3 5 = nI ce) (b2 : kw ≤ 7) (b4 : sz ≤ 60) (b5 : ce ≤ 12) (hk : kd = 3) : jm_J none YX0_anyStickMark 0 [some (.ref 3)] [] M ((fun o M1 => o = some (.int (nI (kw + ce) - nI 1000)) ∧ jm_tr 3 8 1 M1 (L ++ [22, 21, 20]) ∧ jm_tf 3 8 1 M M1)) := by
  subst hk
  refine jm_ald_n (Y := YX0_anyStickMark) (pc := 0) (i := 0) dX0_anyStickMark_0 rfl rfl ?_
  refine jm_getE (Y := YX0_anyStickMark) (pc := 1) dX0_anyStickMark_1 fw_RX0_22 rfl (by decide) rfl (h3) ?_
  refine jm_look (Y := YX0_anyStickMark) (pc := 4) dX0_anyStickMark_4 (by decide) rfl rfl ?_
  refine jm_ald_n (Y := YX0_anyStickMark) (pc := 45) (i := 0) dX0_anyStickMark_45 rfl rfl ?_
  refine jm_bpN (Y := YX0_anyStickMark) (pc := 46) 22 dX0_anyStickMark_46 rfl ?_
  refine jm_V1v (Y := YX0_anyStickMark) (pc := 48) dX0_anyStickMark_48 lk_RX0_50 rfl rfl rfl (by decide) (Nat.le_of_ble_eq_true rfl) ⟨by decide, by decide⟩ (a_leave 22 (L) M hT (by first | omega | (simp only [List.length_append, List.length_cons, List.length_nil]; omega))) (fun M_48 q_48 => ?_)
  refine jm_ald_n (Y := YX0_anyStickMark) (pc := 51) (i := 0) dX0_anyStickMark_51 rfl rfl ?_
  refine jm_V0i (Y := YX0_anyStickMark) (pc := 52) dX0_anyStickMark_52 lk_RX0_69 ⟨_, rfl⟩ rfl (by decide) (Nat.le_of_ble_eq_true rfl) ⟨by decide, by decide⟩ (a_stickMark (L ++ [22]) M_48 q_48.2.1 (by first | omega | (simp only [List.length_append, List.length_cons, List.length_nil]; omega)) kw sz ce 3 ((q_48.2.2.2 2 (by decide)).trans h2) ((q_48.2.2.2 3 (by decide)).trans h3) ((q_48.2.2.2 4 (by decide)).trans h4) ((q_48.2.2.2 5 (by decide)).trans h5) b2 b4 b5) (fun r_52 M_52 q_52 => ?_)
  obtain ⟨e9, t9, f9⟩ := q_52
  cases e9
  refine jm_spN (Y := YX0_anyStickMark) (pc := 55) 1000 dX0_anyStickMark_55 rfl ?_
  refine jm_isub (Y := YX0_anyStickMark) (pc := 58) dX0_anyStickMark_58 ?_
  refine jm_ret (Y := YX0_anyStickMark) (pc := 59) (st := []) dX0_anyStickMark_59 rfl rfl ?_
  exact ⟨rfl, by simpa only [List.append_assoc, List.cons_append, List.nil_append] using t9, q_48.2.2.tr f9⟩
theorem a_sOrE4 (L : List Nat) (M : jm_M) (hT : jm_tr 3 8 1 M L) (hL : L.length + 3 ≤ 16) (kw sz ce kd : Nat) (h2 : M 3 2 = nI kw) (h3 : M 3 3 = nI kd) (h4 : M 3 4 = nI sz) (h5 : M 3 5 = nI ce) (b2 : kw ≤ 7) (b4 : sz ≤ 60) (b5 : ce ≤ 12) (hk : kd = 4) : jm_J none YX0_salmonOrEelSize 0 [some (.ref 3)] [] M ((fun o M1 => o = some (.int (nI sz - nI 100)) ∧ jm_tr 3 8 1 M1 (L ++ [13, 10]) ∧ jm_tf 3 8 1 M M1)) := by
  subst hk
  refine jm_ald_n (Y := YX0_salmonOrEelSize) (pc := 0) (i := 0) dX0_salmonOrEelSize_0 rfl rfl ?_
  refine jm_getE (Y := YX0_salmonOrEelSize) (pc := 1) dX0_salmonOrEelSize_1 fw_RX0_22 rfl (by decide) rfl (h3) ?_
  refine jm_icN (Y := YX0_salmonOrEelSize) (pc := 4) 5 dX0_salmonOrEelSize_4 rfl ?_
  refine jm_icmp_neN (Y := YX0_salmonOrEelSize) (pc := 5) dX0_salmonOrEelSize_5 rfl (by omega) (by omega) (fun h_5 => ?_) (fun h_5 => by exfalso; omega)
  refine jm_ald_n (Y := YX0_salmonOrEelSize) (pc := 21) (i := 0) dX0_salmonOrEelSize_21 rfl rfl ?_
  refine jm_V0i (Y := YX0_salmonOrEelSize) (pc := 22) dX0_salmonOrEelSize_22 lk_RX0_72 ⟨_, rfl⟩ rfl (by decide) (Nat.le_of_ble_eq_true rfl) ⟨by decide, by decide⟩ (a_salmonSize L M hT (by first | omega | (simp only [List.length_append, List.length_cons, List.length_nil]; omega)) kw sz ce 4 h2 h3 h4 h5 b2 b4 b5) (fun r_22 M_22 q_22 => ?_)
  refine jm_ret (Y := YX0_salmonOrEelSize) (pc := 25) (st := []) dX0_salmonOrEelSize_25 rfl rfl ?_
  obtain ⟨e9, t9, f9⟩ := q_22
  cases e9
  exact ⟨rfl, t9, f9⟩
theorem a_sOrE5 (L : List Nat) (M : jm_M) (hT : jm_tr 3 8 1 M L) (hL : L.length + 3 ≤ 16) (kw sz ce kd : Nat) (h2 : M 3 2 = nI kw) (h3 : M 3 3 = nI kd) (h4 : M 3 4 = nI sz) (h5 : M 3 5 = nI ce) (b2 : kw ≤ 7) (b4 : sz ≤ 60) (b5 : ce ≤ 12) (hk : kd = 5) : jm_J none YX0_salmonOrEelSize 0 [some (.ref 3)] [] M ((fun o M1 => o = some (.int (nI 2 * (nI sz - nI 100))) ∧ jm_tr 3 8 1 M1 (L ++ [14, 13, 10]) ∧ jm_tf 3 8 1 M M1)) := by
  subst hk
  refine jm_ald_n (Y := YX0_salmonOrEelSize) (pc := 0) (i := 0) dX0_salmonOrEelSize_0 rfl rfl ?_
  refine jm_getE (Y := YX0_salmonOrEelSize) (pc := 1) dX0_salmonOrEelSize_1 fw_RX0_22 rfl (by decide) rfl (h3) ?_
  refine jm_icN (Y := YX0_salmonOrEelSize) (pc := 4) 5 dX0_salmonOrEelSize_4 rfl ?_
  refine jm_icmp_neN (Y := YX0_salmonOrEelSize) (pc := 5) dX0_salmonOrEelSize_5 rfl (by omega) (by omega) (fun h_5 => by exfalso; omega) (fun h_5 => ?_)
  refine jm_ald_n (Y := YX0_salmonOrEelSize) (pc := 8) (i := 0) dX0_salmonOrEelSize_8 rfl rfl ?_
  refine jm_bpN (Y := YX0_salmonOrEelSize) (pc := 9) 14 dX0_salmonOrEelSize_9 rfl ?_
  refine jm_V1v (Y := YX0_salmonOrEelSize) (pc := 11) dX0_salmonOrEelSize_11 lk_RX0_50 rfl rfl rfl (by decide) (Nat.le_of_ble_eq_true rfl) ⟨by decide, by decide⟩ (a_leave 14 (L) M hT (by first | omega | (simp only [List.length_append, List.length_cons, List.length_nil]; omega))) (fun M_11 q_11 => ?_)
  refine jm_icN (Y := YX0_salmonOrEelSize) (pc := 14) 2 dX0_salmonOrEelSize_14 rfl ?_
  refine jm_ald_n (Y := YX0_salmonOrEelSize) (pc := 15) (i := 0) dX0_salmonOrEelSize_15 rfl rfl ?_
  refine jm_V0i (Y := YX0_salmonOrEelSize) (pc := 16) dX0_salmonOrEelSize_16 lk_RX0_72 ⟨_, rfl⟩ rfl (by decide) (Nat.le_of_ble_eq_true rfl) ⟨by decide, by decide⟩ (a_salmonSize (L ++ [14]) M_11 q_11.2.1 (by first | omega | (simp only [List.length_append, List.length_cons, List.length_nil]; omega)) kw sz ce 5 ((q_11.2.2.2 2 (by decide)).trans h2) ((q_11.2.2.2 3 (by decide)).trans h3) ((q_11.2.2.2 4 (by decide)).trans h4) ((q_11.2.2.2 5 (by decide)).trans h5) b2 b4 b5) (fun r_16 M_16 q_16 => ?_)
  obtain ⟨e9, t9, f9⟩ := q_16
  cases e9
  refine jm_imul (Y := YX0_salmonOrEelSize) (pc := 19) dX0_salmonOrEelSize_19 ?_
  refine jm_ret (Y := YX0_salmonOrEelSize) (pc := 20) (st := []) dX0_salmonOrEelSize_20 rfl rfl ?_
  exact ⟨rfl, by simpa only [List.append_assoc, List.cons_append, List.nil_append] using t9, q_11.2.2.tr f9⟩
theorem a_stickSize1 (L : List Nat) (M : jm_M) (hT : jm_tr 3 8 1 M L) (hL : L.length + 5 ≤ 16) (kw sz ce kd : Nat) (h2 : M 3 2 = nI kw) (h3 : M 3 3 = nI kd) (h4 : M 3 4 = nI sz) (h5 : M 3 5 = nI ce) (b2 : kw ≤ 7) (b4 : sz ≤ 60) (b5 : ce ≤ 12) (hk : kd = 1) : jm_J none YX0_stickSize 0 [some (.ref 3), none] [] M ((fun o M1 => o = some (.int (nI sz + nI (kw + ce))) ∧ jm_tr 3 8 1 M1 (L ++ [11, 10, 21, 20]) ∧ jm_tf 3 8 1 M M1)) := by
  have hk9 := hk
  subst hk
  refine jm_ald_n (Y := YX0_stickSize) (pc := 0) (i := 0) dX0_stickSize_0 rfl rfl ?_
  refine jm_bpN (Y := YX0_stickSize) (pc := 1) 11 dX0_stickSize_1 rfl ?_
  refine jm_V1v (Y := YX0_stickSize) (pc := 3) dX0_stickSize_3 lk_RX0_50 rfl rfl rfl (by decide) (Nat.le_of_ble_eq_true rfl) ⟨by decide, by decide⟩ (a_leave 11 (L) M hT (by first | omega | (simp only [List.length_append, List.length_cons, List.length_nil]; omega))) (fun M_3 q_3 => ?_)
  refine jm_ald_n (Y := YX0_stickSize) (pc := 6) (i := 0) dX0_stickSize_6 rfl rfl ?_
  refine jm_V0i (Y := YX0_stickSize) (pc := 7) dX0_stickSize_7 lk_RX0_57 ⟨_, rfl⟩ rfl (by decide) (Nat.le_of_ble_eq_true rfl) ⟨by decide, by decide⟩ (a_lentSize (L ++ [11]) M_3 q_3.2.1 (by first | omega | (simp only [List.length_append, List.length_cons, List.length_nil]; omega)) kw sz ce 1 ((q_3.2.2.2 2 (by decide)).trans h2) ((q_3.2.2.2 3 (by decide)).trans h3) ((q_3.2.2.2 4 (by decide)).trans h4) ((q_3.2.2.2 5 (by decide)).trans h5) b2 b4 b5) (fun r_7 M_7 q_7 => ?_)
  obtain ⟨e7, t7, f7⟩ := q_7
  cases e7
  have f8 := q_3.2.2.tr f7
  refine jm_ist_n (Y := YX0_stickSize) (pc := 10) (i := 1) (ls' := [_, _]) dX0_stickSize_10 rfl (Nat.le_of_ble_eq_true rfl) rfl rfl ?_
  refine jm_ild_n (Y := YX0_stickSize) (pc := 11) (i := 1) dX0_stickSize_11 rfl rfl ?_
  refine jm_ald_n (Y := YX0_stickSize) (pc := 12) (i := 0) dX0_stickSize_12 rfl rfl ?_
  refine jm_V0i (Y := YX0_stickSize) (pc := 13) dX0_stickSize_13 lk_RX0_60 ⟨_, rfl⟩ rfl (by decide) (Nat.le_of_ble_eq_true rfl) ⟨by decide, by decide⟩ (a_anyStick1 (L ++ [11] ++ [10]) M_7 t7 (by first | omega | (simp only [List.length_append, List.length_cons, List.length_nil]; omega)) kw sz ce 1 ((f8.2 2 (by decide)).trans h2) ((f8.2 3 (by decide)).trans h3) ((f8.2 4 (by decide)).trans h4) ((f8.2 5 (by decide)).trans h5) b2 b4 b5 rfl) (fun r_13 M_13 q_13 => ?_)
  obtain ⟨e9, t9, f9⟩ := q_13
  cases e9
  refine jm_iadd (Y := YX0_stickSize) (pc := 16) dX0_stickSize_16 ?_
  refine jm_ret (Y := YX0_stickSize) (pc := 17) (st := []) dX0_stickSize_17 rfl rfl ?_
  exact ⟨rfl, by simpa only [List.append_assoc, List.cons_append, List.nil_append] using t9, f8.tr f9⟩
theorem a_stickSize2 (L : List Nat) (M : jm_M) (hT : jm_tr 3 8 1 M L) (hL : L.length + 5 ≤ 16) (kw sz ce kd : Nat) (h2 : M 3 2 = nI kw) (h3 : M 3 3 = nI kd) (h4 : M 3 4 = nI sz) (h5 : M 3 5 = nI ce) (b2 : kw ≤ 7) (b4 : sz ≤ 60) (b5 : ce ≤ 12) (hk : kd = 2) : jm_J none YX0_stickSize 0 [some (.ref 3), none] [] M ((fun o M1 => o = some (.int (nI sz + nI (2 * (kw + ce)))) ∧ jm_tr 3 8 1 M1 (L ++ [11, 10, 24, 21, 20]) ∧ jm_tf 3 8 1 M M1)) := by
  have hk9 := hk
  subst hk
  refine jm_ald_n (Y := YX0_stickSize) (pc := 0) (i := 0) dX0_stickSize_0 rfl rfl ?_
  refine jm_bpN (Y := YX0_stickSize) (pc := 1) 11 dX0_stickSize_1 rfl ?_
  refine jm_V1v (Y := YX0_stickSize) (pc := 3) dX0_stickSize_3 lk_RX0_50 rfl rfl rfl (by decide) (Nat.le_of_ble_eq_true rfl) ⟨by decide, by decide⟩ (a_leave 11 (L) M hT (by first | omega | (simp only [List.length_append, List.length_cons, List.length_nil]; omega))) (fun M_3 q_3 => ?_)
  refine jm_ald_n (Y := YX0_stickSize) (pc := 6) (i := 0) dX0_stickSize_6 rfl rfl ?_
  refine jm_V0i (Y := YX0_stickSize) (pc := 7) dX0_stickSize_7 lk_RX0_57 ⟨_, rfl⟩ rfl (by decide) (Nat.le_of_ble_eq_true rfl) ⟨by decide, by decide⟩ (a_lentSize (L ++ [11]) M_3 q_3.2.1 (by first | omega | (simp only [List.length_append, List.length_cons, List.length_nil]; omega)) kw sz ce 2 ((q_3.2.2.2 2 (by decide)).trans h2) ((q_3.2.2.2 3 (by decide)).trans h3) ((q_3.2.2.2 4 (by decide)).trans h4) ((q_3.2.2.2 5 (by decide)).trans h5) b2 b4 b5) (fun r_7 M_7 q_7 => ?_)
  obtain ⟨e7, t7, f7⟩ := q_7
  cases e7
  have f8 := q_3.2.2.tr f7
  refine jm_ist_n (Y := YX0_stickSize) (pc := 10) (i := 1) (ls' := [_, _]) dX0_stickSize_10 rfl (Nat.le_of_ble_eq_true rfl) rfl rfl ?_
  refine jm_ild_n (Y := YX0_stickSize) (pc := 11) (i := 1) dX0_stickSize_11 rfl rfl ?_
  refine jm_ald_n (Y := YX0_stickSize) (pc := 12) (i := 0) dX0_stickSize_12 rfl rfl ?_
  refine jm_V0i (Y := YX0_stickSize) (pc := 13) dX0_stickSize_13 lk_RX0_60 ⟨_, rfl⟩ rfl (by decide) (Nat.le_of_ble_eq_true rfl) ⟨by decide, by decide⟩ (a_anyStick2 (L ++ [11] ++ [10]) M_7 t7 (by first | omega | (simp only [List.length_append, List.length_cons, List.length_nil]; omega)) kw sz ce 2 ((f8.2 2 (by decide)).trans h2) ((f8.2 3 (by decide)).trans h3) ((f8.2 4 (by decide)).trans h4) ((f8.2 5 (by decide)).trans h5) b2 b4 b5 rfl) (fun r_13 M_13 q_13 => ?_)
  obtain ⟨e9, t9, f9⟩ := q_13
  cases e9
  refine jm_iadd (Y := YX0_stickSize) (pc := 16) dX0_stickSize_16 ?_
  refine jm_ret (Y := YX0_stickSize) (pc := 17) (st := []) dX0_stickSize_17 rfl rfl ?_
  exact ⟨rfl, by simpa only [List.append_assoc, List.cons_append, List.nil_append] using t9, f8.tr f9⟩
theorem a_stickSize3 (L : List Nat) (M : jm_M) (hT : jm_tr 3 8 1 M L) (hL : L.length + 5 ≤ 16) (kw sz ce kd : Nat) (h2 : M 3 2 = nI kw) (h3 : M 3 3 = nI kd) (h4 : M 3 4 = nI sz) (h5 : M 3 5 = nI ce) (b2 : kw ≤ 7) (b4 : sz ≤ 60) (b5 : ce ≤ 12) (hk : kd = 3) : jm_J none YX0_stickSize 0 [some (.ref 3), none] [] M ((fun o M1 => o = some (.int (nI sz + (nI (kw + ce) - nI 1000))) ∧ jm_tr 3 8 1 M1 (L ++ [11, 10, 22, 21, 20]) ∧ jm_tf 3 8 1 M M1)) := by
  have hk9 := hk
  subst hk
  refine jm_ald_n (Y := YX0_stickSize) (pc := 0) (i := 0) dX0_stickSize_0 rfl rfl ?_
  refine jm_bpN (Y := YX0_stickSize) (pc := 1) 11 dX0_stickSize_1 rfl ?_
  refine jm_V1v (Y := YX0_stickSize) (pc := 3) dX0_stickSize_3 lk_RX0_50 rfl rfl rfl (by decide) (Nat.le_of_ble_eq_true rfl) ⟨by decide, by decide⟩ (a_leave 11 (L) M hT (by first | omega | (simp only [List.length_append, List.length_cons, List.length_nil]; omega))) (fun M_3 q_3 => ?_)
  refine jm_ald_n (Y := YX0_stickSize) (pc := 6) (i := 0) dX0_stickSize_6 rfl rfl ?_
  refine jm_V0i (Y := YX0_stickSize) (pc := 7) dX0_stickSize_7 lk_RX0_57 ⟨_, rfl⟩ rfl (by decide) (Nat.le_of_ble_eq_true rfl) ⟨by decide, by decide⟩ (a_lentSize (L ++ [11]) M_3 q_3.2.1 (by first | omega | (simp only [List.length_append, List.length_cons, List.length_nil]; omega)) kw sz ce 3 ((q_3.2.2.2 2 (by decide)).trans h2) ((q_3.2.2.2 3 (by decide)).trans h3) ((q_3.2.2.2 4 (by decide)).trans h4) ((q_3.2.2.2 5 (by decide)).trans h5) b2 b4 b5) (fun r_7 M_7 q_7 => ?_)
  obtain ⟨e7, t7, f7⟩ := q_7
  cases e7
  have f8 := q_3.2.2.tr f7
  refine jm_ist_n (Y := YX0_stickSize) (pc := 10) (i := 1) (ls' := [_, _]) dX0_stickSize_10 rfl (Nat.le_of_ble_eq_true rfl) rfl rfl ?_
  refine jm_ild_n (Y := YX0_stickSize) (pc := 11) (i := 1) dX0_stickSize_11 rfl rfl ?_
  refine jm_ald_n (Y := YX0_stickSize) (pc := 12) (i := 0) dX0_stickSize_12 rfl rfl ?_
  refine jm_V0i (Y := YX0_stickSize) (pc := 13) dX0_stickSize_13 lk_RX0_60 ⟨_, rfl⟩ rfl (by decide) (Nat.le_of_ble_eq_true rfl) ⟨by decide, by decide⟩ (a_anyStick3 (L ++ [11] ++ [10]) M_7 t7 (by first | omega | (simp only [List.length_append, List.length_cons, List.length_nil]; omega)) kw sz ce 3 ((f8.2 2 (by decide)).trans h2) ((f8.2 3 (by decide)).trans h3) ((f8.2 4 (by decide)).trans h4) ((f8.2 5 (by decide)).trans h5) b2 b4 b5 rfl) (fun r_13 M_13 q_13 => ?_)
  obtain ⟨e9, t9, f9⟩ := q_13
  cases e9
  refine jm_iadd (Y := YX0_stickSize) (pc := 16) dX0_stickSize_16 ?_
  refine jm_ret (Y := YX0_stickSize) (pc := 17) (st := []) dX0_stickSize_17 rfl rfl ?_
  exact ⟨rfl, by simpa only [List.append_assoc, List.cons_append, List.nil_append] using t9, f8.tr f9⟩
theorem a_salmonMark4 (L : List Nat) (M : jm_M) (hT : jm_tr 3 8 1 M L) (hL : L.length + 5 ≤ 16) (kw sz ce kd : Nat) (h2 : M 3 2 = nI kw) (h3 : M 3 3 = nI kd) (h4 : M 3 4 = nI sz) (h5 : M 3 5 = nI ce) (b2 : kw ≤ 7) (b4 : sz ≤ 60) (b5 : ce ≤ 12) (hk : kd = 4) : jm_J none YX0_salmonMark 0 [some (.ref 3), none] [] M ((fun o M1 => o = some (.int (nI kw - (nI sz - nI 100))) ∧ jm_tr 3 8 1 M1 (L ++ [23, 20, 13, 10]) ∧ jm_tf 3 8 1 M M1)) := by
  subst hk
  refine jm_ald_n (Y := YX0_salmonMark) (pc := 0) (i := 0) dX0_salmonMark_0 rfl rfl ?_
  refine jm_bpN (Y := YX0_salmonMark) (pc := 1) 23 dX0_salmonMark_1 rfl ?_
  refine jm_V1v (Y := YX0_salmonMark) (pc := 3) dX0_salmonMark_3 lk_RX0_50 rfl rfl rfl (by decide) (Nat.le_of_ble_eq_true rfl) ⟨by decide, by decide⟩ (a_leave 23 (L) M hT (by first | omega | (simp only [List.length_append, List.length_cons, List.length_nil]; omega))) (fun M_3 q_3 => ?_)
  refine jm_ald_n (Y := YX0_salmonMark) (pc := 6) (i := 0) dX0_salmonMark_6 rfl rfl ?_
  refine jm_V0i (Y := YX0_salmonMark) (pc := 7) dX0_salmonMark_7 lk_RX0_66 ⟨_, rfl⟩ rfl (by decide) (Nat.le_of_ble_eq_true rfl) ⟨by decide, by decide⟩ (a_lentMark (L ++ [23]) M_3 q_3.2.1 (by first | omega | (simp only [List.length_append, List.length_cons, List.length_nil]; omega)) kw sz ce 4 ((q_3.2.2.2 2 (by decide)).trans h2) ((q_3.2.2.2 3 (by decide)).trans h3) ((q_3.2.2.2 4 (by decide)).trans h4) ((q_3.2.2.2 5 (by decide)).trans h5) b2 b4 b5) (fun r_7 M_7 q_7 => ?_)
  obtain ⟨e7, t7, f7⟩ := q_7
  cases e7
  have f8 := q_3.2.2.tr f7
  refine jm_ist_n (Y := YX0_salmonMark) (pc := 10) (i := 1) (ls' := [_, _]) dX0_salmonMark_10 rfl (Nat.le_of_ble_eq_true rfl) rfl rfl ?_
  refine jm_ild_n (Y := YX0_salmonMark) (pc := 11) (i := 1) dX0_salmonMark_11 rfl rfl ?_
  refine jm_ald_n (Y := YX0_salmonMark) (pc := 12) (i := 0) dX0_salmonMark_12 rfl rfl ?_
  refine jm_V0i (Y := YX0_salmonMark) (pc := 13) dX0_salmonMark_13 lk_RX0_54 ⟨_, rfl⟩ rfl (by decide) (Nat.le_of_ble_eq_true rfl) ⟨by decide, by decide⟩ (a_sOrE4 (L ++ [23] ++ [20]) M_7 t7 (by first | omega | (simp only [List.length_append, List.length_cons, List.length_nil]; omega)) kw sz ce 4 ((f8.2 2 (by decide)).trans h2) ((f8.2 3 (by decide)).trans h3) ((f8.2 4 (by decide)).trans h4) ((f8.2 5 (by decide)).trans h5) b2 b4 b5 rfl) (fun r_13 M_13 q_13 => ?_)
  obtain ⟨e9, t9, f9⟩ := q_13
  cases e9
  refine jm_isub (Y := YX0_salmonMark) (pc := 16) dX0_salmonMark_16 ?_
  refine jm_ret (Y := YX0_salmonMark) (pc := 17) (st := []) dX0_salmonMark_17 rfl rfl ?_
  exact ⟨rfl, by simpa only [List.append_assoc, List.cons_append, List.nil_append] using t9, f8.tr f9⟩
theorem a_salmonMark5 (L : List Nat) (M : jm_M) (hT : jm_tr 3 8 1 M L) (hL : L.length + 5 ≤ 16) (kw sz ce kd : Nat) (h2 : M 3 2 = nI kw) (h3 : M 3 3 = nI kd) (h4 : M 3 4 = nI sz) (h5 : M 3 5 = nI ce) (b2 : kw ≤ 7) (b4 : sz ≤ 60) (b5 : ce ≤ 12) (hk : kd = 5) : jm_J none YX0_salmonMark 0 [some (.ref 3), none] [] M ((fun o M1 => o = some (.int (nI kw - (nI 2 * (nI sz - nI 100)))) ∧ jm_tr 3 8 1 M1 (L ++ [23, 20, 14, 13, 10]) ∧ jm_tf 3 8 1 M M1)) := by
  subst hk
  refine jm_ald_n (Y := YX0_salmonMark) (pc := 0) (i := 0) dX0_salmonMark_0 rfl rfl ?_
  refine jm_bpN (Y := YX0_salmonMark) (pc := 1) 23 dX0_salmonMark_1 rfl ?_
  refine jm_V1v (Y := YX0_salmonMark) (pc := 3) dX0_salmonMark_3 lk_RX0_50 rfl rfl rfl (by decide) (Nat.le_of_ble_eq_true rfl) ⟨by decide, by decide⟩ (a_leave 23 (L) M hT (by first | omega | (simp only [List.length_append, List.length_cons, List.length_nil]; omega))) (fun M_3 q_3 => ?_)
  refine jm_ald_n (Y := YX0_salmonMark) (pc := 6) (i := 0) dX0_salmonMark_6 rfl rfl ?_
  refine jm_V0i (Y := YX0_salmonMark) (pc := 7) dX0_salmonMark_7 lk_RX0_66 ⟨_, rfl⟩ rfl (by decide) (Nat.le_of_ble_eq_true rfl) ⟨by decide, by decide⟩ (a_lentMark (L ++ [23]) M_3 q_3.2.1 (by first | omega | (simp only [List.length_append, List.length_cons, List.length_nil]; omega)) kw sz ce 5 ((q_3.2.2.2 2 (by decide)).trans h2) ((q_3.2.2.2 3 (by decide)).trans h3) ((q_3.2.2.2 4 (by decide)).trans h4) ((q_3.2.2.2 5 (by decide)).trans h5) b2 b4 b5) (fun r_7 M_7 q_7 => ?_)
  obtain ⟨e7, t7, f7⟩ := q_7
  cases e7
  have f8 := q_3.2.2.tr f7
  refine jm_ist_n (Y := YX0_salmonMark) (pc := 10) (i := 1) (ls' := [_, _]) dX0_salmonMark_10 rfl (Nat.le_of_ble_eq_true rfl) rfl rfl ?_
  refine jm_ild_n (Y := YX0_salmonMark) (pc := 11) (i := 1) dX0_salmonMark_11 rfl rfl ?_
  refine jm_ald_n (Y := YX0_salmonMark) (pc := 12) (i := 0) dX0_salmonMark_12 rfl rfl ?_
  refine jm_V0i (Y := YX0_salmonMark) (pc := 13) dX0_salmonMark_13 lk_RX0_54 ⟨_, rfl⟩ rfl (by decide) (Nat.le_of_ble_eq_true rfl) ⟨by decide, by decide⟩ (a_sOrE5 (L ++ [23] ++ [20]) M_7 t7 (by first | omega | (simp only [List.length_append, List.length_cons, List.length_nil]; omega)) kw sz ce 5 ((f8.2 2 (by decide)).trans h2) ((f8.2 3 (by decide)).trans h3) ((f8.2 4 (by decide)).trans h4) ((f8.2 5 (by decide)).trans h5) b2 b4 b5 rfl) (fun r_13 M_13 q_13 => ?_)
  obtain ⟨e9, t9, f9⟩ := q_13
  cases e9
  refine jm_isub (Y := YX0_salmonMark) (pc := 16) dX0_salmonMark_16 ?_
  refine jm_ret (Y := YX0_salmonMark) (pc := 17) (st := []) dX0_salmonMark_17 rfl rfl ?_
  exact ⟨rfl, by simpa only [List.append_assoc, List.cons_append, List.nil_append] using t9, f8.tr f9⟩
theorem a_askSize1 (L : List Nat) (M : jm_M) (hT : jm_tr 3 8 1 M L) (hL : L.length + 6 ≤ 16) (kw sz ce kd : Nat) (h2 : M 3 2 = nI kw) (h3 : M 3 3 = nI kd) (h4 : M 3 4 = nI sz) (h5 : M 3 5 = nI ce) (b2 : kw ≤ 7) (b4 : sz ≤ 60) (b5 : ce ≤ 12) (hk : kd = 1) : jm_J none YX0_askSize 0 [some (.ref 3)] [] M ((fun o M1 => o = some (.int (nI sz + nI (kw + ce))) ∧ jm_tr 3 8 1 M1 (L ++ [11, 10, 21, 20]) ∧ jm_tf 3 8 1 M M1)) := by
  subst hk
  refine jm_ald_n (Y := YX0_askSize) (pc := 0) (i := 0) dX0_askSize_0 rfl rfl ?_
  refine jm_getE (Y := YX0_askSize) (pc := 1) dX0_askSize_1 fw_RX0_22 rfl (by decide) rfl (h3) ?_
  refine jm_tin (Y := YX0_askSize) (pc := 4) dX0_askSize_4 (by decide) (by decide) rfl rfl ?_
  refine jm_ald_n (Y := YX0_askSize) (pc := 40) (i := 0) dX0_askSize_40 rfl rfl ?_
  refine jm_V0i (Y := YX0_askSize) (pc := 41) dX0_askSize_41 lk_RX0_46 ⟨_, rfl⟩ rfl (by decide) (Nat.le_of_ble_eq_true rfl) ⟨by decide, by decide⟩ (a_stickSize1 L M hT (by first | omega | (simp only [List.length_append, List.length_cons, List.length_nil]; omega)) kw sz ce 1 h2 h3 h4 h5 b2 b4 b5 rfl) (fun r_41 M_41 q_41 => ?_)
  refine jm_ret (Y := YX0_askSize) (pc := 44) (st := []) dX0_askSize_44 rfl rfl ?_
  obtain ⟨e9, t9, f9⟩ := q_41
  cases e9
  exact ⟨rfl, t9, f9⟩
theorem a_askMark1 (L : List Nat) (M : jm_M) (hT : jm_tr 3 8 1 M L) (hL : L.length + 6 ≤ 16) (kw sz ce kd : Nat) (h2 : M 3 2 = nI kw) (h3 : M 3 3 = nI kd) (h4 : M 3 4 = nI sz) (h5 : M 3 5 = nI ce) (b2 : kw ≤ 7) (b4 : sz ≤ 60) (b5 : ce ≤ 12) (hk : kd = 1) : jm_J none YX0_askMark 0 [some (.ref 3)] [] M ((fun o M1 => o = some (.int (nI (kw + ce))) ∧ jm_tr 3 8 1 M1 (L ++ [21, 20]) ∧ jm_tf 3 8 1 M M1)) := by
  subst hk
  refine jm_ald_n (Y := YX0_askMark) (pc := 0) (i := 0) dX0_askMark_0 rfl rfl ?_
  refine jm_getE (Y := YX0_askMark) (pc := 1) dX0_askMark_1 fw_RX0_22 rfl (by decide) rfl (h3) ?_
  refine jm_tin (Y := YX0_askMark) (pc := 4) dX0_askMark_4 (by decide) (by decide) rfl rfl ?_
  refine jm_ald_n (Y := YX0_askMark) (pc := 40) (i := 0) dX0_askMark_40 rfl rfl ?_
  refine jm_V0i (Y := YX0_askMark) (pc := 41) dX0_askMark_41 lk_RX0_60 ⟨_, rfl⟩ rfl (by decide) (Nat.le_of_ble_eq_true rfl) ⟨by decide, by decide⟩ (a_anyStick1 L M hT (by first | omega | (simp only [List.length_append, List.length_cons, List.length_nil]; omega)) kw sz ce 1 h2 h3 h4 h5 b2 b4 b5 rfl) (fun r_41 M_41 q_41 => ?_)
  refine jm_ret (Y := YX0_askMark) (pc := 44) (st := []) dX0_askMark_44 rfl rfl ?_
  obtain ⟨e9, t9, f9⟩ := q_41
  cases e9
  exact ⟨rfl, t9, f9⟩
theorem a_askSize2 (L : List Nat) (M : jm_M) (hT : jm_tr 3 8 1 M L) (hL : L.length + 6 ≤ 16) (kw sz ce kd : Nat) (h2 : M 3 2 = nI kw) (h3 : M 3 3 = nI kd) (h4 : M 3 4 = nI sz) (h5 : M 3 5 = nI ce) (b2 : kw ≤ 7) (b4 : sz ≤ 60) (b5 : ce ≤ 12) (hk : kd = 2) : jm_J none YX0_askSize 0 [some (.ref 3)] [] M ((fun o M1 => o = some (.int (nI 0 - (nI sz + nI (2 * (kw + ce))))) ∧ jm_tr 3 8 1 M1 (L ++ [12, 11, 10, 24, 21, 20]) ∧ jm_tf 3 8 1 M M1)) := by
  subst hk
  refine jm_ald_n (Y := YX0_askSize) (pc := 0) (i := 0) dX0_askSize_0 rfl rfl ?_
  refine jm_getE (Y := YX0_askSize) (pc := 1) dX0_askSize_1 fw_RX0_22 rfl (by decide) rfl (h3) ?_
  refine jm_tin (Y := YX0_askSize) (pc := 4) dX0_askSize_4 (by decide) (by decide) rfl rfl ?_
  refine jm_ald_n (Y := YX0_askSize) (pc := 45) (i := 0) dX0_askSize_45 rfl rfl ?_
  refine jm_bpN (Y := YX0_askSize) (pc := 46) 12 dX0_askSize_46 rfl ?_
  refine jm_V1v (Y := YX0_askSize) (pc := 48) dX0_askSize_48 lk_RX0_50 rfl rfl rfl (by decide) (Nat.le_of_ble_eq_true rfl) ⟨by decide, by decide⟩ (a_leave 12 (L) M hT (by first | omega | (simp only [List.length_append, List.length_cons, List.length_nil]; omega))) (fun M_48 q_48 => ?_)
  refine jm_icN (Y := YX0_askSize) (pc := 51) 0 dX0_askSize_51 rfl ?_
  refine jm_ald_n (Y := YX0_askSize) (pc := 52) (i := 0) dX0_askSize_52 rfl rfl ?_
  refine jm_V0i (Y := YX0_askSize) (pc := 53) dX0_askSize_53 lk_RX0_46 ⟨_, rfl⟩ rfl (by decide) (Nat.le_of_ble_eq_true rfl) ⟨by decide, by decide⟩ (a_stickSize2 (L ++ [12]) M_48 q_48.2.1 (by first | omega | (simp only [List.length_append, List.length_cons, List.length_nil]; omega)) kw sz ce 2 ((q_48.2.2.2 2 (by decide)).trans h2) ((q_48.2.2.2 3 (by decide)).trans h3) ((q_48.2.2.2 4 (by decide)).trans h4) ((q_48.2.2.2 5 (by decide)).trans h5) b2 b4 b5 rfl) (fun r_53 M_53 q_53 => ?_)
  obtain ⟨e9, t9, f9⟩ := q_53
  cases e9
  refine jm_isub (Y := YX0_askSize) (pc := 56) dX0_askSize_56 ?_
  refine jm_ret (Y := YX0_askSize) (pc := 57) (st := []) dX0_askSize_57 rfl rfl ?_
  exact ⟨rfl, by simpa only [List.append_assoc, List.cons_append, List.nil_append] using t9, q_48.2.2.tr f9⟩
theorem a_askMark2 (L : List Nat) (M : jm_M) (hT : jm_tr 3 8 1 M L) (hL : L.length + 6 ≤ 16) (kw sz ce kd : Nat) (h2 : M 3 2 = nI kw) (h3 : M 3 3 = nI kd) (h4 : M 3 4 = nI sz) (h5 : M 3 5 = nI ce) (b2 : kw ≤ 7) (b4 : sz ≤ 60) (b5 : ce ≤ 12) (hk : kd = 2) : jm_J none YX0_askMark 0 [some (.ref 3)] [] M ((fun o M1 => o = some (.int (nI (2 * (kw + ce)))) ∧ jm_tr 3 8 1 M1 (L ++ [24, 21, 20]) ∧ jm_tf 3 8 1 M M1)) := by
  subst hk
  refine jm_ald_n (Y := YX0_askMark) (pc := 0) (i := 0) dX0_askMark_0 rfl rfl ?_
  refine jm_getE (Y := YX0_askMark) (pc := 1) dX0_askMark_1 fw_RX0_22 rfl (by decide) rfl (h3) ?_
  refine jm_tin (Y := YX0_askMark) (pc := 4) dX0_askMark_4 (by decide) (by decide) rfl rfl ?_
  refine jm_ald_n (Y := YX0_askMark) (pc := 40) (i := 0) dX0_askMark_40 rfl rfl ?_
  refine jm_V0i (Y := YX0_askMark) (pc := 41) dX0_askMark_41 lk_RX0_60 ⟨_, rfl⟩ rfl (by decide) (Nat.le_of_ble_eq_true rfl) ⟨by decide, by decide⟩ (a_anyStick2 L M hT (by first | omega | (simp only [List.length_append, List.length_cons, List.length_nil]; omega)) kw sz ce 2 h2 h3 h4 h5 b2 b4 b5 rfl) (fun r_41 M_41 q_41 => ?_)
  refine jm_ret (Y := YX0_askMark) (pc := 44) (st := []) dX0_askMark_44 rfl rfl ?_
  obtain ⟨e9, t9, f9⟩ := q_41
  cases e9
  exact ⟨rfl, t9, f9⟩
theorem a_askSize3 (L : List Nat) (M : jm_M) (hT : jm_tr 3 8 1 M L) (hL : L.length + 6 ≤ 16) (kw sz ce kd : Nat) (h2 : M 3 2 = nI kw) (h3 : M 3 3 = nI kd) (h4 : M 3 4 = nI sz) (h5 : M 3 5 = nI ce) (b2 : kw ≤ 7) (b4 : sz ≤ 60) (b5 : ce ≤ 12) (hk : kd = 3) : jm_J none YX0_askSize 0 [some (.ref 3)] [] M ((fun o M1 => o = some (.int (nI sz + (nI (kw + ce) - nI 1000))) ∧ jm_tr 3 8 1 M1 (L ++ [11, 10, 22, 21, 20]) ∧ jm_tf 3 8 1 M M1)) := by
  subst hk
  refine jm_ald_n (Y := YX0_askSize) (pc := 0) (i := 0) dX0_askSize_0 rfl rfl ?_
  refine jm_getE (Y := YX0_askSize) (pc := 1) dX0_askSize_1 fw_RX0_22 rfl (by decide) rfl (h3) ?_
  refine jm_tin (Y := YX0_askSize) (pc := 4) dX0_askSize_4 (by decide) (by decide) rfl rfl ?_
  refine jm_ald_n (Y := YX0_askSize) (pc := 40) (i := 0) dX0_askSize_40 rfl rfl ?_
  refine jm_V0i (Y := YX0_askSize) (pc := 41) dX0_askSize_41 lk_RX0_46 ⟨_, rfl⟩ rfl (by decide) (Nat.le_of_ble_eq_true rfl) ⟨by decide, by decide⟩ (a_stickSize3 L M hT (by first | omega | (simp only [List.length_append, List.length_cons, List.length_nil]; omega)) kw sz ce 3 h2 h3 h4 h5 b2 b4 b5 rfl) (fun r_41 M_41 q_41 => ?_)
  refine jm_ret (Y := YX0_askSize) (pc := 44) (st := []) dX0_askSize_44 rfl rfl ?_
  obtain ⟨e9, t9, f9⟩ := q_41
  cases e9
  exact ⟨rfl, t9, f9⟩
theorem a_askMark3 (L : List Nat) (M : jm_M) (hT : jm_tr 3 8 1 M L) (hL : L.length + 6 ≤ 16) (kw sz ce kd : Nat) (h2 : M 3 2 = nI kw) (h3 : M 3 3 = nI kd) (h4 : M 3 4 = nI sz) (h5 : M 3 5 = nI ce) (b2 : kw ≤ 7) (b4 : sz ≤ 60) (b5 : ce ≤ 12) (hk : kd = 3) : jm_J none YX0_askMark 0 [some (.ref 3)] [] M ((fun o M1 => o = some (.int ((nI (kw + ce) - nI 1000))) ∧ jm_tr 3 8 1 M1 (L ++ [22, 21, 20]) ∧ jm_tf 3 8 1 M M1)) := by
  subst hk
  refine jm_ald_n (Y := YX0_askMark) (pc := 0) (i := 0) dX0_askMark_0 rfl rfl ?_
  refine jm_getE (Y := YX0_askMark) (pc := 1) dX0_askMark_1 fw_RX0_22 rfl (by decide) rfl (h3) ?_
  refine jm_tin (Y := YX0_askMark) (pc := 4) dX0_askMark_4 (by decide) (by decide) rfl rfl ?_
  refine jm_ald_n (Y := YX0_askMark) (pc := 40) (i := 0) dX0_askMark_40 rfl rfl ?_
  refine jm_V0i (Y := YX0_askMark) (pc := 41) dX0_askMark_41 lk_RX0_60 ⟨_, rfl⟩ rfl (by decide) (Nat.le_of_ble_eq_true rfl) ⟨by decide, by decide⟩ (a_anyStick3 L M hT (by first | omega | (simp only [List.length_append, List.length_cons, List.length_nil]; omega)) kw sz ce 3 h2 h3 h4 h5 b2 b4 b5 rfl) (fun r_41 M_41 q_41 => ?_)
  refine jm_ret (Y := YX0_askMark) (pc := 44) (st := []) dX0_askMark_44 rfl rfl ?_
  obtain ⟨e9, t9, f9⟩ := q_41
  cases e9
  exact ⟨rfl, t9, f9⟩
theorem a_askSize4 (L : List Nat) (M : jm_M) (hT : jm_tr 3 8 1 M L) (hL : L.length + 6 ≤ 16) (kw sz ce kd : Nat) (h2 : M 3 2 = nI kw) (h3 : M 3 3 = nI kd) (h4 : M 3 4 = nI sz) (h5 : M 3 5 = nI ce) (b2 : kw ≤ 7) (b4 : sz ≤ 60) (b5 : ce ≤ 12) (hk : kd = 4) : jm_J none YX0_askSize 0 [some (.ref 3)] [] M ((fun o M1 => o = some (.int (nI sz - nI 100)) ∧ jm_tr 3 8 1 M1 (L ++ [13, 10]) ∧ jm_tf 3 8 1 M M1)) := by
  subst hk
  refine jm_ald_n (Y := YX0_askSize) (pc := 0) (i := 0) dX0_askSize_0 rfl rfl ?_
  refine jm_getE (Y := YX0_askSize) (pc := 1) dX0_askSize_1 fw_RX0_22 rfl (by decide) rfl (h3) ?_
  refine jm_tin (Y := YX0_askSize) (pc := 4) dX0_askSize_4 (by decide) (by decide) rfl rfl ?_
  refine jm_ald_n (Y := YX0_askSize) (pc := 58) (i := 0) dX0_askSize_58 rfl rfl ?_
  refine jm_V0i (Y := YX0_askSize) (pc := 59) dX0_askSize_59 lk_RX0_54 ⟨_, rfl⟩ rfl (by decide) (Nat.le_of_ble_eq_true rfl) ⟨by decide, by decide⟩ (a_sOrE4 L M hT (by first | omega | (simp only [List.length_append, List.length_cons, List.length_nil]; omega)) kw sz ce 4 h2 h3 h4 h5 b2 b4 b5 rfl) (fun r_59 M_59 q_59 => ?_)
  refine jm_ret (Y := YX0_askSize) (pc := 62) (st := []) dX0_askSize_62 rfl rfl ?_
  obtain ⟨e9, t9, f9⟩ := q_59
  cases e9
  exact ⟨rfl, t9, f9⟩
theorem a_askMark4 (L : List Nat) (M : jm_M) (hT : jm_tr 3 8 1 M L) (hL : L.length + 6 ≤ 16) (kw sz ce kd : Nat) (h2 : M 3 2 = nI kw) (h3 : M 3 3 = nI kd) (h4 : M 3 4 = nI sz) (h5 : M 3 5 = nI ce) (b2 : kw ≤ 7) (b4 : sz ≤ 60) (b5 : ce ≤ 12) (hk : kd = 4) : jm_J none YX0_askMark 0 [some (.ref 3)] [] M ((fun o M1 => o = some (.int (nI kw - (nI sz - nI 100))) ∧ jm_tr 3 8 1 M1 (L ++ [23, 20, 13, 10]) ∧ jm_tf 3 8 1 M M1)) := by
  subst hk
  refine jm_ald_n (Y := YX0_askMark) (pc := 0) (i := 0) dX0_askMark_0 rfl rfl ?_
  refine jm_getE (Y := YX0_askMark) (pc := 1) dX0_askMark_1 fw_RX0_22 rfl (by decide) rfl (h3) ?_
  refine jm_tin (Y := YX0_askMark) (pc := 4) dX0_askMark_4 (by decide) (by decide) rfl rfl ?_
  refine jm_ald_n (Y := YX0_askMark) (pc := 45) (i := 0) dX0_askMark_45 rfl rfl ?_
  refine jm_V0i (Y := YX0_askMark) (pc := 46) dX0_askMark_46 lk_RX0_63 ⟨_, rfl⟩ rfl (by decide) (Nat.le_of_ble_eq_true rfl) ⟨by decide, by decide⟩ (a_salmonMark4 L M hT (by first | omega | (simp only [List.length_append, List.length_cons, List.length_nil]; omega)) kw sz ce 4 h2 h3 h4 h5 b2 b4 b5 rfl) (fun r_46 M_46 q_46 => ?_)
  refine jm_ret (Y := YX0_askMark) (pc := 49) (st := []) dX0_askMark_49 rfl rfl ?_
  obtain ⟨e9, t9, f9⟩ := q_46
  cases e9
  exact ⟨rfl, t9, f9⟩
theorem a_askSize5 (L : List Nat) (M : jm_M) (hT : jm_tr 3 8 1 M L) (hL : L.length + 6 ≤ 16) (kw sz ce kd : Nat) (h2 : M 3 2 = nI kw) (h3 : M 3 3 = nI kd) (h4 : M 3 4 = nI sz) (h5 : M 3 5 = nI ce) (b2 : kw ≤ 7) (b4 : sz ≤ 60) (b5 : ce ≤ 12) (hk : kd = 5) : jm_J none YX0_askSize 0 [some (.ref 3)] [] M ((fun o M1 => o = some (.int (nI 2 * (nI sz - nI 100))) ∧ jm_tr 3 8 1 M1 (L ++ [14, 13, 10]) ∧ jm_tf 3 8 1 M M1)) := by
  subst hk
  refine jm_ald_n (Y := YX0_askSize) (pc := 0) (i := 0) dX0_askSize_0 rfl rfl ?_
  refine jm_getE (Y := YX0_askSize) (pc := 1) dX0_askSize_1 fw_RX0_22 rfl (by decide) rfl (h3) ?_
  refine jm_tin (Y := YX0_askSize) (pc := 4) dX0_askSize_4 (by decide) (by decide) rfl rfl ?_
  refine jm_ald_n (Y := YX0_askSize) (pc := 58) (i := 0) dX0_askSize_58 rfl rfl ?_
  refine jm_V0i (Y := YX0_askSize) (pc := 59) dX0_askSize_59 lk_RX0_54 ⟨_, rfl⟩ rfl (by decide) (Nat.le_of_ble_eq_true rfl) ⟨by decide, by decide⟩ (a_sOrE5 L M hT (by first | omega | (simp only [List.length_append, List.length_cons, List.length_nil]; omega)) kw sz ce 5 h2 h3 h4 h5 b2 b4 b5 rfl) (fun r_59 M_59 q_59 => ?_)
  refine jm_ret (Y := YX0_askSize) (pc := 62) (st := []) dX0_askSize_62 rfl rfl ?_
  obtain ⟨e9, t9, f9⟩ := q_59
  cases e9
  exact ⟨rfl, t9, f9⟩
theorem a_askMark5 (L : List Nat) (M : jm_M) (hT : jm_tr 3 8 1 M L) (hL : L.length + 6 ≤ 16) (kw sz ce kd : Nat) (h2 : M 3 2 = nI kw) (h3 : M 3 3 = nI kd) (h4 : M 3 4 = nI sz) (h5 : M 3 5 = nI ce) (b2 : kw ≤ 7) (b4 : sz ≤ 60) (b5 : ce ≤ 12) (hk : kd = 5) : jm_J none YX0_askMark 0 [some (.ref 3)] [] M ((fun o M1 => o = some (.int (nI kw - (nI 2 * (nI sz - nI 100)))) ∧ jm_tr 3 8 1 M1 (L ++ [23, 20, 14, 13, 10]) ∧ jm_tf 3 8 1 M M1)) := by
  subst hk
  refine jm_ald_n (Y := YX0_askMark) (pc := 0) (i := 0) dX0_askMark_0 rfl rfl ?_
  refine jm_getE (Y := YX0_askMark) (pc := 1) dX0_askMark_1 fw_RX0_22 rfl (by decide) rfl (h3) ?_
  refine jm_tin (Y := YX0_askMark) (pc := 4) dX0_askMark_4 (by decide) (by decide) rfl rfl ?_
  refine jm_ald_n (Y := YX0_askMark) (pc := 45) (i := 0) dX0_askMark_45 rfl rfl ?_
  refine jm_V0i (Y := YX0_askMark) (pc := 46) dX0_askMark_46 lk_RX0_63 ⟨_, rfl⟩ rfl (by decide) (Nat.le_of_ble_eq_true rfl) ⟨by decide, by decide⟩ (a_salmonMark5 L M hT (by first | omega | (simp only [List.length_append, List.length_cons, List.length_nil]; omega)) kw sz ce 5 h2 h3 h4 h5 b2 b4 b5 rfl) (fun r_46 M_46 q_46 => ?_)
  refine jm_ret (Y := YX0_askMark) (pc := 49) (st := []) dX0_askMark_49 rfl rfl ?_
  obtain ⟨e9, t9, f9⟩ := q_46
  cases e9
  exact ⟨rfl, t9, f9⟩
