/-! the class: what is told, what may come, the drawn, the swift -/
def m_tl (s : Nat × Nat) : Int32 := if s.1 = 0 then nI 99 else nI s.2
def m_hy (w : Nat → Nat) (kd : Nat) (s : Nat × Nat) (n : Nat) : Nat × Nat := m_it w kd s (w 4) (m_sk w (w 4)) n
def m_sn (w : Nat → Nat) (kd : Nat) (s : Nat × Nat) (it : Nat → Int32) (f : Nat) : Nat → Bool
  | 0 => true
  | n + 1 => m_sn w kd s it f n && decide (m_tl (m_hy w kd s (n + 1)) = it (f + n))
theorem m_sn_mono {w : Nat → Nat} {kd : Nat} {s : Nat × Nat} {it : Nat → Int32} {f : Nat} : ∀ {n i : Nat}, i ≤ n → m_sn w kd s it f n = true → m_sn w kd s it f i = true
  | 0, i, h, e => by rw [Nat.le_zero.mp h]; exact e
  | n + 1, i, h, e => by
    by_cases q : i = n + 1
    · rw [q]; exact e
    · exact m_sn_mono (show i ≤ n by omega) (Bool.and_eq_true_iff.mp e).1
theorem m_hy_s {w : Nat → Nat} {kd i : Nat} {s : Nat × Nat} {p : Prop} [Decidable p] (h : p ↔ w 0 / 2 ^ ((w 4 + i) % 4) % 2 = 1) : m_mv w kd ((m_hy w kd s i).1, (m_hy w kd s i).2) (w 4 + i) p = m_hy w kd s (i + 1) := m_mv_c (by unfold m_sk; rw [decide_eq_true_iff]; exact h)
theorem m_told0 (r : Nat) (ha : r < 28) (w : Nat → Nat) (M : jm_M) (hR : RV M r w) (hg : rG w) (kd : Nat) (s : Nat × Nat) (h1 : 1 ≤ kd) (h5 : kd ≤ 5) (h60 : s.1 ≤ 60) (hs : s.2 < w 2) (T f N : Nat) (hT : jm_ar T = some (0, 40)) (hf : f + N ≤ 40) (hm : w 4 ≤ 9999) (l2 : Option Value) : ∀ (m : Nat) (i : Nat), i ≤ N → m_sn w kd s (M T) f i = true → N - i < m → jm_J none YX2_goesAsTold 6 [some (.ref (32 + 4 * r)), some (.int (nI kd)), l2, some (.ref T), some (.int (nI f)), some (.int (nI N)), some (.int (nI (16 * (m_hy w kd s i).1 + (m_hy w kd s i).2))), some (.int (nI i))] [] M (jm_is (some (.int (jm_b (m_sn w kd s (M T) f N = true)))) M) := by
  intro m
  induction m with
  | zero => intros; omega
  | succ m ih =>
    intro i hi hsn hmm
    have hb := hg.hb
    have g0 := hg.1.1
    have g1 := hg.1.2.1
    have g2 := hg.1.2.2.1
    have g3 := hg.1.2.2.2.1
    have g4 := hg.1.2.2.2.2
    have qi := m_it_lt (kd := kd) (t := w 4) (f := m_sk w (w 4)) hs i
    have qj := m_it_lt (kd := kd) (t := w 4) (f := m_sk w (w 4)) hs (i + 1)
    have qi1 : (m_hy w kd s i).2 < w 2 ∧ (m_hy w kd s i).1 ≤ s.1 := qi
    have qj1 : (m_hy w kd s (i + 1)).2 < w 2 ∧ (m_hy w kd s (i + 1)).1 ≤ s.1 := qj
    refine jm_iload (Y := YX2_goesAsTold) (pc := 6) dX2_goesAsTold_6 rfl ?_
    refine jm_iload (Y := YX2_goesAsTold) (pc := 8) dX2_goesAsTold_8 rfl ?_
    refine jm_icmp_geN (Y := YX2_goesAsTold) (pc := 10) dX2_goesAsTold_10 rfl (by first | omega | exact jm_lt hb _) (by first | omega | exact jm_lt hb _) (fun h_10 => ?_) (fun h_10 => ?_)
    · refine jm_icN (Y := YX2_goesAsTold) (pc := 76) 1 dX2_goesAsTold_76 rfl ?_
      refine jm_ret (Y := YX2_goesAsTold) (pc := 77) (st := []) dX2_goesAsTold_77 rfl rfl ?_
      first
        | (have e : i = N := (by omega); subst e; exact jm_bt hsn)
        | (have e3 : ¬ m_tl (m_hy w kd s (i + 1)) = M T (f + i) := (by first | (unfold m_tl; rw [if_pos h_52]; exact fun z => h_65 z.symm) | (unfold m_tl; rw [if_neg h_52]; exact fun z => h_65 z.symm)); exact jm_bf (fun z => e3 (of_decide_eq_true (Bool.and_eq_true_iff.mp (m_sn_mono (show i + 1 ≤ N by omega) z)).2)))
        | fail
    · refine jm_ald_n (Y := YX2_goesAsTold) (pc := 13) (i := 0) dX2_goesAsTold_13 rfl rfl ?_
      refine jm_ild_n (Y := YX2_goesAsTold) (pc := 14) (i := 1) dX2_goesAsTold_14 rfl rfl ?_
      refine jm_iload (Y := YX2_goesAsTold) (pc := 15) dX2_goesAsTold_15 rfl ?_
      refine jm_ald_n (Y := YX2_goesAsTold) (pc := 17) (i := 0) dX2_goesAsTold_17 rfl rfl ?_
      first | refine jm_getE (Y := YX2_goesAsTold) (pc := 18) dX2_goesAsTold_18 fw_RX2_24 (by first | exact jm_obR ha | exact jm_obR hb | rfl) (by decide) (by first | exact jm_rf4 | rfl) (by assumption) ?_ | refine jm_getE (Y := YX2_goesAsTold) (pc := 18) dX2_goesAsTold_18 fw_RX2_24 (by first | exact jm_obR ha | exact jm_obR hb | rfl) (by decide) (by first | exact jm_rf4 | rfl) (by exact hR.1.1) ?_ | refine jm_getE (Y := YX2_goesAsTold) (pc := 18) dX2_goesAsTold_18 fw_RX2_24 (by first | exact jm_obR ha | exact jm_obR hb | rfl) (by decide) (by first | exact jm_rf4 | rfl) (by exact hR.1.2.1) ?_ | refine jm_getE (Y := YX2_goesAsTold) (pc := 18) dX2_goesAsTold_18 fw_RX2_24 (by first | exact jm_obR ha | exact jm_obR hb | rfl) (by decide) (by first | exact jm_rf4 | rfl) (by exact hR.1.2.2.1) ?_ | refine jm_getE (Y := YX2_goesAsTold) (pc := 18) dX2_goesAsTold_18 fw_RX2_24 (by first | exact jm_obR ha | exact jm_obR hb | rfl) (by decide) (by first | exact jm_rf4 | rfl) (by exact hR.1.2.2.2.1) ?_ | refine jm_getE (Y := YX2_goesAsTold) (pc := 18) dX2_goesAsTold_18 fw_RX2_24 (by first | exact jm_obR ha | exact jm_obR hb | rfl) (by decide) (by first | exact jm_rf4 | rfl) (by exact hR.1.2.2.2.2) ?_ | refine jm_getE (Y := YX2_goesAsTold) (pc := 18) dX2_goesAsTold_18 fw_RX2_24 (by first | exact jm_obR ha | exact jm_obR hb | rfl) (by decide) (by first | exact jm_rf4 | rfl) (by exact hR.2.1 _ (by omega)) ?_ | refine jm_getE (Y := YX2_goesAsTold) (pc := 18) dX2_goesAsTold_18 fw_RX2_24 (by first | exact jm_obR ha | exact jm_obR hb | rfl) (by decide) (by first | exact jm_rf4 | rfl) (by exact (hR.2.2 _ (by omega)).1) ?_ | refine jm_getE (Y := YX2_goesAsTold) (pc := 18) dX2_goesAsTold_18 fw_RX2_24 (by first | exact jm_obR ha | exact jm_obR hb | rfl) (by decide) (by first | exact jm_rf4 | rfl) (by exact (hR.2.2 _ (by omega)).2) ?_ | refine jm_getI (Y := YX2_goesAsTold) (pc := 18) dX2_goesAsTold_18 fw_RX2_24.F (by first | exact jm_obR ha | exact jm_obR hb | rfl) (by decide) (by first | exact jm_rf4 | rfl) ?_ | fail
      refine jm_iload (Y := YX2_goesAsTold) (pc := 21) dX2_goesAsTold_21 rfl ?_
      refine jm_addN (Y := YX2_goesAsTold) (pc := 23) dX2_goesAsTold_23 ?_
      refine jm_ald_n (Y := YX2_goesAsTold) (pc := 24) (i := 0) dX2_goesAsTold_24 rfl rfl ?_
      refine jm_ald_n (Y := YX2_goesAsTold) (pc := 25) (i := 0) dX2_goesAsTold_25 rfl rfl ?_
      first | refine jm_getE (Y := YX2_goesAsTold) (pc := 26) dX2_goesAsTold_26 fw_RX2_24 (by first | exact jm_obR ha | exact jm_obR hb | rfl) (by decide) (by first | exact jm_rf4 | rfl) (by assumption) ?_ | refine jm_getE (Y := YX2_goesAsTold) (pc := 26) dX2_goesAsTold_26 fw_RX2_24 (by first | exact jm_obR ha | exact jm_obR hb | rfl) (by decide) (by first | exact jm_rf4 | rfl) (by exact hR.1.1) ?_ | refine jm_getE (Y := YX2_goesAsTold) (pc := 26) dX2_goesAsTold_26 fw_RX2_24 (by first | exact jm_obR ha | exact jm_obR hb | rfl) (by decide) (by first | exact jm_rf4 | rfl) (by exact hR.1.2.1) ?_ | refine jm_getE (Y := YX2_goesAsTold) (pc := 26) dX2_goesAsTold_26 fw_RX2_24 (by first | exact jm_obR ha | exact jm_obR hb | rfl) (by decide) (by first | exact jm_rf4 | rfl) (by exact hR.1.2.2.1) ?_ | refine jm_getE (Y := YX2_goesAsTold) (pc := 26) dX2_goesAsTold_26 fw_RX2_24 (by first | exact jm_obR ha | exact jm_obR hb | rfl) (by decide) (by first | exact jm_rf4 | rfl) (by exact hR.1.2.2.2.1) ?_ | refine jm_getE (Y := YX2_goesAsTold) (pc := 26) dX2_goesAsTold_26 fw_RX2_24 (by first | exact jm_obR ha | exact jm_obR hb | rfl) (by decide) (by first | exact jm_rf4 | rfl) (by exact hR.1.2.2.2.2) ?_ | refine jm_getE (Y := YX2_goesAsTold) (pc := 26) dX2_goesAsTold_26 fw_RX2_24 (by first | exact jm_obR ha | exact jm_obR hb | rfl) (by decide) (by first | exact jm_rf4 | rfl) (by exact hR.2.1 _ (by omega)) ?_ | refine jm_getE (Y := YX2_goesAsTold) (pc := 26) dX2_goesAsTold_26 fw_RX2_24 (by first | exact jm_obR ha | exact jm_obR hb | rfl) (by decide) (by first | exact jm_rf4 | rfl) (by exact (hR.2.2 _ (by omega)).1) ?_ | refine jm_getE (Y := YX2_goesAsTold) (pc := 26) dX2_goesAsTold_26 fw_RX2_24 (by first | exact jm_obR ha | exact jm_obR hb | rfl) (by decide) (by first | exact jm_rf4 | rfl) (by exact (hR.2.2 _ (by omega)).2) ?_ | refine jm_getI (Y := YX2_goesAsTold) (pc := 26) dX2_goesAsTold_26 fw_RX2_24.F (by first | exact jm_obR ha | exact jm_obR hb | rfl) (by decide) (by first | exact jm_rf4 | rfl) ?_ | fail
      refine jm_iload (Y := YX2_goesAsTold) (pc := 29) dX2_goesAsTold_29 rfl ?_
      refine jm_addN (Y := YX2_goesAsTold) (pc := 31) dX2_goesAsTold_31 ?_
      refine jm_V1ie (Y := YX2_goesAsTold) (pc := 32) dX2_goesAsTold_32 lk_RX2_60 ⟨_, rfl⟩ (by first | exact jm_obR ha | exact jm_obR hb | rfl) rfl (by decide) (Nat.le_of_ble_eq_true rfl) ⟨by decide, by decide⟩ (m_isWet r ha w _ hR hg _ (by omega)) ?_
      refine jm_V4ie (Y := YX2_goesAsTold) (pc := 35) dX2_goesAsTold_35 lk_RX2_63 ⟨_, rfl⟩ (by first | exact jm_obR ha | exact jm_obR hb | rfl) rfl rfl rfl rfl (by decide) (Nat.le_of_ble_eq_true rfl) ⟨by decide, by decide⟩ (m_moved r ha w _ hR hg _ _ _ _ (by omega) (by omega) (by omega) (by omega) (by omega) _) ?_
      rw [m_hy_s Iff.rfl]
      refine jm_ist (Y := YX2_goesAsTold) (pc := 38) (ls' := [_, _, _, _, _, _, _, _]) dX2_goesAsTold_38 (Nat.le_of_ble_eq_true rfl) rfl rfl ?_
      refine jm_ald_n (Y := YX2_goesAsTold) (pc := 40) (i := 3) dX2_goesAsTold_40 rfl rfl ?_
      refine jm_iload (Y := YX2_goesAsTold) (pc := 41) dX2_goesAsTold_41 rfl ?_
      refine jm_iload (Y := YX2_goesAsTold) (pc := 43) dX2_goesAsTold_43 rfl ?_
      refine jm_addN (Y := YX2_goesAsTold) (pc := 45) dX2_goesAsTold_45 ?_
      refine jm_ialN (Y := YX2_goesAsTold) (pc := 46) dX2_goesAsTold_46 (by first | assumption | exact jm_arR1 ha | exact jm_arR2 ha | exact jm_arR3 ha | exact jm_arR1 hb | exact jm_arR2 hb | exact jm_arR3 hb | rfl) (by first | omega | exact jm_lt hb _) ((show _ = M T (f + i) from rfl)) ?_
      refine jm_iload (Y := YX2_goesAsTold) (pc := 47) dX2_goesAsTold_47 rfl ?_
      refine jm_S1ie (Y := YX2_goesAsTold) (pc := 49) dX2_goesAsTold_49 lk_RX2_47 ⟨_, rfl⟩ rfl (by decide) (Nat.le_of_ble_eq_true rfl) ⟨by decide, by decide⟩ (m_isGone _ _ _ (by omega) (by omega)) ?_
      refine jm_if_eqB (Y := YX2_goesAsTold) (pc := 52) dX2_goesAsTold_52 rfl (fun h_52 => ?_) (fun h_52 => ?_)
      · refine jm_iload (Y := YX2_goesAsTold) (pc := 60) dX2_goesAsTold_60 rfl ?_
        refine jm_S1ie (Y := YX2_goesAsTold) (pc := 62) dX2_goesAsTold_62 lk_RX2_51 ⟨_, rfl⟩ rfl (by decide) (Nat.le_of_ble_eq_true rfl) ⟨by decide, by decide⟩ (m_cellIn _ _ _ (by omega) (by omega)) ?_
        refine jm_icmp_eq (Y := YX2_goesAsTold) (pc := 65) dX2_goesAsTold_65 rfl (fun h_65 => ?_) (fun h_65 => ?_)
        · refine jm_incN (Y := YX2_goesAsTold) (pc := 70) (m := 1) (ls' := [_, _, _, _, _, _, _, _]) dX2_goesAsTold_70 rfl rfl rfl rfl ?_
          refine jm_goto (Y := YX2_goesAsTold) (pc := 73) dX2_goesAsTold_73 rfl ?_
          have es : m_sn w kd s (M T) f (i + 1) = (m_sn w kd s (M T) f i && decide (m_tl (m_hy w kd s (i + 1)) = M T (f + i))) := rfl
          have e3 : m_tl (m_hy w kd s (i + 1)) = M T (f + i) := (by first | (unfold m_tl; rw [if_pos h_52]; exact h_65.symm) | (unfold m_tl; rw [if_neg h_52]; exact h_65.symm))
          exact ih (i + 1) (by omega) (by rw [es, hsn, decide_eq_true e3]; rfl) (by omega)
        · refine jm_icN (Y := YX2_goesAsTold) (pc := 68) 0 dX2_goesAsTold_68 rfl ?_
          refine jm_ret (Y := YX2_goesAsTold) (pc := 69) (st := []) dX2_goesAsTold_69 rfl rfl ?_
          first
            | (have e : i = N := (by omega); subst e; exact jm_bt hsn)
            | (have e3 : ¬ m_tl (m_hy w kd s (i + 1)) = M T (f + i) := (by first | (unfold m_tl; rw [if_pos h_52]; exact fun z => h_65 z.symm) | (unfold m_tl; rw [if_neg h_52]; exact fun z => h_65 z.symm)); exact jm_bf (fun z => e3 (of_decide_eq_true (Bool.and_eq_true_iff.mp (m_sn_mono (show i + 1 ≤ N by omega) z)).2)))
            | fail
      · refine jm_bpN (Y := YX2_goesAsTold) (pc := 55) 99 dX2_goesAsTold_55 rfl ?_
        refine jm_goto (Y := YX2_goesAsTold) (pc := 57) dX2_goesAsTold_57 rfl ?_
        refine jm_icmp_eq (Y := YX2_goesAsTold) (pc := 65) dX2_goesAsTold_65 rfl (fun h_65 => ?_) (fun h_65 => ?_)
        · refine jm_incN (Y := YX2_goesAsTold) (pc := 70) (m := 1) (ls' := [_, _, _, _, _, _, _, _]) dX2_goesAsTold_70 rfl rfl rfl rfl ?_
          refine jm_goto (Y := YX2_goesAsTold) (pc := 73) dX2_goesAsTold_73 rfl ?_
          have es : m_sn w kd s (M T) f (i + 1) = (m_sn w kd s (M T) f i && decide (m_tl (m_hy w kd s (i + 1)) = M T (f + i))) := rfl
          have e3 : m_tl (m_hy w kd s (i + 1)) = M T (f + i) := (by first | (unfold m_tl; rw [if_pos h_52]; exact h_65.symm) | (unfold m_tl; rw [if_neg h_52]; exact h_65.symm))
          exact ih (i + 1) (by omega) (by rw [es, hsn, decide_eq_true e3]; rfl) (by omega)
        · refine jm_icN (Y := YX2_goesAsTold) (pc := 68) 0 dX2_goesAsTold_68 rfl ?_
          refine jm_ret (Y := YX2_goesAsTold) (pc := 69) (st := []) dX2_goesAsTold_69 rfl rfl ?_
          first
            | (have e : i = N := (by omega); subst e; exact jm_bt hsn)
            | (have e3 : ¬ m_tl (m_hy w kd s (i + 1)) = M T (f + i) := (by first | (unfold m_tl; rw [if_pos h_52]; exact fun z => h_65 z.symm) | (unfold m_tl; rw [if_neg h_52]; exact fun z => h_65 z.symm)); exact jm_bf (fun z => e3 (of_decide_eq_true (Bool.and_eq_true_iff.mp (m_sn_mono (show i + 1 ≤ N by omega) z)).2)))
            | fail
theorem m_told (r : Nat) (ha : r < 28) (w : Nat → Nat) (M : jm_M) (hR : RV M r w) (hg : rG w) (kd : Nat) (s : Nat × Nat) (h1 : 1 ≤ kd) (h5 : kd ≤ 5) (h60 : s.1 ≤ 60) (hs : s.2 < w 2) (T f N : Nat) (hT : jm_ar T = some (0, 40)) (hf : f + N ≤ 40) (hm : w 4 ≤ 9999) : jm_J none YX2_goesAsTold 0 [some (.ref (32 + 4 * r)), some (.int (nI kd)), some (.int (nI (16 * s.1 + s.2))), some (.ref T), some (.int (nI f)), some (.int (nI N)), none, none] [] M (jm_is (some (.int (jm_b (m_sn w kd s (M T) f N = true)))) M) := by
  have hb := hg.hb
  have g0 := hg.1.1
  have g1 := hg.1.2.1
  have g2 := hg.1.2.2.1
  have g3 := hg.1.2.2.2.1
  have g4 := hg.1.2.2.2.2
  refine jm_ild_n (Y := YX2_goesAsTold) (pc := 0) (i := 2) dX2_goesAsTold_0 rfl rfl ?_
  refine jm_ist (Y := YX2_goesAsTold) (pc := 1) (ls' := [_, _, _, _, _, _, _, _]) dX2_goesAsTold_1 (Nat.le_of_ble_eq_true rfl) rfl rfl ?_
  refine jm_icN (Y := YX2_goesAsTold) (pc := 3) 0 dX2_goesAsTold_3 rfl ?_
  refine jm_ist (Y := YX2_goesAsTold) (pc := 4) (ls' := [_, _, _, _, _, _, _, _]) dX2_goesAsTold_4 (Nat.le_of_ble_eq_true rfl) rfl rfl ?_
  exact m_told0 r ha w M hR hg kd s h1 h5 h60 hs T f N hT hf hm _ (N + 1) 0 (by omega) rfl (by omega)
def m_ch (w : Nat → Nat) (a s n : Nat) : Nat × Nat := m_it w (w (17 + 4 * a)) (m_st w a) (w 4) (fun i => decide (s / 2 ^ i % 2 = 1)) n
theorem m_ch_s {w : Nat → Nat} {a s i : Nat} : m_mv w (w (17 + 4 * a)) ((m_ch w a s i).1, (m_ch w a s i).2) (w 4 + i) (s / 2 ^ i % 2 = 1) = m_ch w a s (i + 1) := m_mv_c (by rw [decide_eq_true_iff])
theorem m_ch_b {w : Nat → Nat} (hg : rG w) {a : Nat} (ha : a < w 3) (s i : Nat) : (m_ch w a s i).2 < w 2 ∧ (m_ch w a s i).1 ≤ 60 := by
  have q := hg.2.2.2.2 a ha
  have r := (hg.2.2.1 a (by have := hg.1.2.2.2.1; omega)).2.1
  have h := m_it_lt (kd := w (17 + 4 * a)) (t := w 4) (f := fun i => decide (s / 2 ^ i % 2 = 1)) (s := m_st w a) q.2.1 i
  exact ⟨h.1, Nat.le_trans h.2 r⟩
theorem m_foretoldIn0 (r : Nat) (ha : r < 28) (w : Nat → Nat) (M : jm_M) (hR : RV M r w) (hg : rG w) (a : Nat) (hk : a < w 3) (n s : Nat) (hn : n ≤ 8) (hs : s < 256) (hm : w 4 ≤ 9999) : ∀ (m : Nat) (i : Nat), i ≤ n → n - i < m → jm_J none YX2_foretoldIn 11 [some (.ref (32 + 4 * r)), some (.int (nI a)), some (.int (nI n)), some (.int (nI s)), some (.int (nI (16 * (m_ch w a s i).1 + (m_ch w a s i).2))), some (.int (nI i))] [] M (jm_is (some (.int (nI (16 * (m_ch w a s n).1 + (m_ch w a s n).2)))) M) := by
  intro m
  induction m with
  | zero => intros; omega
  | succ m ih =>
    intro i hi hmm
    have hb := hg.hb
    have g0 := hg.1.1
    have g1 := hg.1.2.1
    have g2 := hg.1.2.2.1
    have g3 := hg.1.2.2.2.1
    have g4 := hg.1.2.2.2.2
    have q1 := (hg.2.2.2.2 a hk).1
    have q5 := (hg.2.2.1 a (by omega)).1
    have qi := m_ch_b hg hk s i
    refine jm_iload (Y := YX2_foretoldIn) (pc := 11) dX2_foretoldIn_11 rfl ?_
    refine jm_ild_n (Y := YX2_foretoldIn) (pc := 13) (i := 2) dX2_foretoldIn_13 rfl rfl ?_
    refine jm_icmp_geN (Y := YX2_foretoldIn) (pc := 14) dX2_foretoldIn_14 rfl (by first | omega | exact jm_lt hb _) (by first | omega | exact jm_lt hb _) (fun h_14 => ?_) (fun h_14 => ?_)
    · refine jm_iload (Y := YX2_foretoldIn) (pc := 59) dX2_foretoldIn_59 rfl ?_
      refine jm_ret (Y := YX2_foretoldIn) (pc := 61) (st := []) dX2_foretoldIn_61 rfl rfl ?_
      have e : i = n := by omega
      subst e
      exact ⟨rfl, rfl⟩
    · refine jm_ald_n (Y := YX2_foretoldIn) (pc := 17) (i := 0) dX2_foretoldIn_17 rfl rfl ?_
      refine jm_ald_n (Y := YX2_foretoldIn) (pc := 18) (i := 0) dX2_foretoldIn_18 rfl rfl ?_
      refine jm_getR (Y := YX2_foretoldIn) (pc := 19) dX2_foretoldIn_19 fr_RX2_31 (by first | exact jm_obR ha | exact jm_obR hb | rfl) (by decide) (by first | exact jm_rf6 | rfl) ?_
      refine jm_ild_n (Y := YX2_foretoldIn) (pc := 22) (i := 1) dX2_foretoldIn_22 rfl rfl ?_
      refine jm_ialN (Y := YX2_foretoldIn) (pc := 23) dX2_foretoldIn_23 (by first | assumption | exact jm_arR1 ha | exact jm_arR2 ha | exact jm_arR3 ha | exact jm_arR1 hb | exact jm_arR2 hb | exact jm_arR3 hb | rfl) (by first | omega | exact jm_lt hb _) (by first | assumption | exact hR.1.1 | exact hR.1.2.1 | exact hR.1.2.2.1 | exact hR.1.2.2.2.1 | exact hR.1.2.2.2.2 | exact hR.2.1 _ (by omega) | exact (hR.2.2 _ (by omega)).1 | exact (hR.2.2 _ (by omega)).2 | rfl) ?_
      refine jm_iload (Y := YX2_foretoldIn) (pc := 24) dX2_foretoldIn_24 rfl ?_
      refine jm_ald_n (Y := YX2_foretoldIn) (pc := 26) (i := 0) dX2_foretoldIn_26 rfl rfl ?_
      first | refine jm_getE (Y := YX2_foretoldIn) (pc := 27) dX2_foretoldIn_27 fw_RX2_24 (by first | exact jm_obR ha | exact jm_obR hb | rfl) (by decide) (by first | exact jm_rf4 | rfl) (by assumption) ?_ | refine jm_getE (Y := YX2_foretoldIn) (pc := 27) dX2_foretoldIn_27 fw_RX2_24 (by first | exact jm_obR ha | exact jm_obR hb | rfl) (by decide) (by first | exact jm_rf4 | rfl) (by exact hR.1.1) ?_ | refine jm_getE (Y := YX2_foretoldIn) (pc := 27) dX2_foretoldIn_27 fw_RX2_24 (by first | exact jm_obR ha | exact jm_obR hb | rfl) (by decide) (by first | exact jm_rf4 | rfl) (by exact hR.1.2.1) ?_ | refine jm_getE (Y := YX2_foretoldIn) (pc := 27) dX2_foretoldIn_27 fw_RX2_24 (by first | exact jm_obR ha | exact jm_obR hb | rfl) (by decide) (by first | exact jm_rf4 | rfl) (by exact hR.1.2.2.1) ?_ | refine jm_getE (Y := YX2_foretoldIn) (pc := 27) dX2_foretoldIn_27 fw_RX2_24 (by first | exact jm_obR ha | exact jm_obR hb | rfl) (by decide) (by first | exact jm_rf4 | rfl) (by exact hR.1.2.2.2.1) ?_ | refine jm_getE (Y := YX2_foretoldIn) (pc := 27) dX2_foretoldIn_27 fw_RX2_24 (by first | exact jm_obR ha | exact jm_obR hb | rfl) (by decide) (by first | exact jm_rf4 | rfl) (by exact hR.1.2.2.2.2) ?_ | refine jm_getE (Y := YX2_foretoldIn) (pc := 27) dX2_foretoldIn_27 fw_RX2_24 (by first | exact jm_obR ha | exact jm_obR hb | rfl) (by decide) (by first | exact jm_rf4 | rfl) (by exact hR.2.1 _ (by omega)) ?_ | refine jm_getE (Y := YX2_foretoldIn) (pc := 27) dX2_foretoldIn_27 fw_RX2_24 (by first | exact jm_obR ha | exact jm_obR hb | rfl) (by decide) (by first | exact jm_rf4 | rfl) (by exact (hR.2.2 _ (by omega)).1) ?_ | refine jm_getE (Y := YX2_foretoldIn) (pc := 27) dX2_foretoldIn_27 fw_RX2_24 (by first | exact jm_obR ha | exact jm_obR hb | rfl) (by decide) (by first | exact jm_rf4 | rfl) (by exact (hR.2.2 _ (by omega)).2) ?_ | refine jm_getI (Y := YX2_foretoldIn) (pc := 27) dX2_foretoldIn_27 fw_RX2_24.F (by first | exact jm_obR ha | exact jm_obR hb | rfl) (by decide) (by first | exact jm_rf4 | rfl) ?_ | fail
      refine jm_iload (Y := YX2_foretoldIn) (pc := 30) dX2_foretoldIn_30 rfl ?_
      refine jm_addN (Y := YX2_foretoldIn) (pc := 32) dX2_foretoldIn_32 ?_
      refine jm_ild_n (Y := YX2_foretoldIn) (pc := 33) (i := 3) dX2_foretoldIn_33 rfl rfl ?_
      refine jm_iload (Y := YX2_foretoldIn) (pc := 34) dX2_foretoldIn_34 rfl ?_
      refine jm_shrN (Y := YX2_foretoldIn) (pc := 36) dX2_foretoldIn_36 (by omega) (by omega) ?_
      refine jm_icN (Y := YX2_foretoldIn) (pc := 37) 1 dX2_foretoldIn_37 rfl ?_
      refine jm_and1 (Y := YX2_foretoldIn) (pc := 38) dX2_foretoldIn_38 (Nat.lt_of_le_of_lt (Nat.div_le_self _ _) (by omega)) ?_
      refine jm_icN (Y := YX2_foretoldIn) (pc := 39) 1 dX2_foretoldIn_39 rfl ?_
      refine jm_icmp_neN (Y := YX2_foretoldIn) (pc := 40) dX2_foretoldIn_40 rfl (by first | omega | exact jm_lt hb _) (by first | omega | exact jm_lt hb _) (fun h_40 => ?_) (fun h_40 => ?_)
      · refine jm_icN (Y := YX2_foretoldIn) (pc := 47) 0 dX2_foretoldIn_47 rfl ?_
        refine jm_V4ie (Y := YX2_foretoldIn) (pc := 48) dX2_foretoldIn_48 lk_RX2_63 ⟨_, rfl⟩ (by first | exact jm_obR ha | exact jm_obR hb | rfl) rfl rfl rfl rfl (by decide) (Nat.le_of_ble_eq_true rfl) ⟨by decide, by decide⟩ ((by have h9 := m_moved r ha w M hR hg (w (17 + 4 * a)) (m_ch w a s i).1 (m_ch w a s i).2 (w 4 + i) (by omega) (by omega) (by omega) (by omega) (by omega) (s / 2 ^ i % 2 = 1); first | (rw [jm_b_f h_40] at h9; exact h9) | (rw [jm_b_t h_40] at h9; exact h9))) ?_
        refine jm_ist (Y := YX2_foretoldIn) (pc := 51) (ls' := [_, _, _, _, _, _]) dX2_foretoldIn_51 (Nat.le_of_ble_eq_true rfl) rfl rfl ?_
        refine jm_incN (Y := YX2_foretoldIn) (pc := 53) (m := 1) (ls' := [_, _, _, _, _, _]) dX2_foretoldIn_53 rfl rfl rfl rfl ?_
        refine jm_goto (Y := YX2_foretoldIn) (pc := 56) dX2_foretoldIn_56 rfl ?_
        rw [m_ch_s]
        exact ih (i + 1) (by omega) (by omega)
      · refine jm_icN (Y := YX2_foretoldIn) (pc := 43) 1 dX2_foretoldIn_43 rfl ?_
        refine jm_goto (Y := YX2_foretoldIn) (pc := 44) dX2_foretoldIn_44 rfl ?_
        refine jm_V4ie (Y := YX2_foretoldIn) (pc := 48) dX2_foretoldIn_48 lk_RX2_63 ⟨_, rfl⟩ (by first | exact jm_obR ha | exact jm_obR hb | rfl) rfl rfl rfl rfl (by decide) (Nat.le_of_ble_eq_true rfl) ⟨by decide, by decide⟩ ((by have h9 := m_moved r ha w M hR hg (w (17 + 4 * a)) (m_ch w a s i).1 (m_ch w a s i).2 (w 4 + i) (by omega) (by omega) (by omega) (by omega) (by omega) (s / 2 ^ i % 2 = 1); first | (rw [jm_b_f h_40] at h9; exact h9) | (rw [jm_b_t h_40] at h9; exact h9))) ?_
        refine jm_ist (Y := YX2_foretoldIn) (pc := 51) (ls' := [_, _, _, _, _, _]) dX2_foretoldIn_51 (Nat.le_of_ble_eq_true rfl) rfl rfl ?_
        refine jm_incN (Y := YX2_foretoldIn) (pc := 53) (m := 1) (ls' := [_, _, _, _, _, _]) dX2_foretoldIn_53 rfl rfl rfl rfl ?_
        refine jm_goto (Y := YX2_foretoldIn) (pc := 56) dX2_foretoldIn_56 rfl ?_
        rw [m_ch_s]
        exact ih (i + 1) (by omega) (by omega)
theorem m_foretoldIn (r : Nat) (ha : r < 28) (w : Nat → Nat) (M : jm_M) (hR : RV M r w) (hg : rG w) (a : Nat) (hk : a < w 3) (n s : Nat) (hn : n ≤ 8) (hs : s < 256) (hm : w 4 ≤ 9999) : jm_J none YX2_foretoldIn 0 [some (.ref (32 + 4 * r)), some (.int (nI a)), some (.int (nI n)), some (.int (nI s)), none, none] [] M (jm_is (some (.int (nI (16 * (m_ch w a s n).1 + (m_ch w a s n).2)))) M) := by
  have hb := hg.hb
  have g0 := hg.1.1
  have g1 := hg.1.2.1
  have g2 := hg.1.2.2.1
  have g3 := hg.1.2.2.2.1
  have g4 := hg.1.2.2.2.2
  refine jm_ald_n (Y := YX2_foretoldIn) (pc := 0) (i := 0) dX2_foretoldIn_0 rfl rfl ?_
  refine jm_getR (Y := YX2_foretoldIn) (pc := 1) dX2_foretoldIn_1 fr_RX2_34 (by first | exact jm_obR ha | exact jm_obR hb | rfl) (by decide) (by first | exact jm_rf7 | rfl) ?_
  refine jm_ild_n (Y := YX2_foretoldIn) (pc := 4) (i := 1) dX2_foretoldIn_4 rfl rfl ?_
  refine jm_ialN (Y := YX2_foretoldIn) (pc := 5) dX2_foretoldIn_5 (by first | assumption | exact jm_arR1 ha | exact jm_arR2 ha | exact jm_arR3 ha | exact jm_arR1 hb | exact jm_arR2 hb | exact jm_arR3 hb | rfl) (by first | omega | exact jm_lt hb _) (by first | assumption | exact hR.1.1 | exact hR.1.2.1 | exact hR.1.2.2.1 | exact hR.1.2.2.2.1 | exact hR.1.2.2.2.2 | exact hR.2.1 _ (by omega) | exact (hR.2.2 _ (by omega)).1 | exact (hR.2.2 _ (by omega)).2 | rfl) ?_
  refine jm_ist (Y := YX2_foretoldIn) (pc := 6) (ls' := [_, _, _, _, _, _]) dX2_foretoldIn_6 (Nat.le_of_ble_eq_true rfl) rfl rfl ?_
  refine jm_icN (Y := YX2_foretoldIn) (pc := 8) 0 dX2_foretoldIn_8 rfl ?_
  refine jm_ist (Y := YX2_foretoldIn) (pc := 9) (ls' := [_, _, _, _, _, _]) dX2_foretoldIn_9 (Nat.le_of_ble_eq_true rfl) rfl rfl ?_
  exact m_foretoldIn0 r ha w M hR hg a hk n s hn hs hm (n + 1) 0 (by omega) (by omega)
theorem m_hasClimber0 (r : Nat) (ha : r < 28) (w : Nat → Nat) (M : jm_M) (hR : RV M r w) (hg : rG w) : ∀ (m : Nat) (a : Nat), a ≤ w 3 → (∀ b, b < a → w (17 + 4 * b + 1) = 0 ∨ w (17 + 4 * b) < 4) → w 3 - a < m → jm_J none YX2_hasClimber 2 [some (.ref (32 + 4 * r)), some (.int (nI a))] [] M ((fun o M1 => M1 = M ∧ ((o = some (.int (nI 1)) ∧ ∃ b, b < w 3 ∧ ¬ w (17 + 4 * b + 1) = 0 ∧ 4 ≤ w (17 + 4 * b)) ∨ (o = some (.int (nI 0)) ∧ ∀ b, b < w 3 → w (17 + 4 * b + 1) = 0 ∨ w (17 + 4 * b) < 4)))) := by
  intro m
  induction m with
  | zero => intros; omega
  | succ m ih =>
    intro a hi hall hmm
    have hb := hg.hb
    have g0 := hg.1.1
    have g1 := hg.1.2.1
    have g2 := hg.1.2.2.1
    have g3 := hg.1.2.2.2.1
    have g4 := hg.1.2.2.2.2
    refine jm_ild_n (Y := YX2_hasClimber) (pc := 2) (i := 1) dX2_hasClimber_2 rfl rfl ?_
    refine jm_ald_n (Y := YX2_hasClimber) (pc := 3) (i := 0) dX2_hasClimber_3 rfl rfl ?_
    first | refine jm_getE (Y := YX2_hasClimber) (pc := 4) dX2_hasClimber_4 fw_RX2_15 (by first | exact jm_obR ha | exact jm_obR hb | rfl) (by decide) (by first | exact jm_rf1 | rfl) (by assumption) ?_ | refine jm_getE (Y := YX2_hasClimber) (pc := 4) dX2_hasClimber_4 fw_RX2_15 (by first | exact jm_obR ha | exact jm_obR hb | rfl) (by decide) (by first | exact jm_rf1 | rfl) (by exact hR.1.1) ?_ | refine jm_getE (Y := YX2_hasClimber) (pc := 4) dX2_hasClimber_4 fw_RX2_15 (by first | exact jm_obR ha | exact jm_obR hb | rfl) (by decide) (by first | exact jm_rf1 | rfl) (by exact hR.1.2.1) ?_ | refine jm_getE (Y := YX2_hasClimber) (pc := 4) dX2_hasClimber_4 fw_RX2_15 (by first | exact jm_obR ha | exact jm_obR hb | rfl) (by decide) (by first | exact jm_rf1 | rfl) (by exact hR.1.2.2.1) ?_ | refine jm_getE (Y := YX2_hasClimber) (pc := 4) dX2_hasClimber_4 fw_RX2_15 (by first | exact jm_obR ha | exact jm_obR hb | rfl) (by decide) (by first | exact jm_rf1 | rfl) (by exact hR.1.2.2.2.1) ?_ | refine jm_getE (Y := YX2_hasClimber) (pc := 4) dX2_hasClimber_4 fw_RX2_15 (by first | exact jm_obR ha | exact jm_obR hb | rfl) (by decide) (by first | exact jm_rf1 | rfl) (by exact hR.1.2.2.2.2) ?_ | refine jm_getE (Y := YX2_hasClimber) (pc := 4) dX2_hasClimber_4 fw_RX2_15 (by first | exact jm_obR ha | exact jm_obR hb | rfl) (by decide) (by first | exact jm_rf1 | rfl) (by exact hR.2.1 _ (by omega)) ?_ | refine jm_getE (Y := YX2_hasClimber) (pc := 4) dX2_hasClimber_4 fw_RX2_15 (by first | exact jm_obR ha | exact jm_obR hb | rfl) (by decide) (by first | exact jm_rf1 | rfl) (by exact (hR.2.2 _ (by omega)).1) ?_ | refine jm_getE (Y := YX2_hasClimber) (pc := 4) dX2_hasClimber_4 fw_RX2_15 (by first | exact jm_obR ha | exact jm_obR hb | rfl) (by decide) (by first | exact jm_rf1 | rfl) (by exact (hR.2.2 _ (by omega)).2) ?_ | refine jm_getI (Y := YX2_hasClimber) (pc := 4) dX2_hasClimber_4 fw_RX2_15.F (by first | exact jm_obR ha | exact jm_obR hb | rfl) (by decide) (by first | exact jm_rf1 | rfl) ?_ | fail
    refine jm_icmp_geN (Y := YX2_hasClimber) (pc := 7) dX2_hasClimber_7 rfl (by first | omega | exact jm_lt hb _) (by first | omega | exact jm_lt hb _) (fun h_7 => ?_) (fun h_7 => ?_)
    · refine jm_icN (Y := YX2_hasClimber) (pc := 43) 0 dX2_hasClimber_43 rfl ?_
      refine jm_ret (Y := YX2_hasClimber) (pc := 44) (st := []) dX2_hasClimber_44 rfl rfl ?_
      first | exact ⟨rfl, Or.inl ⟨rfl, a, h_7, h_19, e4.mp h_32⟩⟩ | exact ⟨rfl, Or.inr ⟨rfl, fun b hb2 => hall b (by omega)⟩⟩ | fail
    · have q0 := hg.2.2.1 a (by omega)
      have q1 := (hg.2.2.2.2 a h_7).1
      have e4 : (4 = 0 ∨ 4 = w (17 + 4 * a) ∨ 4 = m_ab (w (17 + 4 * a))) ↔ 4 ≤ w (17 + 4 * a) := (by unfold m_ab; (repeat' split) <;> omega)
      refine jm_ald_n (Y := YX2_hasClimber) (pc := 10) (i := 0) dX2_hasClimber_10 rfl rfl ?_
      refine jm_getR (Y := YX2_hasClimber) (pc := 11) dX2_hasClimber_11 fr_RX2_34 (by first | exact jm_obR ha | exact jm_obR hb | rfl) (by decide) (by first | exact jm_rf7 | rfl) ?_
      refine jm_ild_n (Y := YX2_hasClimber) (pc := 14) (i := 1) dX2_hasClimber_14 rfl rfl ?_
      refine jm_ialN (Y := YX2_hasClimber) (pc := 15) dX2_hasClimber_15 (by first | assumption | exact jm_arR1 ha | exact jm_arR2 ha | exact jm_arR3 ha | exact jm_arR1 hb | exact jm_arR2 hb | exact jm_arR3 hb | rfl) (by first | omega | exact jm_lt hb _) (by first | assumption | exact hR.1.1 | exact hR.1.2.1 | exact hR.1.2.2.1 | exact hR.1.2.2.2.1 | exact hR.1.2.2.2.2 | exact hR.2.1 _ (by omega) | exact (hR.2.2 _ (by omega)).1 | exact (hR.2.2 _ (by omega)).2 | rfl) ?_
      refine jm_S1ie (Y := YX2_hasClimber) (pc := 16) dX2_hasClimber_16 lk_RX2_47 ⟨_, rfl⟩ rfl (by decide) (Nat.le_of_ble_eq_true rfl) ⟨by decide, by decide⟩ (m_isGone _ _ _ (by omega) (by omega)) ?_
      refine jm_if_neB (Y := YX2_hasClimber) (pc := 19) dX2_hasClimber_19 rfl (fun h_19 => ?_) (fun h_19 => ?_)
      · refine jm_incN (Y := YX2_hasClimber) (pc := 37) (m := 1) (ls' := [_, _]) dX2_hasClimber_37 rfl rfl rfl rfl ?_
        refine jm_goto (Y := YX2_hasClimber) (pc := 40) dX2_hasClimber_40 rfl ?_
        exact ih (a + 1) (by omega) (fun b hb2 => by by_cases z : b = a; (subst z; first | exact Or.inl h_19 | exact Or.inr (Nat.lt_of_not_le (fun q => h_32 (e4.mpr q)))); (exact hall b (by omega))) (by omega)
      · refine jm_ald_n (Y := YX2_hasClimber) (pc := 22) (i := 0) dX2_hasClimber_22 rfl rfl ?_
        refine jm_getR (Y := YX2_hasClimber) (pc := 23) dX2_hasClimber_23 fr_RX2_31 (by first | exact jm_obR ha | exact jm_obR hb | rfl) (by decide) (by first | exact jm_rf6 | rfl) ?_
        refine jm_ild_n (Y := YX2_hasClimber) (pc := 26) (i := 1) dX2_hasClimber_26 rfl rfl ?_
        refine jm_ialN (Y := YX2_hasClimber) (pc := 27) dX2_hasClimber_27 (by first | assumption | exact jm_arR1 ha | exact jm_arR2 ha | exact jm_arR3 ha | exact jm_arR1 hb | exact jm_arR2 hb | exact jm_arR3 hb | rfl) (by first | omega | exact jm_lt hb _) (by first | assumption | exact hR.1.1 | exact hR.1.2.1 | exact hR.1.2.2.1 | exact hR.1.2.2.2.1 | exact hR.1.2.2.2.2 | exact hR.2.1 _ (by omega) | exact (hR.2.2 _ (by omega)).1 | exact (hR.2.2 _ (by omega)).2 | rfl) ?_
        refine jm_icN (Y := YX2_hasClimber) (pc := 28) 4 dX2_hasClimber_28 rfl ?_
        refine jm_S2ie (Y := YX2_hasClimber) (pc := 29) dX2_hasClimber_29 lk_RX2_56 ⟨_, rfl⟩ rfl rfl (by decide) (Nat.le_of_ble_eq_true rfl) ⟨by decide, by decide⟩ (m_isOne _ _ _ (by omega) (by omega) (by omega)) ?_
        refine jm_if_eqB (Y := YX2_hasClimber) (pc := 32) dX2_hasClimber_32 rfl (fun h_32 => ?_) (fun h_32 => ?_)
        · refine jm_incN (Y := YX2_hasClimber) (pc := 37) (m := 1) (ls' := [_, _]) dX2_hasClimber_37 rfl rfl rfl rfl ?_
          refine jm_goto (Y := YX2_hasClimber) (pc := 40) dX2_hasClimber_40 rfl ?_
          exact ih (a + 1) (by omega) (fun b hb2 => by by_cases z : b = a; (subst z; first | exact Or.inl h_19 | exact Or.inr (Nat.lt_of_not_le (fun q => h_32 (e4.mpr q)))); (exact hall b (by omega))) (by omega)
        · refine jm_icN (Y := YX2_hasClimber) (pc := 35) 1 dX2_hasClimber_35 rfl ?_
          refine jm_ret (Y := YX2_hasClimber) (pc := 36) (st := []) dX2_hasClimber_36 rfl rfl ?_
          first | exact ⟨rfl, Or.inl ⟨rfl, a, h_7, h_19, e4.mp h_32⟩⟩ | exact ⟨rfl, Or.inr ⟨rfl, fun b hb2 => hall b (by omega)⟩⟩ | fail
