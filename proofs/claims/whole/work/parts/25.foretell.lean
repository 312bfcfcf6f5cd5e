/-! the class: what its rivers foretell -/
def m_wd (w : Nat → Nat) (a n : Nat) : Nat × Nat := m_it w (w (17 + 4 * a)) (m_st w a) (w 4) (m_sk w (w 4)) n
theorem m_wd_1 {w : Nat → Nat} (hg : rG w) {a : Nat} (ha : a < w 3) {n : Nat} (hn : w 4 + n ≤ 19000) : (m_wd w a n).1 = p_on w n (17 + 4 * a + 1) := (congrArg Prod.fst (m_on hg ha n hn).2).symm
theorem m_wd_2 {w : Nat → Nat} (hg : rG w) {a : Nat} (ha : a < w 3) {n : Nat} (hn : w 4 + n ≤ 19000) : (m_wd w a n).2 = p_on w n (17 + 4 * a + 2) := (congrArg Prod.snd (m_on hg ha n hn).2).symm
theorem m_wd_g {w : Nat → Nat} (hg : rG w) {a : Nat} (ha : a < w 3) {n : Nat} (hn : w 4 + n ≤ 19000) : (m_wd w a n).1 = 0 ↔ p_on w n (17 + 4 * a + 3) = 1 := by
  have hG := p_on_rG hg n hn
  have e3 : p_on w n 3 = w 3 := p_on_hd w (by omega) (by omega) n
  rw [m_wd_1 hg ha hn, m_gone hG (by omega)]
  rfl
theorem m_wd_s {w : Nat → Nat} {a i : Nat} {p : Prop} [Decidable p] (h : p ↔ w 0 / 2 ^ ((w 4 + i) % 4) % 2 = 1) : m_mv w (w (17 + 4 * a)) ((m_wd w a i).1, (m_wd w a i).2) (w 4 + i) p = m_wd w a (i + 1) := m_mv_c (by unfold m_sk; rw [decide_eq_true_iff]; exact h)
theorem m_wd_b {w : Nat → Nat} (hg : rG w) {a : Nat} (ha : a < w 3) (i : Nat) : (m_wd w a i).2 < w 2 ∧ (m_wd w a i).1 ≤ 60 := by
  have q := hg.2.2.2.2 a ha
  have r := (hg.2.2.1 a (by have := hg.1.2.2.2.1; omega)).2.1
  have h := m_it_lt (kd := w (17 + 4 * a)) (t := w 4) (f := m_sk w (w 4)) (s := m_st w a) q.2.1 i
  exact ⟨h.1, Nat.le_trans h.2 r⟩
theorem m_wd_z {w : Nat → Nat} {a i n : Nat} (h : (m_wd w a i).1 = 0) (hn : i ≤ n) : m_wd w a n = m_wd w a i := by
  have e := m_it_0s h (n - i)
  rw [show i + (n - i) = n by omega] at e
  exact e
theorem m_foretold0 (r : Nat) (ha : r < 28) (w : Nat → Nat) (M : jm_M) (hR : RV M r w) (hg : rG w) (a : Nat) (hk : a < w 3) (n : Nat) (hn : w 4 + n ≤ 19000) : ∀ (m : Nat) (i : Nat), i ≤ n → n - i < m → jm_J none YX2_foretold 10 [some (.ref (32 + 4 * r)), some (.int (nI a)), some (.int (nI n)), some (.int (nI (16 * (m_wd w a i).1 + (m_wd w a i).2))), some (.int (nI i))] [] M (jm_is (some (.int (nI (16 * (m_wd w a n).1 + (m_wd w a n).2)))) M) := by
  intro m
  induction m with
  | zero => intros; omega
  | succ m ih =>
    intro i hi hmm
    have hb := hg.hb
    have g0 := hg.1.1
    have g1 := hg.1.2.1
    have g2 := hg.1.2.2.1
    have g3 := hg.1.2.2.2.1
    have g4 := hg.1.2.2.2.2
    have q1 := (hg.2.2.2.2 a hk).1
    have q5 := (hg.2.2.1 a (by omega)).1
    have qi := m_wd_b hg hk i
    refine jm_iload (Y := YX2_foretold) (pc := 10) dX2_foretold_10 rfl ?_
    refine jm_ild_n (Y := YX2_foretold) (pc := 12) (i := 2) dX2_foretold_12 rfl rfl ?_
    refine jm_icmp_geN (Y := YX2_foretold) (pc := 13) dX2_foretold_13 rfl (by first | omega | exact jm_lt hb _) (by first | omega | exact jm_lt hb _) (fun h_13 => ?_) (fun h_13 => ?_)
    · refine jm_ild_n (Y := YX2_foretold) (pc := 59) (i := 3) dX2_foretold_59 rfl rfl ?_
      refine jm_ret (Y := YX2_foretold) (pc := 60) (st := []) dX2_foretold_60 rfl rfl ?_
      first | (have e : i = n := (by omega); subst e; exact ⟨rfl, rfl⟩) | (rw [m_wd_z h_20 hi]; exact ⟨rfl, rfl⟩) | fail
    · refine jm_ild_n (Y := YX2_foretold) (pc := 16) (i := 3) dX2_foretold_16 rfl rfl ?_
      refine jm_S1ie (Y := YX2_foretold) (pc := 17) dX2_foretold_17 lk_RX2_47 ⟨_, rfl⟩ rfl (by decide) (Nat.le_of_ble_eq_true rfl) ⟨by decide, by decide⟩ (m_isGone _ _ _ (by omega) (by omega)) ?_
      refine jm_if_neB (Y := YX2_foretold) (pc := 20) dX2_foretold_20 rfl (fun h_20 => ?_) (fun h_20 => ?_)
      · refine jm_ild_n (Y := YX2_foretold) (pc := 59) (i := 3) dX2_foretold_59 rfl rfl ?_
        refine jm_ret (Y := YX2_foretold) (pc := 60) (st := []) dX2_foretold_60 rfl rfl ?_
        first | (have e : i = n := (by omega); subst e; exact ⟨rfl, rfl⟩) | (rw [m_wd_z h_20 hi]; exact ⟨rfl, rfl⟩) | fail
      · refine jm_ald_n (Y := YX2_foretold) (pc := 23) (i := 0) dX2_foretold_23 rfl rfl ?_
        refine jm_ald_n (Y := YX2_foretold) (pc := 24) (i := 0) dX2_foretold_24 rfl rfl ?_
        refine jm_getR (Y := YX2_foretold) (pc := 25) dX2_foretold_25 fr_RX2_31 (by first | exact jm_obR ha | exact jm_obR hb | rfl) (by decide) (by first | exact jm_rf6 | rfl) ?_
        refine jm_ild_n (Y := YX2_foretold) (pc := 28) (i := 1) dX2_foretold_28 rfl rfl ?_
        refine jm_ialN (Y := YX2_foretold) (pc := 29) dX2_foretold_29 (by first | assumption | exact jm_arR1 ha | exact jm_arR2 ha | exact jm_arR3 ha | exact jm_arR1 hb | exact jm_arR2 hb | exact jm_arR3 hb | rfl) (by first | omega | exact jm_lt hb _) (by first | assumption | exact hR.1.1 | exact hR.1.2.1 | exact hR.1.2.2.1 | exact hR.1.2.2.2.1 | exact hR.1.2.2.2.2 | exact hR.2.1 _ (by omega) | exact (hR.2.2 _ (by omega)).1 | exact (hR.2.2 _ (by omega)).2 | rfl) ?_
        refine jm_ild_n (Y := YX2_foretold) (pc := 30) (i := 3) dX2_foretold_30 rfl rfl ?_
        refine jm_ald_n (Y := YX2_foretold) (pc := 31) (i := 0) dX2_foretold_31 rfl rfl ?_
        first | refine jm_getE (Y := YX2_foretold) (pc := 32) dX2_foretold_32 fw_RX2_24 (by first | exact jm_obR ha | exact jm_obR hb | rfl) (by decide) (by first | exact jm_rf4 | rfl) (by assumption) ?_ | refine jm_getE (Y := YX2_foretold) (pc := 32) dX2_foretold_32 fw_RX2_24 (by first | exact jm_obR ha | exact jm_obR hb | rfl) (by decide) (by first | exact jm_rf4 | rfl) (by exact hR.1.1) ?_ | refine jm_getE (Y := YX2_foretold) (pc := 32) dX2_foretold_32 fw_RX2_24 (by first | exact jm_obR ha | exact jm_obR hb | rfl) (by decide) (by first | exact jm_rf4 | rfl) (by exact hR.1.2.1) ?_ | refine jm_getE (Y := YX2_foretold) (pc := 32) dX2_foretold_32 fw_RX2_24 (by first | exact jm_obR ha | exact jm_obR hb | rfl) (by decide) (by first | exact jm_rf4 | rfl) (by exact hR.1.2.2.1) ?_ | refine jm_getE (Y := YX2_foretold) (pc := 32) dX2_foretold_32 fw_RX2_24 (by first | exact jm_obR ha | exact jm_obR hb | rfl) (by decide) (by first | exact jm_rf4 | rfl) (by exact hR.1.2.2.2.1) ?_ | refine jm_getE (Y := YX2_foretold) (pc := 32) dX2_foretold_32 fw_RX2_24 (by first | exact jm_obR ha | exact jm_obR hb | rfl) (by decide) (by first | exact jm_rf4 | rfl) (by exact hR.1.2.2.2.2) ?_ | refine jm_getE (Y := YX2_foretold) (pc := 32) dX2_foretold_32 fw_RX2_24 (by first | exact jm_obR ha | exact jm_obR hb | rfl) (by decide) (by first | exact jm_rf4 | rfl) (by exact hR.2.1 _ (by omega)) ?_ | refine jm_getE (Y := YX2_foretold) (pc := 32) dX2_foretold_32 fw_RX2_24 (by first | exact jm_obR ha | exact jm_obR hb | rfl) (by decide) (by first | exact jm_rf4 | rfl) (by exact (hR.2.2 _ (by omega)).1) ?_ | refine jm_getE (Y := YX2_foretold) (pc := 32) dX2_foretold_32 fw_RX2_24 (by first | exact jm_obR ha | exact jm_obR hb | rfl) (by decide) (by first | exact jm_rf4 | rfl) (by exact (hR.2.2 _ (by omega)).2) ?_ | refine jm_getI (Y := YX2_foretold) (pc := 32) dX2_foretold_32 fw_RX2_24.F (by first | exact jm_obR ha | exact jm_obR hb | rfl) (by decide) (by first | exact jm_rf4 | rfl) ?_ | fail
        refine jm_iload (Y := YX2_foretold) (pc := 35) dX2_foretold_35 rfl ?_
        refine jm_addN (Y := YX2_foretold) (pc := 37) dX2_foretold_37 ?_
        refine jm_ald_n (Y := YX2_foretold) (pc := 38) (i := 0) dX2_foretold_38 rfl rfl ?_
        refine jm_ald_n (Y := YX2_foretold) (pc := 39) (i := 0) dX2_foretold_39 rfl rfl ?_
        first | refine jm_getE (Y := YX2_foretold) (pc := 40) dX2_foretold_40 fw_RX2_24 (by first | exact jm_obR ha | exact jm_obR hb | rfl) (by decide) (by first | exact jm_rf4 | rfl) (by assumption) ?_ | refine jm_getE (Y := YX2_foretold) (pc := 40) dX2_foretold_40 fw_RX2_24 (by first | exact jm_obR ha | exact jm_obR hb | rfl) (by decide) (by first | exact jm_rf4 | rfl) (by exact hR.1.1) ?_ | refine jm_getE (Y := YX2_foretold) (pc := 40) dX2_foretold_40 fw_RX2_24 (by first | exact jm_obR ha | exact jm_obR hb | rfl) (by decide) (by first | exact jm_rf4 | rfl) (by exact hR.1.2.1) ?_ | refine jm_getE (Y := YX2_foretold) (pc := 40) dX2_foretold_40 fw_RX2_24 (by first | exact jm_obR ha | exact jm_obR hb | rfl) (by decide) (by first | exact jm_rf4 | rfl) (by exact hR.1.2.2.1) ?_ | refine jm_getE (Y := YX2_foretold) (pc := 40) dX2_foretold_40 fw_RX2_24 (by first | exact jm_obR ha | exact jm_obR hb | rfl) (by decide) (by first | exact jm_rf4 | rfl) (by exact hR.1.2.2.2.1) ?_ | refine jm_getE (Y := YX2_foretold) (pc := 40) dX2_foretold_40 fw_RX2_24 (by first | exact jm_obR ha | exact jm_obR hb | rfl) (by decide) (by first | exact jm_rf4 | rfl) (by exact hR.1.2.2.2.2) ?_ | refine jm_getE (Y := YX2_foretold) (pc := 40) dX2_foretold_40 fw_RX2_24 (by first | exact jm_obR ha | exact jm_obR hb | rfl) (by decide) (by first | exact jm_rf4 | rfl) (by exact hR.2.1 _ (by omega)) ?_ | refine jm_getE (Y := YX2_foretold) (pc := 40) dX2_foretold_40 fw_RX2_24 (by first | exact jm_obR ha | exact jm_obR hb | rfl) (by decide) (by first | exact jm_rf4 | rfl) (by exact (hR.2.2 _ (by omega)).1) ?_ | refine jm_getE (Y := YX2_foretold) (pc := 40) dX2_foretold_40 fw_RX2_24 (by first | exact jm_obR ha | exact jm_obR hb | rfl) (by decide) (by first | exact jm_rf4 | rfl) (by exact (hR.2.2 _ (by omega)).2) ?_ | refine jm_getI (Y := YX2_foretold) (pc := 40) dX2_foretold_40 fw_RX2_24.F (by first | exact jm_obR ha | exact jm_obR hb | rfl) (by decide) (by first | exact jm_rf4 | rfl) ?_ | fail
        refine jm_iload (Y := YX2_foretold) (pc := 43) dX2_foretold_43 rfl ?_
        refine jm_addN (Y := YX2_foretold) (pc := 45) dX2_foretold_45 ?_
        refine jm_V1ie (Y := YX2_foretold) (pc := 46) dX2_foretold_46 lk_RX2_60 ⟨_, rfl⟩ (by first | exact jm_obR ha | exact jm_obR hb | rfl) rfl (by decide) (Nat.le_of_ble_eq_true rfl) ⟨by decide, by decide⟩ (m_isWet r ha w _ hR hg _ (by omega)) ?_
        refine jm_V4ie (Y := YX2_foretold) (pc := 49) dX2_foretold_49 lk_RX2_63 ⟨_, rfl⟩ (by first | exact jm_obR ha | exact jm_obR hb | rfl) rfl rfl rfl rfl (by decide) (Nat.le_of_ble_eq_true rfl) ⟨by decide, by decide⟩ (m_moved r ha w _ hR hg _ _ _ _ (by omega) (by omega) (by omega) (by omega) (by omega) _) ?_
        refine jm_ist_n (Y := YX2_foretold) (pc := 52) (i := 3) (ls' := [_, _, _, _, _]) dX2_foretold_52 rfl (Nat.le_of_ble_eq_true rfl) rfl rfl ?_
        refine jm_incN (Y := YX2_foretold) (pc := 53) (m := 1) (ls' := [_, _, _, _, _]) dX2_foretold_53 rfl rfl rfl rfl ?_
        refine jm_goto (Y := YX2_foretold) (pc := 56) dX2_foretold_56 rfl ?_
        rw [m_wd_s Iff.rfl]
        exact ih (i + 1) (by omega) (by omega)
theorem m_foretold (r : Nat) (ha : r < 28) (w : Nat → Nat) (M : jm_M) (hR : RV M r w) (hg : rG w) (a : Nat) (hk : a < w 3) (n : Nat) (hn : w 4 + n ≤ 19000) : jm_J none YX2_foretold 0 [some (.ref (32 + 4 * r)), some (.int (nI a)), some (.int (nI n)), none, none] [] M (jm_is (some (.int (nI (16 * (m_wd w a n).1 + (m_wd w a n).2)))) M) := by
  have hb := hg.hb
  have g0 := hg.1.1
  have g1 := hg.1.2.1
  have g2 := hg.1.2.2.1
  have g3 := hg.1.2.2.2.1
  have g4 := hg.1.2.2.2.2
  refine jm_ald_n (Y := YX2_foretold) (pc := 0) (i := 0) dX2_foretold_0 rfl rfl ?_
  refine jm_getR (Y := YX2_foretold) (pc := 1) dX2_foretold_1 fr_RX2_34 (by first | exact jm_obR ha | exact jm_obR hb | rfl) (by decide) (by first | exact jm_rf7 | rfl) ?_
  refine jm_ild_n (Y := YX2_foretold) (pc := 4) (i := 1) dX2_foretold_4 rfl rfl ?_
  refine jm_ialN (Y := YX2_foretold) (pc := 5) dX2_foretold_5 (by first | assumption | exact jm_arR1 ha | exact jm_arR2 ha | exact jm_arR3 ha | exact jm_arR1 hb | exact jm_arR2 hb | exact jm_arR3 hb | rfl) (by first | omega | exact jm_lt hb _) (by first | assumption | exact hR.1.1 | exact hR.1.2.1 | exact hR.1.2.2.1 | exact hR.1.2.2.2.1 | exact hR.1.2.2.2.2 | exact hR.2.1 _ (by omega) | exact (hR.2.2 _ (by omega)).1 | exact (hR.2.2 _ (by omega)).2 | rfl) ?_
  refine jm_ist_n (Y := YX2_foretold) (pc := 6) (i := 3) (ls' := [_, _, _, _, _]) dX2_foretold_6 rfl (Nat.le_of_ble_eq_true rfl) rfl rfl ?_
  refine jm_icN (Y := YX2_foretold) (pc := 7) 0 dX2_foretold_7 rfl ?_
  refine jm_ist (Y := YX2_foretold) (pc := 8) (ls' := [_, _, _, _, _]) dX2_foretold_8 (Nat.le_of_ble_eq_true rfl) rfl rfl ?_
  exact m_foretold0 r ha w M hR hg a hk n hn (n + 1) 0 (by omega) (by omega)
theorem m_goneBehind0 (r : Nat) (ha : r < 28) (w : Nat → Nat) (M : jm_M) (hR : RV M r w) (hg : rG w) (a : Nat) (hk : a < w 3) (hm : w 4 ≤ 9999) : ∀ (m : Nat) (i : Nat), i ≤ 61 → 61 - i < m → jm_J none YX2_goneBehind 10 [some (.ref (32 + 4 * r)), some (.int (nI a)), some (.int (nI 60)), some (.int (nI (16 * (m_wd w a i).1 + (m_wd w a i).2))), some (.int (nI i))] [] M (jm_is (some (.int (p_ov w a (61 - i) i))) M) := by
  intro m
  induction m with
  | zero => intros; omega
  | succ m ih =>
    intro i hi hmm
    have hb := hg.hb
    have g0 := hg.1.1
    have g1 := hg.1.2.1
    have g2 := hg.1.2.2.1
    have g3 := hg.1.2.2.2.1
    have g4 := hg.1.2.2.2.2
    have q1 := (hg.2.2.2.2 a hk).1
    have q5 := (hg.2.2.1 a (by omega)).1
    have qi := m_wd_b hg hk i
    refine jm_iload (Y := YX2_goneBehind) (pc := 10) dX2_goneBehind_10 rfl ?_
    refine jm_ild_n (Y := YX2_goneBehind) (pc := 12) (i := 2) dX2_goneBehind_12 rfl rfl ?_
    refine jm_icmp_gtN (Y := YX2_goneBehind) (pc := 13) dX2_goneBehind_13 rfl (by first | omega | exact jm_lt hb _) (by first | omega | exact jm_lt hb _) (fun h_13 => ?_) (fun h_13 => ?_)
    · refine jm_ldc (Y := YX2_goneBehind) (pc := 62) (v := -1000000) dX2_goneBehind_62 kc_RX2_82 ?_
      refine jm_ret (Y := YX2_goneBehind) (pc := 64) (st := []) dX2_goneBehind_64 rfl rfl ?_
      first | (have e : i = 61 := (by omega); subst e; exact ⟨rfl, rfl⟩) | (rw [show 61 - i = (61 - (i + 1)) + 1 by omega]; unfold p_ov; rw [if_pos ((m_wd_g hg hk (by omega)).mp h_20)]; exact ⟨rfl, rfl⟩) | fail
    · refine jm_ild_n (Y := YX2_goneBehind) (pc := 16) (i := 3) dX2_goneBehind_16 rfl rfl ?_
      refine jm_S1ie (Y := YX2_goneBehind) (pc := 17) dX2_goneBehind_17 lk_RX2_47 ⟨_, rfl⟩ rfl (by decide) (Nat.le_of_ble_eq_true rfl) ⟨by decide, by decide⟩ (m_isGone _ _ _ (by omega) (by omega)) ?_
      refine jm_if_eqB (Y := YX2_goneBehind) (pc := 20) dX2_goneBehind_20 rfl (fun h_20 => ?_) (fun h_20 => ?_)
      · refine jm_ald_n (Y := YX2_goneBehind) (pc := 26) (i := 0) dX2_goneBehind_26 rfl rfl ?_
        refine jm_ald_n (Y := YX2_goneBehind) (pc := 27) (i := 0) dX2_goneBehind_27 rfl rfl ?_
        refine jm_getR (Y := YX2_goneBehind) (pc := 28) dX2_goneBehind_28 fr_RX2_31 (by first | exact jm_obR ha | exact jm_obR hb | rfl) (by decide) (by first | exact jm_rf6 | rfl) ?_
        refine jm_ild_n (Y := YX2_goneBehind) (pc := 31) (i := 1) dX2_goneBehind_31 rfl rfl ?_
        refine jm_ialN (Y := YX2_goneBehind) (pc := 32) dX2_goneBehind_32 (by first | assumption | exact jm_arR1 ha | exact jm_arR2 ha | exact jm_arR3 ha | exact jm_arR1 hb | exact jm_arR2 hb | exact jm_arR3 hb | rfl) (by first | omega | exact jm_lt hb _) (by first | assumption | exact hR.1.1 | exact hR.1.2.1 | exact hR.1.2.2.1 | exact hR.1.2.2.2.1 | exact hR.1.2.2.2.2 | exact hR.2.1 _ (by omega) | exact (hR.2.2 _ (by omega)).1 | exact (hR.2.2 _ (by omega)).2 | rfl) ?_
        refine jm_ild_n (Y := YX2_goneBehind) (pc := 33) (i := 3) dX2_goneBehind_33 rfl rfl ?_
        refine jm_ald_n (Y := YX2_goneBehind) (pc := 34) (i := 0) dX2_goneBehind_34 rfl rfl ?_
        first | refine jm_getE (Y := YX2_goneBehind) (pc := 35) dX2_goneBehind_35 fw_RX2_24 (by first | exact jm_obR ha | exact jm_obR hb | rfl) (by decide) (by first | exact jm_rf4 | rfl) (by assumption) ?_ | refine jm_getE (Y := YX2_goneBehind) (pc := 35) dX2_goneBehind_35 fw_RX2_24 (by first | exact jm_obR ha | exact jm_obR hb | rfl) (by decide) (by first | exact jm_rf4 | rfl) (by exact hR.1.1) ?_ | refine jm_getE (Y := YX2_goneBehind) (pc := 35) dX2_goneBehind_35 fw_RX2_24 (by first | exact jm_obR ha | exact jm_obR hb | rfl) (by decide) (by first | exact jm_rf4 | rfl) (by exact hR.1.2.1) ?_ | refine jm_getE (Y := YX2_goneBehind) (pc := 35) dX2_goneBehind_35 fw_RX2_24 (by first | exact jm_obR ha | exact jm_obR hb | rfl) (by decide) (by first | exact jm_rf4 | rfl) (by exact hR.1.2.2.1) ?_ | refine jm_getE (Y := YX2_goneBehind) (pc := 35) dX2_goneBehind_35 fw_RX2_24 (by first | exact jm_obR ha | exact jm_obR hb | rfl) (by decide) (by first | exact jm_rf4 | rfl) (by exact hR.1.2.2.2.1) ?_ | refine jm_getE (Y := YX2_goneBehind) (pc := 35) dX2_goneBehind_35 fw_RX2_24 (by first | exact jm_obR ha | exact jm_obR hb | rfl) (by decide) (by first | exact jm_rf4 | rfl) (by exact hR.1.2.2.2.2) ?_ | refine jm_getE (Y := YX2_goneBehind) (pc := 35) dX2_goneBehind_35 fw_RX2_24 (by first | exact jm_obR ha | exact jm_obR hb | rfl) (by decide) (by first | exact jm_rf4 | rfl) (by exact hR.2.1 _ (by omega)) ?_ | refine jm_getE (Y := YX2_goneBehind) (pc := 35) dX2_goneBehind_35 fw_RX2_24 (by first | exact jm_obR ha | exact jm_obR hb | rfl) (by decide) (by first | exact jm_rf4 | rfl) (by exact (hR.2.2 _ (by omega)).1) ?_ | refine jm_getE (Y := YX2_goneBehind) (pc := 35) dX2_goneBehind_35 fw_RX2_24 (by first | exact jm_obR ha | exact jm_obR hb | rfl) (by decide) (by first | exact jm_rf4 | rfl) (by exact (hR.2.2 _ (by omega)).2) ?_ | refine jm_getI (Y := YX2_goneBehind) (pc := 35) dX2_goneBehind_35 fw_RX2_24.F (by first | exact jm_obR ha | exact jm_obR hb | rfl) (by decide) (by first | exact jm_rf4 | rfl) ?_ | fail
        refine jm_iload (Y := YX2_goneBehind) (pc := 38) dX2_goneBehind_38 rfl ?_
        refine jm_addN (Y := YX2_goneBehind) (pc := 40) dX2_goneBehind_40 ?_
        refine jm_ald_n (Y := YX2_goneBehind) (pc := 41) (i := 0) dX2_goneBehind_41 rfl rfl ?_
        refine jm_ald_n (Y := YX2_goneBehind) (pc := 42) (i := 0) dX2_goneBehind_42 rfl rfl ?_
        first | refine jm_getE (Y := YX2_goneBehind) (pc := 43) dX2_goneBehind_43 fw_RX2_24 (by first | exact jm_obR ha | exact jm_obR hb | rfl) (by decide) (by first | exact jm_rf4 | rfl) (by assumption) ?_ | refine jm_getE (Y := YX2_goneBehind) (pc := 43) dX2_goneBehind_43 fw_RX2_24 (by first | exact jm_obR ha | exact jm_obR hb | rfl) (by decide) (by first | exact jm_rf4 | rfl) (by exact hR.1.1) ?_ | refine jm_getE (Y := YX2_goneBehind) (pc := 43) dX2_goneBehind_43 fw_RX2_24 (by first | exact jm_obR ha | exact jm_obR hb | rfl) (by decide) (by first | exact jm_rf4 | rfl) (by exact hR.1.2.1) ?_ | refine jm_getE (Y := YX2_goneBehind) (pc := 43) dX2_goneBehind_43 fw_RX2_24 (by first | exact jm_obR ha | exact jm_obR hb | rfl) (by decide) (by first | exact jm_rf4 | rfl) (by exact hR.1.2.2.1) ?_ | refine jm_getE (Y := YX2_goneBehind) (pc := 43) dX2_goneBehind_43 fw_RX2_24 (by first | exact jm_obR ha | exact jm_obR hb | rfl) (by decide) (by first | exact jm_rf4 | rfl) (by exact hR.1.2.2.2.1) ?_ | refine jm_getE (Y := YX2_goneBehind) (pc := 43) dX2_goneBehind_43 fw_RX2_24 (by first | exact jm_obR ha | exact jm_obR hb | rfl) (by decide) (by first | exact jm_rf4 | rfl) (by exact hR.1.2.2.2.2) ?_ | refine jm_getE (Y := YX2_goneBehind) (pc := 43) dX2_goneBehind_43 fw_RX2_24 (by first | exact jm_obR ha | exact jm_obR hb | rfl) (by decide) (by first | exact jm_rf4 | rfl) (by exact hR.2.1 _ (by omega)) ?_ | refine jm_getE (Y := YX2_goneBehind) (pc := 43) dX2_goneBehind_43 fw_RX2_24 (by first | exact jm_obR ha | exact jm_obR hb | rfl) (by decide) (by first | exact jm_rf4 | rfl) (by exact (hR.2.2 _ (by omega)).1) ?_ | refine jm_getE (Y := YX2_goneBehind) (pc := 43) dX2_goneBehind_43 fw_RX2_24 (by first | exact jm_obR ha | exact jm_obR hb | rfl) (by decide) (by first | exact jm_rf4 | rfl) (by exact (hR.2.2 _ (by omega)).2) ?_ | refine jm_getI (Y := YX2_goneBehind) (pc := 43) dX2_goneBehind_43 fw_RX2_24.F (by first | exact jm_obR ha | exact jm_obR hb | rfl) (by decide) (by first | exact jm_rf4 | rfl) ?_ | fail
        refine jm_iload (Y := YX2_goneBehind) (pc := 46) dX2_goneBehind_46 rfl ?_
        refine jm_addN (Y := YX2_goneBehind) (pc := 48) dX2_goneBehind_48 ?_
        refine jm_V1ie (Y := YX2_goneBehind) (pc := 49) dX2_goneBehind_49 lk_RX2_60 ⟨_, rfl⟩ (by first | exact jm_obR ha | exact jm_obR hb | rfl) rfl (by decide) (Nat.le_of_ble_eq_true rfl) ⟨by decide, by decide⟩ (m_isWet r ha w _ hR hg _ (by omega)) ?_
        refine jm_V4ie (Y := YX2_goneBehind) (pc := 52) dX2_goneBehind_52 lk_RX2_63 ⟨_, rfl⟩ (by first | exact jm_obR ha | exact jm_obR hb | rfl) rfl rfl rfl rfl (by decide) (Nat.le_of_ble_eq_true rfl) ⟨by decide, by decide⟩ (m_moved r ha w _ hR hg _ _ _ _ (by omega) (by omega) (by omega) (by omega) (by omega) _) ?_
        refine jm_ist_n (Y := YX2_goneBehind) (pc := 55) (i := 3) (ls' := [_, _, _, _, _]) dX2_goneBehind_55 rfl (Nat.le_of_ble_eq_true rfl) rfl rfl ?_
        refine jm_incN (Y := YX2_goneBehind) (pc := 56) (m := 1) (ls' := [_, _, _, _, _]) dX2_goneBehind_56 rfl rfl rfl rfl ?_
        refine jm_goto (Y := YX2_goneBehind) (pc := 59) dX2_goneBehind_59 rfl ?_
        rw [m_wd_s Iff.rfl, show 61 - i = (61 - (i + 1)) + 1 by omega]
        unfold p_ov
        rw [if_neg (fun z => h_20 ((m_wd_g hg hk (by omega)).mpr z))]
        exact ih (i + 1) (by omega) (by omega)
      · refine jm_iload (Y := YX2_goneBehind) (pc := 23) dX2_goneBehind_23 rfl ?_
        refine jm_ret (Y := YX2_goneBehind) (pc := 25) (st := []) dX2_goneBehind_25 rfl rfl ?_
        first | (have e : i = 61 := (by omega); subst e; exact ⟨rfl, rfl⟩) | (rw [show 61 - i = (61 - (i + 1)) + 1 by omega]; unfold p_ov; rw [if_pos ((m_wd_g hg hk (by omega)).mp h_20)]; exact ⟨rfl, rfl⟩) | fail
theorem m_goneBehind (r : Nat) (ha : r < 28) (w : Nat → Nat) (M : jm_M) (hR : RV M r w) (hg : rG w) (a : Nat) (hk : a < w 3) (hm : w 4 ≤ 9999) : jm_J none YX2_goneBehind 0 [some (.ref (32 + 4 * r)), some (.int (nI a)), some (.int (nI 60)), none, none] [] M (jm_is (some (.int (p_ov w a 61 0))) M) := by
  have hb := hg.hb
  have g0 := hg.1.1
  have g1 := hg.1.2.1
  have g2 := hg.1.2.2.1
  have g3 := hg.1.2.2.2.1
  have g4 := hg.1.2.2.2.2
  refine jm_ald_n (Y := YX2_goneBehind) (pc := 0) (i := 0) dX2_goneBehind_0 rfl rfl ?_
  refine jm_getR (Y := YX2_goneBehind) (pc := 1) dX2_goneBehind_1 fr_RX2_34 (by first | exact jm_obR ha | exact jm_obR hb | rfl) (by decide) (by first | exact jm_rf7 | rfl) ?_
  refine jm_ild_n (Y := YX2_goneBehind) (pc := 4) (i := 1) dX2_goneBehind_4 rfl rfl ?_
  refine jm_ialN (Y := YX2_goneBehind) (pc := 5) dX2_goneBehind_5 (by first | assumption | exact jm_arR1 ha | exact jm_arR2 ha | exact jm_arR3 ha | exact jm_arR1 hb | exact jm_arR2 hb | exact jm_arR3 hb | rfl) (by first | omega | exact jm_lt hb _) (by first | assumption | exact hR.1.1 | exact hR.1.2.1 | exact hR.1.2.2.1 | exact hR.1.2.2.2.1 | exact hR.1.2.2.2.2 | exact hR.2.1 _ (by omega) | exact (hR.2.2 _ (by omega)).1 | exact (hR.2.2 _ (by omega)).2 | rfl) ?_
  refine jm_ist_n (Y := YX2_goneBehind) (pc := 6) (i := 3) (ls' := [_, _, _, _, _]) dX2_goneBehind_6 rfl (Nat.le_of_ble_eq_true rfl) rfl rfl ?_
  refine jm_icN (Y := YX2_goneBehind) (pc := 7) 0 dX2_goneBehind_7 rfl ?_
  refine jm_ist (Y := YX2_goneBehind) (pc := 8) (ls' := [_, _, _, _, _]) dX2_goneBehind_8 (Nat.le_of_ble_eq_true rfl) rfl rfl ?_
  exact m_goneBehind0 r ha w M hR hg a hk hm 62 0 (by omega) (by omega)
theorem m_quarrel0 (r : Nat) (ha : r < 28) (w : Nat → Nat) (M : jm_M) (hR : RV M r w) (hg : rG w) (n : Nat) (hn : w 4 + n ≤ 19000) : ∀ (m : Nat) (a : Nat), a ≤ w 3 → w 3 - a < m → jm_J none YX2_quarrelBehind 4 [some (.ref (32 + 4 * r)), some (.int (nI n)), some (.int (nI (p_sm (p_on w n) a))), some (.int (nI a))] [] M (jm_is (some (.int (nI (p_sm (p_on w n) (w 3))))) M) := by
  intro m
  induction m with
  | zero => intros; omega
  | succ m ih =>
    intro a hi hmm
    have hb := hg.hb
    have g0 := hg.1.1
    have g1 := hg.1.2.1
    have g2 := hg.1.2.2.1
    have g3 := hg.1.2.2.2.1
    have g4 := hg.1.2.2.2.2
    have hsm := p_sm_le (p_on_rG hg n hn) a (by omega)
    refine jm_ild_n (Y := YX2_quarrelBehind) (pc := 4) (i := 3) dX2_quarrelBehind_4 rfl rfl ?_
    refine jm_ald_n (Y := YX2_quarrelBehind) (pc := 5) (i := 0) dX2_quarrelBehind_5 rfl rfl ?_
    first | refine jm_getE (Y := YX2_quarrelBehind) (pc := 6) dX2_quarrelBehind_6 fw_RX2_15 (by first | exact jm_obR ha | exact jm_obR hb | rfl) (by decide) (by first | exact jm_rf1 | rfl) (by assumption) ?_ | refine jm_getE (Y := YX2_quarrelBehind) (pc := 6) dX2_quarrelBehind_6 fw_RX2_15 (by first | exact jm_obR ha | exact jm_obR hb | rfl) (by decide) (by first | exact jm_rf1 | rfl) (by exact hR.1.1) ?_ | refine jm_getE (Y := YX2_quarrelBehind) (pc := 6) dX2_quarrelBehind_6 fw_RX2_15 (by first | exact jm_obR ha | exact jm_obR hb | rfl) (by decide) (by first | exact jm_rf1 | rfl) (by exact hR.1.2.1) ?_ | refine jm_getE (Y := YX2_quarrelBehind) (pc := 6) dX2_quarrelBehind_6 fw_RX2_15 (by first | exact jm_obR ha | exact jm_obR hb | rfl) (by decide) (by first | exact jm_rf1 | rfl) (by exact hR.1.2.2.1) ?_ | refine jm_getE (Y := YX2_quarrelBehind) (pc := 6) dX2_quarrelBehind_6 fw_RX2_15 (by first | exact jm_obR ha | exact jm_obR hb | rfl) (by decide) (by first | exact jm_rf1 | rfl) (by exact hR.1.2.2.2.1) ?_ | refine jm_getE (Y := YX2_quarrelBehind) (pc := 6) dX2_quarrelBehind_6 fw_RX2_15 (by first | exact jm_obR ha | exact jm_obR hb | rfl) (by decide) (by first | exact jm_rf1 | rfl) (by exact hR.1.2.2.2.2) ?_ | refine jm_getE (Y := YX2_quarrelBehind) (pc := 6) dX2_quarrelBehind_6 fw_RX2_15 (by first | exact jm_obR ha | exact jm_obR hb | rfl) (by decide) (by first | exact jm_rf1 | rfl) (by exact hR.2.1 _ (by omega)) ?_ | refine jm_getE (Y := YX2_quarrelBehind) (pc := 6) dX2_quarrelBehind_6 fw_RX2_15 (by first | exact jm_obR ha | exact jm_obR hb | rfl) (by decide) (by first | exact jm_rf1 | rfl) (by exact (hR.2.2 _ (by omega)).1) ?_ | refine jm_getE (Y := YX2_quarrelBehind) (pc := 6) dX2_quarrelBehind_6 fw_RX2_15 (by first | exact jm_obR ha | exact jm_obR hb | rfl) (by decide) (by first | exact jm_rf1 | rfl) (by exact (hR.2.2 _ (by omega)).2) ?_ | refine jm_getI (Y := YX2_quarrelBehind) (pc := 6) dX2_quarrelBehind_6 fw_RX2_15.F (by first | exact jm_obR ha | exact jm_obR hb | rfl) (by decide) (by first | exact jm_rf1 | rfl) ?_ | fail
    refine jm_icmp_geN (Y := YX2_quarrelBehind) (pc := 9) dX2_quarrelBehind_9 rfl (by first | omega | exact jm_lt hb _) (by first | omega | exact jm_lt hb _) (fun h_9 => ?_) (fun h_9 => ?_)
    · refine jm_ild_n (Y := YX2_quarrelBehind) (pc := 30) (i := 2) dX2_quarrelBehind_30 rfl rfl ?_
      refine jm_ret (Y := YX2_quarrelBehind) (pc := 31) (st := []) dX2_quarrelBehind_31 rfl rfl ?_
      have e : a = w 3 := by omega
      subst e
      exact ⟨rfl, rfl⟩
    · have qi := m_wd_b hg h_9 n
      refine jm_ild_n (Y := YX2_quarrelBehind) (pc := 12) (i := 2) dX2_quarrelBehind_12 rfl rfl ?_
      refine jm_ald_n (Y := YX2_quarrelBehind) (pc := 13) (i := 0) dX2_quarrelBehind_13 rfl rfl ?_
      refine jm_ild_n (Y := YX2_quarrelBehind) (pc := 14) (i := 3) dX2_quarrelBehind_14 rfl rfl ?_
      refine jm_ild_n (Y := YX2_quarrelBehind) (pc := 15) (i := 1) dX2_quarrelBehind_15 rfl rfl ?_
      refine jm_V2ie (Y := YX2_quarrelBehind) (pc := 16) dX2_quarrelBehind_16 lk_RX2_83 ⟨_, rfl⟩ (by first | exact jm_obR ha | exact jm_obR hb | rfl) rfl rfl (by decide) (Nat.le_of_ble_eq_true rfl) ⟨by decide, by decide⟩ (m_foretold r ha w _ hR hg _ (by omega) _ (by omega)) ?_
      refine jm_S1ie (Y := YX2_quarrelBehind) (pc := 19) dX2_quarrelBehind_19 lk_RX2_37 ⟨_, rfl⟩ rfl (by decide) (Nat.le_of_ble_eq_true rfl) ⟨by decide, by decide⟩ (m_sizeIn _ _ _ (by omega) (by omega)) ?_
      refine jm_addN (Y := YX2_quarrelBehind) (pc := 22) dX2_quarrelBehind_22 ?_
      refine jm_ist_n (Y := YX2_quarrelBehind) (pc := 23) (i := 2) (ls' := [_, _, _, _]) dX2_quarrelBehind_23 rfl (Nat.le_of_ble_eq_true rfl) rfl rfl ?_
      refine jm_incN (Y := YX2_quarrelBehind) (pc := 24) (m := 1) (ls' := [_, _, _, _]) dX2_quarrelBehind_24 rfl rfl rfl rfl ?_
      refine jm_goto (Y := YX2_quarrelBehind) (pc := 27) dX2_quarrelBehind_27 rfl ?_
      rw [m_wd_1 hg h_9 hn]
      exact ih (a + 1) (by omega) (by omega)
theorem m_quarrel (r : Nat) (ha : r < 28) (w : Nat → Nat) (M : jm_M) (hR : RV M r w) (hg : rG w) (n : Nat) (hn : w 4 + n ≤ 19000) : jm_J none YX2_quarrelBehind 0 [some (.ref (32 + 4 * r)), some (.int (nI n)), none, none] [] M (jm_is (some (.int (nI (p_sm (p_on w n) (w 3))))) M) := by
  have hb := hg.hb
  have g0 := hg.1.1
  have g1 := hg.1.2.1
  have g2 := hg.1.2.2.1
  have g3 := hg.1.2.2.2.1
  have g4 := hg.1.2.2.2.2
  refine jm_icN (Y := YX2_quarrelBehind) (pc := 0) 0 dX2_quarrelBehind_0 rfl ?_
  refine jm_ist_n (Y := YX2_quarrelBehind) (pc := 1) (i := 2) (ls' := [_, _, _, _]) dX2_quarrelBehind_1 rfl (Nat.le_of_ble_eq_true rfl) rfl rfl ?_
  refine jm_icN (Y := YX2_quarrelBehind) (pc := 2) 0 dX2_quarrelBehind_2 rfl ?_
  refine jm_ist_n (Y := YX2_quarrelBehind) (pc := 3) (i := 3) (ls' := [_, _, _, _]) dX2_quarrelBehind_3 rfl (Nat.le_of_ble_eq_true rfl) rfl rfl ?_
  exact m_quarrel0 r ha w M hR hg n hn (w 3 + 1) 0 (by omega) (by omega)
theorem m_allGone0 (r : Nat) (ha : r < 28) (w : Nat → Nat) (M : jm_M) (hR : RV M r w) (hg : rG w) (n : Nat) (hn : w 4 + n ≤ 19000) : ∀ (m : Nat) (a : Nat), a ≤ w 3 → (∀ b, b < a → p_on w n (17 + 4 * b + 3) = 1) → w 3 - a < m → jm_J none YX2_isAllGoneBehind 2 [some (.ref (32 + 4 * r)), some (.int (nI n)), some (.int (nI a))] [] M ((fun o M1 => M1 = M ∧ ((o = some (.int (nI 1)) ∧ ∀ b, b < w 3 → p_on w n (17 + 4 * b + 3) = 1) ∨ (o = some (.int (nI 0)) ∧ ¬ ∀ b, b < w 3 → p_on w n (17 + 4 * b + 3) = 1)))) := by
  intro m
  induction m with
  | zero => intros; omega
  | succ m ih =>
    intro a hi hall hmm
    have hb := hg.hb
    have g0 := hg.1.1
    have g1 := hg.1.2.1
    have g2 := hg.1.2.2.1
    have g3 := hg.1.2.2.2.1
    have g4 := hg.1.2.2.2.2
    refine jm_ild_n (Y := YX2_isAllGoneBehind) (pc := 2) (i := 2) dX2_isAllGoneBehind_2 rfl rfl ?_
    refine jm_ald_n (Y := YX2_isAllGoneBehind) (pc := 3) (i := 0) dX2_isAllGoneBehind_3 rfl rfl ?_
    first | refine jm_getE (Y := YX2_isAllGoneBehind) (pc := 4) dX2_isAllGoneBehind_4 fw_RX2_15 (by first | exact jm_obR ha | exact jm_obR hb | rfl) (by decide) (by first | exact jm_rf1 | rfl) (by assumption) ?_ | refine jm_getE (Y := YX2_isAllGoneBehind) (pc := 4) dX2_isAllGoneBehind_4 fw_RX2_15 (by first | exact jm_obR ha | exact jm_obR hb | rfl) (by decide) (by first | exact jm_rf1 | rfl) (by exact hR.1.1) ?_ | refine jm_getE (Y := YX2_isAllGoneBehind) (pc := 4) dX2_isAllGoneBehind_4 fw_RX2_15 (by first | exact jm_obR ha | exact jm_obR hb | rfl) (by decide) (by first | exact jm_rf1 | rfl) (by exact hR.1.2.1) ?_ | refine jm_getE (Y := YX2_isAllGoneBehind) (pc := 4) dX2_isAllGoneBehind_4 fw_RX2_15 (by first | exact jm_obR ha | exact jm_obR hb | rfl) (by decide) (by first | exact jm_rf1 | rfl) (by exact hR.1.2.2.1) ?_ | refine jm_getE (Y := YX2_isAllGoneBehind) (pc := 4) dX2_isAllGoneBehind_4 fw_RX2_15 (by first | exact jm_obR ha | exact jm_obR hb | rfl) (by decide) (by first | exact jm_rf1 | rfl) (by exact hR.1.2.2.2.1) ?_ | refine jm_getE (Y := YX2_isAllGoneBehind) (pc := 4) dX2_isAllGoneBehind_4 fw_RX2_15 (by first | exact jm_obR ha | exact jm_obR hb | rfl) (by decide) (by first | exact jm_rf1 | rfl) (by exact hR.1.2.2.2.2) ?_ | refine jm_getE (Y := YX2_isAllGoneBehind) (pc := 4) dX2_isAllGoneBehind_4 fw_RX2_15 (by first | exact jm_obR ha | exact jm_obR hb | rfl) (by decide) (by first | exact jm_rf1 | rfl) (by exact hR.2.1 _ (by omega)) ?_ | refine jm_getE (Y := YX2_isAllGoneBehind) (pc := 4) dX2_isAllGoneBehind_4 fw_RX2_15 (by first | exact jm_obR ha | exact jm_obR hb | rfl) (by decide) (by first | exact jm_rf1 | rfl) (by exact (hR.2.2 _ (by omega)).1) ?_ | refine jm_getE (Y := YX2_isAllGoneBehind) (pc := 4) dX2_isAllGoneBehind_4 fw_RX2_15 (by first | exact jm_obR ha | exact jm_obR hb | rfl) (by decide) (by first | exact jm_rf1 | rfl) (by exact (hR.2.2 _ (by omega)).2) ?_ | refine jm_getI (Y := YX2_isAllGoneBehind) (pc := 4) dX2_isAllGoneBehind_4 fw_RX2_15.F (by first | exact jm_obR ha | exact jm_obR hb | rfl) (by decide) (by first | exact jm_rf1 | rfl) ?_ | fail
    refine jm_icmp_geN (Y := YX2_isAllGoneBehind) (pc := 7) dX2_isAllGoneBehind_7 rfl (by first | omega | exact jm_lt hb _) (by first | omega | exact jm_lt hb _) (fun h_7 => ?_) (fun h_7 => ?_)
    · refine jm_icN (Y := YX2_isAllGoneBehind) (pc := 30) 1 dX2_isAllGoneBehind_30 rfl ?_
      refine jm_ret (Y := YX2_isAllGoneBehind) (pc := 31) (st := []) dX2_isAllGoneBehind_31 rfl rfl ?_
      first | exact ⟨rfl, Or.inl ⟨rfl, fun b hb2 => hall b (by omega)⟩⟩ | exact ⟨rfl, Or.inr ⟨rfl, fun z => h_19 ((m_wd_g hg h_7 hn).mpr (z a h_7))⟩⟩ | fail
    · have qi := m_wd_b hg h_7 n
      refine jm_ald_n (Y := YX2_isAllGoneBehind) (pc := 10) (i := 0) dX2_isAllGoneBehind_10 rfl rfl ?_
      refine jm_ild_n (Y := YX2_isAllGoneBehind) (pc := 11) (i := 2) dX2_isAllGoneBehind_11 rfl rfl ?_
      refine jm_ild_n (Y := YX2_isAllGoneBehind) (pc := 12) (i := 1) dX2_isAllGoneBehind_12 rfl rfl ?_
      refine jm_V2ie (Y := YX2_isAllGoneBehind) (pc := 13) dX2_isAllGoneBehind_13 lk_RX2_83 ⟨_, rfl⟩ (by first | exact jm_obR ha | exact jm_obR hb | rfl) rfl rfl (by decide) (Nat.le_of_ble_eq_true rfl) ⟨by decide, by decide⟩ (m_foretold r ha w _ hR hg _ (by omega) _ (by omega)) ?_
      refine jm_S1ie (Y := YX2_isAllGoneBehind) (pc := 16) dX2_isAllGoneBehind_16 lk_RX2_47 ⟨_, rfl⟩ rfl (by decide) (Nat.le_of_ble_eq_true rfl) ⟨by decide, by decide⟩ (m_isGone _ _ _ (by omega) (by omega)) ?_
      refine jm_if_neB (Y := YX2_isAllGoneBehind) (pc := 19) dX2_isAllGoneBehind_19 rfl (fun h_19 => ?_) (fun h_19 => ?_)
      · refine jm_incN (Y := YX2_isAllGoneBehind) (pc := 24) (m := 1) (ls' := [_, _, _]) dX2_isAllGoneBehind_24 rfl rfl rfl rfl ?_
        refine jm_goto (Y := YX2_isAllGoneBehind) (pc := 27) dX2_isAllGoneBehind_27 rfl ?_
        have e1 := (m_wd_g hg h_7 hn).mp h_19
        exact ih (a + 1) (by omega) (fun b hb2 => by by_cases z : b = a; (subst z; exact e1); (exact hall b (by omega))) (by omega)
      · refine jm_icN (Y := YX2_isAllGoneBehind) (pc := 22) 0 dX2_isAllGoneBehind_22 rfl ?_
        refine jm_ret (Y := YX2_isAllGoneBehind) (pc := 23) (st := []) dX2_isAllGoneBehind_23 rfl rfl ?_
        first | exact ⟨rfl, Or.inl ⟨rfl, fun b hb2 => hall b (by omega)⟩⟩ | exact ⟨rfl, Or.inr ⟨rfl, fun z => h_19 ((m_wd_g hg h_7 hn).mpr (z a h_7))⟩⟩ | fail
theorem m_goneBits0 (r : Nat) (ha : r < 28) (w : Nat → Nat) (M : jm_M) (hR : RV M r w) (hg : rG w) : ∀ (m : Nat) (a : Nat), a ≤ w 3 → w 3 - a < m → jm_J none YX2_goneBits 4 [some (.ref (32 + 4 * r)), some (.int (nI (p_gn w a))), some (.int (nI a))] [] M (jm_is (some (.int (nI (p_gn w (w 3))))) M) := by
  intro m
  induction m with
  | zero => intros; omega
  | succ m ih =>
    intro a hi hmm
    have hb := hg.hb
    have g0 := hg.1.1
    have g1 := hg.1.2.1
    have g2 := hg.1.2.2.1
    have g3 := hg.1.2.2.2.1
    have g4 := hg.1.2.2.2.2
    refine jm_ild_n (Y := YX2_goneBits) (pc := 4) (i := 2) dX2_goneBits_4 rfl rfl ?_
    refine jm_ald_n (Y := YX2_goneBits) (pc := 5) (i := 0) dX2_goneBits_5 rfl rfl ?_
    first | refine jm_getE (Y := YX2_goneBits) (pc := 6) dX2_goneBits_6 fw_RX2_15 (by first | exact jm_obR ha | exact jm_obR hb | rfl) (by decide) (by first | exact jm_rf1 | rfl) (by assumption) ?_ | refine jm_getE (Y := YX2_goneBits) (pc := 6) dX2_goneBits_6 fw_RX2_15 (by first | exact jm_obR ha | exact jm_obR hb | rfl) (by decide) (by first | exact jm_rf1 | rfl) (by exact hR.1.1) ?_ | refine jm_getE (Y := YX2_goneBits) (pc := 6) dX2_goneBits_6 fw_RX2_15 (by first | exact jm_obR ha | exact jm_obR hb | rfl) (by decide) (by first | exact jm_rf1 | rfl) (by exact hR.1.2.1) ?_ | refine jm_getE (Y := YX2_goneBits) (pc := 6) dX2_goneBits_6 fw_RX2_15 (by first | exact jm_obR ha | exact jm_obR hb | rfl) (by decide) (by first | exact jm_rf1 | rfl) (by exact hR.1.2.2.1) ?_ | refine jm_getE (Y := YX2_goneBits) (pc := 6) dX2_goneBits_6 fw_RX2_15 (by first | exact jm_obR ha | exact jm_obR hb | rfl) (by decide) (by first | exact jm_rf1 | rfl) (by exact hR.1.2.2.2.1) ?_ | refine jm_getE (Y := YX2_goneBits) (pc := 6) dX2_goneBits_6 fw_RX2_15 (by first | exact jm_obR ha | exact jm_obR hb | rfl) (by decide) (by first | exact jm_rf1 | rfl) (by exact hR.1.2.2.2.2) ?_ | refine jm_getE (Y := YX2_goneBits) (pc := 6) dX2_goneBits_6 fw_RX2_15 (by first | exact jm_obR ha | exact jm_obR hb | rfl) (by decide) (by first | exact jm_rf1 | rfl) (by exact hR.2.1 _ (by omega)) ?_ | refine jm_getE (Y := YX2_goneBits) (pc := 6) dX2_goneBits_6 fw_RX2_15 (by first | exact jm_obR ha | exact jm_obR hb | rfl) (by decide) (by first | exact jm_rf1 | rfl) (by exact (hR.2.2 _ (by omega)).1) ?_ | refine jm_getE (Y := YX2_goneBits) (pc := 6) dX2_goneBits_6 fw_RX2_15 (by first | exact jm_obR ha | exact jm_obR hb | rfl) (by decide) (by first | exact jm_rf1 | rfl) (by exact (hR.2.2 _ (by omega)).2) ?_ | refine jm_getI (Y := YX2_goneBits) (pc := 6) dX2_goneBits_6 fw_RX2_15.F (by first | exact jm_obR ha | exact jm_obR hb | rfl) (by decide) (by first | exact jm_rf1 | rfl) ?_ | fail
    refine jm_icmp_geN (Y := YX2_goneBits) (pc := 9) dX2_goneBits_9 rfl (by first | omega | exact jm_lt hb _) (by first | omega | exact jm_lt hb _) (fun h_9 => ?_) (fun h_9 => ?_)
    · refine jm_ild_n (Y := YX2_goneBits) (pc := 36) (i := 1) dX2_goneBits_36 rfl rfl ?_
      refine jm_ret (Y := YX2_goneBits) (pc := 37) (st := []) dX2_goneBits_37 rfl rfl ?_
      have e : a = w 3 := by omega
      subst e
      exact ⟨rfl, rfl⟩
    · have q0 := hg.2.2.1 a (by omega)
      have qg := m_gone hg h_9
      refine jm_ald_n (Y := YX2_goneBits) (pc := 12) (i := 0) dX2_goneBits_12 rfl rfl ?_
      refine jm_getR (Y := YX2_goneBits) (pc := 13) dX2_goneBits_13 fr_RX2_34 (by first | exact jm_obR ha | exact jm_obR hb | rfl) (by decide) (by first | exact jm_rf7 | rfl) ?_
      refine jm_ild_n (Y := YX2_goneBits) (pc := 16) (i := 2) dX2_goneBits_16 rfl rfl ?_
      refine jm_ialN (Y := YX2_goneBits) (pc := 17) dX2_goneBits_17 (by first | assumption | exact jm_arR1 ha | exact jm_arR2 ha | exact jm_arR3 ha | exact jm_arR1 hb | exact jm_arR2 hb | exact jm_arR3 hb | rfl) (by first | omega | exact jm_lt hb _) (by first | assumption | exact hR.1.1 | exact hR.1.2.1 | exact hR.1.2.2.1 | exact hR.1.2.2.2.1 | exact hR.1.2.2.2.2 | exact hR.2.1 _ (by omega) | exact (hR.2.2 _ (by omega)).1 | exact (hR.2.2 _ (by omega)).2 | rfl) ?_
      refine jm_S1ie (Y := YX2_goneBits) (pc := 18) dX2_goneBits_18 lk_RX2_47 ⟨_, rfl⟩ rfl (by decide) (Nat.le_of_ble_eq_true rfl) ⟨by decide, by decide⟩ (m_isGone _ _ _ (by omega) (by omega)) ?_
      refine jm_if_eqB (Y := YX2_goneBits) (pc := 21) dX2_goneBits_21 rfl (fun h_21 => ?_) (fun h_21 => ?_)
      · refine jm_incN (Y := YX2_goneBits) (pc := 30) (m := 1) (ls' := [_, _, _]) dX2_goneBits_30 rfl rfl rfl rfl ?_
        refine jm_goto (Y := YX2_goneBits) (pc := 33) dX2_goneBits_33 rfl ?_
        have e9 : p_gn w (a + 1) = p_gn w a ||| w (17 + 4 * a + 3) * 2 ^ a := rfl
        first
          | (have z1 := qg.mpr h_21; rw [z1] at e9; rw [← e9]; exact ih (a + 1) (by omega) (by omega))
          | (have z0 : w (17 + 4 * a + 3) = 0 := (by have qq : ¬ w (17 + 4 * a + 3) = 1 := fun z => h_21 (qg.mp z); omega); rw [z0, Nat.zero_mul, Nat.or_zero] at e9; rw [← e9]; exact ih (a + 1) (by omega) (by omega))
          | fail
      · refine jm_ild_n (Y := YX2_goneBits) (pc := 24) (i := 1) dX2_goneBits_24 rfl rfl ?_
        refine jm_icN (Y := YX2_goneBits) (pc := 25) 1 dX2_goneBits_25 rfl ?_
        refine jm_ild_n (Y := YX2_goneBits) (pc := 26) (i := 2) dX2_goneBits_26 rfl rfl ?_
        refine jm_shlN (Y := YX2_goneBits) (pc := 27) dX2_goneBits_27 (by omega) (by have := Nat.pow_le_pow_right (show 0 < 2 by decide) (show a ≤ 7 by omega); omega) ?_
        refine jm_orN (Y := YX2_goneBits) (pc := 28) dX2_goneBits_28 ?_
        refine jm_ist_n (Y := YX2_goneBits) (pc := 29) (i := 1) (ls' := [_, _, _]) dX2_goneBits_29 rfl (Nat.le_of_ble_eq_true rfl) rfl rfl ?_
        refine jm_incN (Y := YX2_goneBits) (pc := 30) (m := 1) (ls' := [_, _, _]) dX2_goneBits_30 rfl rfl rfl rfl ?_
        refine jm_goto (Y := YX2_goneBits) (pc := 33) dX2_goneBits_33 rfl ?_
        have e9 : p_gn w (a + 1) = p_gn w a ||| w (17 + 4 * a + 3) * 2 ^ a := rfl
        first
          | (have z1 := qg.mpr h_21; rw [z1] at e9; rw [← e9]; exact ih (a + 1) (by omega) (by omega))
          | (have z0 : w (17 + 4 * a + 3) = 0 := (by have qq : ¬ w (17 + 4 * a + 3) = 1 := fun z => h_21 (qg.mp z); omega); rw [z0, Nat.zero_mul, Nat.or_zero] at e9; rw [← e9]; exact ih (a + 1) (by omega) (by omega))
          | fail
theorem m_goneBits (r : Nat) (ha : r < 28) (w : Nat → Nat) (M : jm_M) (hR : RV M r w) (hg : rG w)  : jm_J none YX2_goneBits 0 [some (.ref (32 + 4 * r)), none, none] [] M (jm_is (some (.int (nI (p_gn w (w 3))))) M) := by
  have hb := hg.hb
  have g0 := hg.1.1
  have g1 := hg.1.2.1
  have g2 := hg.1.2.2.1
  have g3 := hg.1.2.2.2.1
  have g4 := hg.1.2.2.2.2
  refine jm_icN (Y := YX2_goneBits) (pc := 0) 0 dX2_goneBits_0 rfl ?_
  refine jm_ist_n (Y := YX2_goneBits) (pc := 1) (i := 1) (ls' := [_, _, _]) dX2_goneBits_1 rfl (Nat.le_of_ble_eq_true rfl) rfl rfl ?_
  refine jm_icN (Y := YX2_goneBits) (pc := 2) 0 dX2_goneBits_2 rfl ?_
  refine jm_ist_n (Y := YX2_goneBits) (pc := 3) (i := 2) (ls' := [_, _, _]) dX2_goneBits_3 rfl (Nat.le_of_ble_eq_true rfl) rfl rfl ?_
  exact m_goneBits0 r ha w M hR hg (w 3 + 1) 0 (by omega) (by omega)
theorem m_wordsIn0 (r : Nat) (ha : r < 28) (w : Nat → Nat) (M : jm_M) (hR : RV M r w) (hg : rG w) (c : Nat) (hc : c < w 2) : ∀ (m : Nat) (a : Nat), a ≤ w 3 → w 3 - a < m → jm_J none YX2_wordsIn 4 [some (.ref (32 + 4 * r)), some (.int (nI c)), some (.int (nI (p_wi w c a))), some (.int (nI a))] [] M (jm_is (some (.int (nI (p_wi w c (w 3))))) M) := by
  intro m
  induction m with
  | zero => intros; omega
  | succ m ih =>
    intro a hi hmm
    have hb := hg.hb
    have g0 := hg.1.1
    have g1 := hg.1.2.1
    have g2 := hg.1.2.2.1
    have g3 := hg.1.2.2.2.1
    have g4 := hg.1.2.2.2.2
    refine jm_ild_n (Y := YX2_wordsIn) (pc := 4) (i := 3) dX2_wordsIn_4 rfl rfl ?_
    refine jm_ald_n (Y := YX2_wordsIn) (pc := 5) (i := 0) dX2_wordsIn_5 rfl rfl ?_
    first | refine jm_getE (Y := YX2_wordsIn) (pc := 6) dX2_wordsIn_6 fw_RX2_15 (by first | exact jm_obR ha | exact jm_obR hb | rfl) (by decide) (by first | exact jm_rf1 | rfl) (by assumption) ?_ | refine jm_getE (Y := YX2_wordsIn) (pc := 6) dX2_wordsIn_6 fw_RX2_15 (by first | exact jm_obR ha | exact jm_obR hb | rfl) (by decide) (by first | exact jm_rf1 | rfl) (by exact hR.1.1) ?_ | refine jm_getE (Y := YX2_wordsIn) (pc := 6) dX2_wordsIn_6 fw_RX2_15 (by first | exact jm_obR ha | exact jm_obR hb | rfl) (by decide) (by first | exact jm_rf1 | rfl) (by exact hR.1.2.1) ?_ | refine jm_getE (Y := YX2_wordsIn) (pc := 6) dX2_wordsIn_6 fw_RX2_15 (by first | exact jm_obR ha | exact jm_obR hb | rfl) (by decide) (by first | exact jm_rf1 | rfl) (by exact hR.1.2.2.1) ?_ | refine jm_getE (Y := YX2_wordsIn) (pc := 6) dX2_wordsIn_6 fw_RX2_15 (by first | exact jm_obR ha | exact jm_obR hb | rfl) (by decide) (by first | exact jm_rf1 | rfl) (by exact hR.1.2.2.2.1) ?_ | refine jm_getE (Y := YX2_wordsIn) (pc := 6) dX2_wordsIn_6 fw_RX2_15 (by first | exact jm_obR ha | exact jm_obR hb | rfl) (by decide) (by first | exact jm_rf1 | rfl) (by exact hR.1.2.2.2.2) ?_ | refine jm_getE (Y := YX2_wordsIn) (pc := 6) dX2_wordsIn_6 fw_RX2_15 (by first | exact jm_obR ha | exact jm_obR hb | rfl) (by decide) (by first | exact jm_rf1 | rfl) (by exact hR.2.1 _ (by omega)) ?_ | refine jm_getE (Y := YX2_wordsIn) (pc := 6) dX2_wordsIn_6 fw_RX2_15 (by first | exact jm_obR ha | exact jm_obR hb | rfl) (by decide) (by first | exact jm_rf1 | rfl) (by exact (hR.2.2 _ (by omega)).1) ?_ | refine jm_getE (Y := YX2_wordsIn) (pc := 6) dX2_wordsIn_6 fw_RX2_15 (by first | exact jm_obR ha | exact jm_obR hb | rfl) (by decide) (by first | exact jm_rf1 | rfl) (by exact (hR.2.2 _ (by omega)).2) ?_ | refine jm_getI (Y := YX2_wordsIn) (pc := 6) dX2_wordsIn_6 fw_RX2_15.F (by first | exact jm_obR ha | exact jm_obR hb | rfl) (by decide) (by first | exact jm_rf1 | rfl) ?_ | fail
    refine jm_icmp_geN (Y := YX2_wordsIn) (pc := 9) dX2_wordsIn_9 rfl (by first | omega | exact jm_lt hb _) (by first | omega | exact jm_lt hb _) (fun h_9 => ?_) (fun h_9 => ?_)
    · refine jm_ild_n (Y := YX2_wordsIn) (pc := 49) (i := 2) dX2_wordsIn_49 rfl rfl ?_
      refine jm_ret (Y := YX2_wordsIn) (pc := 50) (st := []) dX2_wordsIn_50 rfl rfl ?_
      have e : a = w 3 := by omega
      subst e
      exact ⟨rfl, rfl⟩
    · have q0 := hg.2.2.1 a (by omega)
      have qg : w (17 + 4 * a + 3) = 1 ↔ w (17 + 4 * a + 1) = 0 := m_gone hg h_9
      refine jm_ald_n (Y := YX2_wordsIn) (pc := 12) (i := 0) dX2_wordsIn_12 rfl rfl ?_
      refine jm_getR (Y := YX2_wordsIn) (pc := 13) dX2_wordsIn_13 fr_RX2_34 (by first | exact jm_obR ha | exact jm_obR hb | rfl) (by decide) (by first | exact jm_rf7 | rfl) ?_
      refine jm_ild_n (Y := YX2_wordsIn) (pc := 16) (i := 3) dX2_wordsIn_16 rfl rfl ?_
      refine jm_ialN (Y := YX2_wordsIn) (pc := 17) dX2_wordsIn_17 (by first | assumption | exact jm_arR1 ha | exact jm_arR2 ha | exact jm_arR3 ha | exact jm_arR1 hb | exact jm_arR2 hb | exact jm_arR3 hb | rfl) (by first | omega | exact jm_lt hb _) (by first | assumption | exact hR.1.1 | exact hR.1.2.1 | exact hR.1.2.2.1 | exact hR.1.2.2.2.1 | exact hR.1.2.2.2.2 | exact hR.2.1 _ (by omega) | exact (hR.2.2 _ (by omega)).1 | exact (hR.2.2 _ (by omega)).2 | rfl) ?_
      refine jm_S1ie (Y := YX2_wordsIn) (pc := 18) dX2_wordsIn_18 lk_RX2_47 ⟨_, rfl⟩ rfl (by decide) (Nat.le_of_ble_eq_true rfl) ⟨by decide, by decide⟩ (m_isGone _ _ _ (by omega) (by omega)) ?_
      refine jm_if_neB (Y := YX2_wordsIn) (pc := 21) dX2_wordsIn_21 rfl (fun h_21 => ?_) (fun h_21 => ?_)
      · refine jm_incN (Y := YX2_wordsIn) (pc := 43) (m := 1) (ls' := [_, _, _, _]) dX2_wordsIn_43 rfl rfl rfl rfl ?_
        refine jm_goto (Y := YX2_wordsIn) (pc := 46) dX2_wordsIn_46 rfl ?_
        have e9 : p_wi w c (a + 1) = p_wi w c a ||| (if w (17 + 4 * a + 3) ≠ 1 ∧ w (17 + 4 * a + 2) = c then 2 ^ a else 0) := rfl
        first
          | (rw [if_pos ⟨fun z => h_21 (qg.mp z), h_34⟩] at e9; rw [← e9]; exact ih (a + 1) (by omega) (by omega))
          | (rw [if_neg (fun z => h_34 z.2), Nat.or_zero] at e9; rw [← e9]; exact ih (a + 1) (by omega) (by omega))
          | (rw [if_neg (fun z => z.1 (qg.mpr h_21)), Nat.or_zero] at e9; rw [← e9]; exact ih (a + 1) (by omega) (by omega))
          | fail
      · refine jm_ald_n (Y := YX2_wordsIn) (pc := 24) (i := 0) dX2_wordsIn_24 rfl rfl ?_
        refine jm_getR (Y := YX2_wordsIn) (pc := 25) dX2_wordsIn_25 fr_RX2_34 (by first | exact jm_obR ha | exact jm_obR hb | rfl) (by decide) (by first | exact jm_rf7 | rfl) ?_
        refine jm_ild_n (Y := YX2_wordsIn) (pc := 28) (i := 3) dX2_wordsIn_28 rfl rfl ?_
        refine jm_ialN (Y := YX2_wordsIn) (pc := 29) dX2_wordsIn_29 (by first | assumption | exact jm_arR1 ha | exact jm_arR2 ha | exact jm_arR3 ha | exact jm_arR1 hb | exact jm_arR2 hb | exact jm_arR3 hb | rfl) (by first | omega | exact jm_lt hb _) (by first | assumption | exact hR.1.1 | exact hR.1.2.1 | exact hR.1.2.2.1 | exact hR.1.2.2.2.1 | exact hR.1.2.2.2.2 | exact hR.2.1 _ (by omega) | exact (hR.2.2 _ (by omega)).1 | exact (hR.2.2 _ (by omega)).2 | rfl) ?_
        refine jm_S1ie (Y := YX2_wordsIn) (pc := 30) dX2_wordsIn_30 lk_RX2_51 ⟨_, rfl⟩ rfl (by decide) (Nat.le_of_ble_eq_true rfl) ⟨by decide, by decide⟩ (m_cellIn _ _ _ (by omega) (by omega)) ?_
        refine jm_ild_n (Y := YX2_wordsIn) (pc := 33) (i := 1) dX2_wordsIn_33 rfl rfl ?_
        refine jm_icmp_neN (Y := YX2_wordsIn) (pc := 34) dX2_wordsIn_34 rfl (by first | omega | exact jm_lt hb _) (by first | omega | exact jm_lt hb _) (fun h_34 => ?_) (fun h_34 => ?_)
        · refine jm_incN (Y := YX2_wordsIn) (pc := 43) (m := 1) (ls' := [_, _, _, _]) dX2_wordsIn_43 rfl rfl rfl rfl ?_
          refine jm_goto (Y := YX2_wordsIn) (pc := 46) dX2_wordsIn_46 rfl ?_
          have e9 : p_wi w c (a + 1) = p_wi w c a ||| (if w (17 + 4 * a + 3) ≠ 1 ∧ w (17 + 4 * a + 2) = c then 2 ^ a else 0) := rfl
          first
            | (rw [if_pos ⟨fun z => h_21 (qg.mp z), h_34⟩] at e9; rw [← e9]; exact ih (a + 1) (by omega) (by omega))
            | (rw [if_neg (fun z => h_34 z.2), Nat.or_zero] at e9; rw [← e9]; exact ih (a + 1) (by omega) (by omega))
            | (rw [if_neg (fun z => z.1 (qg.mpr h_21)), Nat.or_zero] at e9; rw [← e9]; exact ih (a + 1) (by omega) (by omega))
            | fail
        · refine jm_ild_n (Y := YX2_wordsIn) (pc := 37) (i := 2) dX2_wordsIn_37 rfl rfl ?_
          refine jm_icN (Y := YX2_wordsIn) (pc := 38) 1 dX2_wordsIn_38 rfl ?_
          refine jm_ild_n (Y := YX2_wordsIn) (pc := 39) (i := 3) dX2_wordsIn_39 rfl rfl ?_
          refine jm_shlN (Y := YX2_wordsIn) (pc := 40) dX2_wordsIn_40 (by omega) (by have := Nat.pow_le_pow_right (show 0 < 2 by decide) (show a ≤ 7 by omega); omega) ?_
          refine jm_orN (Y := YX2_wordsIn) (pc := 41) dX2_wordsIn_41 ?_
          rw [Nat.one_mul]
          refine jm_ist_n (Y := YX2_wordsIn) (pc := 42) (i := 2) (ls' := [_, _, _, _]) dX2_wordsIn_42 rfl (Nat.le_of_ble_eq_true rfl) rfl rfl ?_
          refine jm_incN (Y := YX2_wordsIn) (pc := 43) (m := 1) (ls' := [_, _, _, _]) dX2_wordsIn_43 rfl rfl rfl rfl ?_
          refine jm_goto (Y := YX2_wordsIn) (pc := 46) dX2_wordsIn_46 rfl ?_
          have e9 : p_wi w c (a + 1) = p_wi w c a ||| (if w (17 + 4 * a + 3) ≠ 1 ∧ w (17 + 4 * a + 2) = c then 2 ^ a else 0) := rfl
          first
            | (rw [if_pos ⟨fun z => h_21 (qg.mp z), h_34⟩] at e9; rw [← e9]; exact ih (a + 1) (by omega) (by omega))
            | (rw [if_neg (fun z => h_34 z.2), Nat.or_zero] at e9; rw [← e9]; exact ih (a + 1) (by omega) (by omega))
            | (rw [if_neg (fun z => z.1 (qg.mpr h_21)), Nat.or_zero] at e9; rw [← e9]; exact ih (a + 1) (by omega) (by omega))
            | fail
theorem m_wordsIn (r : Nat) (ha : r < 28) (w : Nat → Nat) (M : jm_M) (hR : RV M r w) (hg : rG w) (c : Nat) (hc : c < w 2) : jm_J none YX2_wordsIn 0 [some (.ref (32 + 4 * r)), some (.int (nI c)), none, none] [] M (jm_is (some (.int (nI (p_wi w c (w 3))))) M) := by
  have hb := hg.hb
  have g0 := hg.1.1
  have g1 := hg.1.2.1
  have g2 := hg.1.2.2.1
  have g3 := hg.1.2.2.2.1
  have g4 := hg.1.2.2.2.2
  refine jm_icN (Y := YX2_wordsIn) (pc := 0) 0 dX2_wordsIn_0 rfl ?_
  refine jm_ist_n (Y := YX2_wordsIn) (pc := 1) (i := 2) (ls' := [_, _, _, _]) dX2_wordsIn_1 rfl (Nat.le_of_ble_eq_true rfl) rfl rfl ?_
  refine jm_icN (Y := YX2_wordsIn) (pc := 2) 0 dX2_wordsIn_2 rfl ?_
  refine jm_ist_n (Y := YX2_wordsIn) (pc := 3) (i := 3) (ls' := [_, _, _, _]) dX2_wordsIn_3 rfl (Nat.le_of_ble_eq_true rfl) rfl rfl ?_
  exact m_wordsIn0 r ha w M hR hg c hc (w 3 + 1) 0 (by omega) (by omega)
