/-! the class: what changes its rivers -/
theorem jm_copyN {sc : jm_S} {Y : jm_Y} {pc : Nat} {ls : jm_Ls} {st : List Value} {M : jm_M} {Q : Option Value → jm_M → Prop} {idx i j n0 n1 : Nat} {a b n : Nat} (d : decode Y.2.1 pc = .ok (.invokestatic idx, 3)) (hl : Cond.methodLink Y.1.cls idx arraycopyName ∈ jm_tb) (hw : Cond.native arraycopyName ∈ jm_tb ∧ Cond.static arraycopyName ∈ jm_tb ∧ Cond.initialized "java/lang/System" ∈ jm_tb) (hi : jm_ar i = some (0, n0)) (hj : jm_ar j = some (0, n1)) (h4 : a + n ≤ n0) (h5 : b + n ≤ n1) (h6 : n0 ≤ 2000) (h7 : n1 ≤ 2000)
    (hfr : 1 ≤ Y.2.2.2.2.1) (hlo : (st.map fun v => v.category).sum + (nativeFrameWords "java/lang/System" "arraycopy" 5 + 11) ≤ Y.2.2.2.2.2) (kk : jm_J sc Y (pc + 3) ls st (jm_sf M j (va_cpy (M i) (M j) a b n)) Q) : jm_J sc Y pc ls (.int (nI n) :: .int (nI b) :: .ref j :: .int (nI a) :: .ref i :: st) M Q := by
  refine jm_copy d hl hw hi hj (nI_pos (by omega)) (nI_pos (by omega)) (nI_pos (by omega)) ?_ ?_ hfr hlo ?_
  · rw [jm_cl (by omega), jm_cl (by omega)]; exact h4
  · rw [jm_cl (by omega), jm_cl (by omega)]; exact h5
  · rw [jm_cl (by omega), jm_cl (by omega), jm_cl (by omega)]; exact kk
theorem va_cpy_in {f g : Nat → Int32} {n x : Nat} (h : x < n) : va_cpy f g 0 0 n x = f x := by
  unfold va_cpy
  rw [if_pos (by omega)]
  congr 1
  omega
def RF (r : Nat) (M M1 : jm_M) : Prop := ∀ i, ¬ (32 + 4 * r ≤ i ∧ i < 36 + 4 * r) → M1 i = M i
def RX (r : Nat) (w : Nat → Nat) (M : jm_M) : Option Value → jm_M → Prop := fun o M1 => o = none ∧ RV M1 r w ∧ RF r M M1
theorem m_become (r r2 : Nat) (ha : r < 28) (hb : r2 < 28) (hne : r ≠ r2) (w : Nat → Nat) (M : jm_M) (hR : RV M r2 w) (g2 : w 2 ≤ 12) (g3 : w 3 ≤ 7) : jm_J none YX2_become 0 [some (.ref (32 + 4 * r)), some (.ref (32 + 4 * r2))] [] M (RX r w M) := by
  refine jm_ald_n (Y := YX2_become) (pc := 0) (i := 0) dX2_become_0 rfl rfl ?_
  refine jm_ald_n (Y := YX2_become) (pc := 1) (i := 1) dX2_become_1 rfl rfl ?_
  refine jm_getE (Y := YX2_become) (pc := 2) dX2_become_2 fw_RX2_9 (by first | exact jm_obR ha | exact jm_obR hb | rfl) (by decide) (by first | exact jm_rf0 | rfl) (hR.1.1) ?_
  refine jm_put (Y := YX2_become) (pc := 5) dX2_become_5 fw_RX2_9 (jm_obR ha) (by decide) jm_rf0 ?_
  refine jm_ald_n (Y := YX2_become) (pc := 8) (i := 0) dX2_become_8 rfl rfl ?_
  refine jm_ald_n (Y := YX2_become) (pc := 9) (i := 1) dX2_become_9 rfl rfl ?_
  refine jm_getE (Y := YX2_become) (pc := 10) dX2_become_10 fw_RX2_15 (by first | exact jm_obR ha | exact jm_obR hb | rfl) (by decide) (by first | exact jm_rf1 | rfl) (((congrFun (jm_sf_n _ _ (by omega)) _).trans hR.1.2.1)) ?_
  refine jm_put (Y := YX2_become) (pc := 13) dX2_become_13 fw_RX2_15 (jm_obR ha) (by decide) jm_rf1 ?_
  rw [jm_sf_s, jm_sfsf]
  refine jm_ald_n (Y := YX2_become) (pc := 16) (i := 0) dX2_become_16 rfl rfl ?_
  refine jm_ald_n (Y := YX2_become) (pc := 17) (i := 1) dX2_become_17 rfl rfl ?_
  refine jm_getE (Y := YX2_become) (pc := 18) dX2_become_18 fw_RX2_18 (by first | exact jm_obR ha | exact jm_obR hb | rfl) (by decide) (by first | exact jm_rf2 | rfl) (((congrFun (jm_sf_n _ _ (by omega)) _).trans hR.1.2.2.1)) ?_
  refine jm_put (Y := YX2_become) (pc := 21) dX2_become_21 fw_RX2_18 (jm_obR ha) (by decide) jm_rf2 ?_
  rw [jm_sf_s, jm_sfsf]
  refine jm_ald_n (Y := YX2_become) (pc := 24) (i := 0) dX2_become_24 rfl rfl ?_
  refine jm_ald_n (Y := YX2_become) (pc := 25) (i := 1) dX2_become_25 rfl rfl ?_
  refine jm_getE (Y := YX2_become) (pc := 26) dX2_become_26 fw_RX2_21 (by first | exact jm_obR ha | exact jm_obR hb | rfl) (by decide) (by first | exact jm_rf3 | rfl) (((congrFun (jm_sf_n _ _ (by omega)) _).trans hR.1.2.2.2.1)) ?_
  refine jm_put (Y := YX2_become) (pc := 29) dX2_become_29 fw_RX2_21 (jm_obR ha) (by decide) jm_rf3 ?_
  rw [jm_sf_s, jm_sfsf]
  refine jm_ald_n (Y := YX2_become) (pc := 32) (i := 0) dX2_become_32 rfl rfl ?_
  refine jm_ald_n (Y := YX2_become) (pc := 33) (i := 1) dX2_become_33 rfl rfl ?_
  refine jm_getE (Y := YX2_become) (pc := 34) dX2_become_34 fw_RX2_24 (by first | exact jm_obR ha | exact jm_obR hb | rfl) (by decide) (by first | exact jm_rf4 | rfl) (((congrFun (jm_sf_n _ _ (by omega)) _).trans hR.1.2.2.2.2)) ?_
  refine jm_put (Y := YX2_become) (pc := 37) dX2_become_37 fw_RX2_24 (jm_obR ha) (by decide) jm_rf4 ?_
  rw [jm_sf_s, jm_sfsf]
  refine jm_ald_n (Y := YX2_become) (pc := 40) (i := 1) dX2_become_40 rfl rfl ?_
  refine jm_getR (Y := YX2_become) (pc := 41) dX2_become_41 fr_RX2_27 (by first | exact jm_obR ha | exact jm_obR hb | rfl) (by decide) (by first | exact jm_rf5 | rfl) ?_
  refine jm_icN (Y := YX2_become) (pc := 44) 0 dX2_become_44 rfl ?_
  refine jm_ald_n (Y := YX2_become) (pc := 45) (i := 0) dX2_become_45 rfl rfl ?_
  refine jm_getR (Y := YX2_become) (pc := 46) dX2_become_46 fr_RX2_27 (by first | exact jm_obR ha | exact jm_obR hb | rfl) (by decide) (by first | exact jm_rf5 | rfl) ?_
  refine jm_icN (Y := YX2_become) (pc := 49) 0 dX2_become_49 rfl ?_
  refine jm_bpN (Y := YX2_become) (pc := 50) 12 dX2_become_50 rfl ?_
  refine jm_copyN (Y := YX2_become) (pc := 52) dX2_become_52 acl_RX2_41 acw (by first | exact jm_arR1 hb | exact jm_arR2 hb | exact jm_arR3 hb) (by first | exact jm_arR1 ha | exact jm_arR2 ha | exact jm_arR3 ha) (by decide) (by decide) (by decide) (by decide) (by decide) (by decide) ?_
  refine jm_ald_n (Y := YX2_become) (pc := 55) (i := 1) dX2_become_55 rfl rfl ?_
  refine jm_getR (Y := YX2_become) (pc := 56) dX2_become_56 fr_RX2_31 (by first | exact jm_obR ha | exact jm_obR hb | rfl) (by decide) (by first | exact jm_rf6 | rfl) ?_
  refine jm_icN (Y := YX2_become) (pc := 59) 0 dX2_become_59 rfl ?_
  refine jm_ald_n (Y := YX2_become) (pc := 60) (i := 0) dX2_become_60 rfl rfl ?_
  refine jm_getR (Y := YX2_become) (pc := 61) dX2_become_61 fr_RX2_31 (by first | exact jm_obR ha | exact jm_obR hb | rfl) (by decide) (by first | exact jm_rf6 | rfl) ?_
  refine jm_icN (Y := YX2_become) (pc := 64) 0 dX2_become_64 rfl ?_
  refine jm_bpN (Y := YX2_become) (pc := 65) 7 dX2_become_65 rfl ?_
  refine jm_copyN (Y := YX2_become) (pc := 67) dX2_become_67 acl_RX2_41 acw (by first | exact jm_arR1 hb | exact jm_arR2 hb | exact jm_arR3 hb) (by first | exact jm_arR1 ha | exact jm_arR2 ha | exact jm_arR3 ha) (by decide) (by decide) (by decide) (by decide) (by decide) (by decide) ?_
  refine jm_ald_n (Y := YX2_become) (pc := 70) (i := 1) dX2_become_70 rfl rfl ?_
  refine jm_getR (Y := YX2_become) (pc := 71) dX2_become_71 fr_RX2_34 (by first | exact jm_obR ha | exact jm_obR hb | rfl) (by decide) (by first | exact jm_rf7 | rfl) ?_
  refine jm_icN (Y := YX2_become) (pc := 74) 0 dX2_become_74 rfl ?_
  refine jm_ald_n (Y := YX2_become) (pc := 75) (i := 0) dX2_become_75 rfl rfl ?_
  refine jm_getR (Y := YX2_become) (pc := 76) dX2_become_76 fr_RX2_34 (by first | exact jm_obR ha | exact jm_obR hb | rfl) (by decide) (by first | exact jm_rf7 | rfl) ?_
  refine jm_icN (Y := YX2_become) (pc := 79) 0 dX2_become_79 rfl ?_
  refine jm_bpN (Y := YX2_become) (pc := 80) 7 dX2_become_80 rfl ?_
  refine jm_copyN (Y := YX2_become) (pc := 82) dX2_become_82 acl_RX2_41 acw (by first | exact jm_arR1 hb | exact jm_arR2 hb | exact jm_arR3 hb) (by first | exact jm_arR1 ha | exact jm_arR2 ha | exact jm_arR3 ha) (by decide) (by decide) (by decide) (by decide) (by decide) (by decide) ?_
  refine jm_retv (Y := YX2_become) (pc := 85) (st := []) dX2_become_85 rfl ?_
  refine ⟨rfl, ⟨⟨?_, ?_, ?_, ?_, ?_⟩, fun c hc => ?_, fun a hk => ⟨?_, ?_⟩⟩, fun i hi => ?_⟩
  · rw [jm_sf_n _ _ (by omega), jm_sf_n _ _ (by omega), jm_sf_n _ _ (by omega), jm_sf_s]; rfl
  · rw [jm_sf_n _ _ (by omega), jm_sf_n _ _ (by omega), jm_sf_n _ _ (by omega), jm_sf_s]; rfl
  · rw [jm_sf_n _ _ (by omega), jm_sf_n _ _ (by omega), jm_sf_n _ _ (by omega), jm_sf_s]; rfl
  · rw [jm_sf_n _ _ (by omega), jm_sf_n _ _ (by omega), jm_sf_n _ _ (by omega), jm_sf_s]; rfl
  · rw [jm_sf_n _ _ (by omega), jm_sf_n _ _ (by omega), jm_sf_n _ _ (by omega), jm_sf_s]; rfl
  · rw [jm_sf_n _ _ (by omega), jm_sf_n _ _ (by omega), jm_sf_s, va_cpy_in (by omega), jm_sf_n _ _ (by omega)]; exact hR.2.1 c hc
  · rw [jm_sf_n _ _ (by omega), jm_sf_s, va_cpy_in (by omega), jm_sf_n _ _ (by omega), jm_sf_n _ _ (by omega)]; exact (hR.2.2 a hk).1
  · rw [jm_sf_s, va_cpy_in (by omega), jm_sf_n _ _ (by omega), jm_sf_n _ _ (by omega), jm_sf_n _ _ (by omega)]; exact (hR.2.2 a hk).2
  · rw [jm_sf_n _ _ (by omega), jm_sf_n _ _ (by omega), jm_sf_n _ _ (by omega), jm_sf_n _ _ (by omega)]
theorem m_pn_o {w : Nat → Nat} (hg : rG w) {a n : Nat} (ha : a < w 3) (hn : n + 1 ≤ w 3) (h : a ≠ n) : m_st (p_pn w (n + 1)) a = m_st (p_pn w n) a := by
  obtain ⟨-, b1, b2⟩ := m_pn hg ha (n + 1) hn
  obtain ⟨-, c1, c2⟩ := m_pn hg ha n (by omega)
  by_cases q : a < n
  · rw [b2 (by omega), c2 q]
  · rw [(b1 (by omega)).1, (c1 (by omega)).1]
theorem m_pn_n {w : Nat → Nat} (hg : rG w) {n : Nat} (hn : n < w 3) {p : Prop} [Decidable p] (hp : p ↔ w 0 / 2 ^ (w 4 % 4) % 2 = 1) : m_mv (p_pn w n) (p_pn w n (17 + 4 * n)) (p_pn w n (17 + 4 * n + 1), p_pn w n (17 + 4 * n + 2)) (p_pn w n 4) p = m_st (p_pn w (n + 1)) n := by
  obtain ⟨-, -, b2⟩ := m_pn hg hn (n + 1) (by omega)
  obtain ⟨c0, c1, -⟩ := m_pn hg hn n (by omega)
  rw [b2 (by omega), c0, p_pn_hd w (show 4 < 17 by decide) n]
  have e := (c1 (Nat.le_refl _)).1
  have hc : (p_pn w n (17 + 4 * n + 1), p_pn w n (17 + 4 * n + 2)).2 < 12 := ((p_pn_rG hg n (by omega)).2.2.1 n (by have := hg.1.2.2.2.1; omega)).2.2.1
  rw [m_mv_hd (w := w) (w' := p_pn w n) (fun j hj _ => p_pn_hd w hj n) hc]
  rw [show (p_pn w n (17 + 4 * n + 1), p_pn w n (17 + 4 * n + 2)) = m_st w n from e]
  exact m_mv_c hp
theorem RV.fld {M : jm_M} {r : Nat} {w : Nat → Nat} (h : RV M r w) {f : Nat → Int32} : M (32 + 4 * r) 4 = nI (w 4) := h.1.2.2.2.2
/-- the row of a river after n of its words have moved -/
theorem RV_pn {M : jm_M} {r : Nat} {w : Nat → Nat} (hg : rG w) {n : Nat} (hn : n < w 3) (hR : RV M r (p_pn w n)) {v : Int32} (hv : v = nI (16 * (m_st (p_pn w (n + 1)) n).1 + (m_st (p_pn w (n + 1)) n).2)) : RV (jm_sf M (35 + 4 * r) (upd (M (35 + 4 * r)) n v)) r (p_pn w (n + 1)) := by
  have hd : ∀ j, j < 17 → p_pn w (n + 1) j = p_pn w n j := fun j hj => by rw [p_pn_hd w hj, p_pn_hd w hj]
  have h3 : p_pn w n 3 = w 3 := p_pn_hd w (by omega) n
  have h2 : p_pn w n 2 = w 2 := p_pn_hd w (by omega) n
  have g2 := hg.1.2.2.1
  obtain ⟨⟨f0, f1, f2, f3, f4⟩, a, b⟩ := hR
  refine ⟨⟨?_, ?_, ?_, ?_, ?_⟩, fun c hc => ?_, fun k hk => ?_⟩
  · rw [jm_sf_n _ _ (by omega), hd _ (by omega)]; exact f0
  · rw [jm_sf_n _ _ (by omega), hd _ (by omega)]; exact f1
  · rw [jm_sf_n _ _ (by omega), hd _ (by omega)]; exact f2
  · rw [jm_sf_n _ _ (by omega), hd _ (by omega)]; exact f3
  · rw [jm_sf_n _ _ (by omega), hd _ (by omega)]; exact f4
  · rw [hd 2 (by omega)] at hc
    rw [jm_sf_n _ _ (by omega), hd _ (by omega)]; exact a c hc
  · rw [hd 3 (by omega), h3] at hk
    obtain ⟨k1, -, -⟩ := m_pn hg hk (n + 1) (by omega)
    obtain ⟨l1, -, -⟩ := m_pn hg hk n (by omega)
    obtain ⟨b1, b2⟩ := b k (by omega)
    refine ⟨by rw [jm_sf_n _ _ (by omega), k1, ← l1]; exact b1, ?_⟩
    rw [jm_sf_s]
    by_cases q : k = n
    · subst q; rw [upd_s, hv]; rfl
    · rw [upd_n _ _ q, b2]
      have e := m_pn_o hg hk (show n + 1 ≤ w 3 by omega) q
      have e1 : p_pn w (n + 1) (17 + 4 * k + 1) = p_pn w n (17 + 4 * k + 1) := congrArg Prod.fst e
      have e2 : p_pn w (n + 1) (17 + 4 * k + 2) = p_pn w n (17 + 4 * k + 2) := congrArg Prod.snd e
      rw [e1, e2]
theorem RV_4 {M : jm_M} {r : Nat} {w : Nat → Nat} (hR : RV M r w) (x : Nat) : RV (jm_sf M (32 + 4 * r) (upd (M (32 + 4 * r)) 4 (nI x))) r (wU w 4 x) := by
  obtain ⟨⟨f0, f1, f2, f3, f4⟩, a, b⟩ := hR
  refine ⟨⟨?_, ?_, ?_, ?_, ?_⟩, fun c hc => ?_, fun k hk => ?_⟩
  · rw [jm_sf_s, upd_n _ _ (by decide), wU_n _ _ (by decide)]; exact f0
  · rw [jm_sf_s, upd_n _ _ (by decide), wU_n _ _ (by decide)]; exact f1
  · rw [jm_sf_s, upd_n _ _ (by decide), wU_n _ _ (by decide)]; exact f2
  · rw [jm_sf_s, upd_n _ _ (by decide), wU_n _ _ (by decide)]; exact f3
  · rw [jm_sf_s, upd_s, wU_s]
  · rw [wU_n _ _ (by decide)] at hc
    rw [jm_sf_n _ _ (by omega), wU_n _ _ (by omega)]; exact a c hc
  · rw [wU_n _ _ (by decide)] at hk
    rw [jm_sf_n _ _ (by omega), jm_sf_n _ _ (by omega), wU_n _ _ (by omega), wU_n _ _ (by omega), wU_n _ _ (by omega)]; exact b k hk
theorem m_passMinute0 (r : Nat) (ha : r < 28) (w : Nat → Nat) (hg : rG w) : ∀ (m : Nat) (n : Nat) (M : jm_M), n ≤ w 3 → RV M r (p_pn w n) → w 3 - n < m → jm_J none YX2_passMinute 11 [some (.ref (32 + 4 * r)), some (.int (jm_b (w 0 / 2 ^ (w 4 % 4) % 2 = 1))), some (.int (nI n))] [] M (RX r (p_passes w) M) := by
  intro m
  induction m with
  | zero => intros; omega
  | succ m ih =>
    intro n M hn hR hmm
    have hG := p_pn_rG hg n hn
    have hb := hG.hb
    have e3 : p_pn w n 3 = w 3 := p_pn_hd w (by omega) n
    have e2 : p_pn w n 2 = w 2 := p_pn_hd w (by omega) n
    have g2 := hg.1.2.2.1
    have g3 := hg.1.2.2.2.1
    have g4 := hG.1.2.2.2.2
    refine jm_ild_n (Y := YX2_passMinute) (pc := 11) (i := 2) dX2_passMinute_11 rfl rfl ?_
    refine jm_ald_n (Y := YX2_passMinute) (pc := 12) (i := 0) dX2_passMinute_12 rfl rfl ?_
    first | refine jm_getE (Y := YX2_passMinute) (pc := 13) dX2_passMinute_13 fw_RX2_15 (by first | exact jm_obR ha | exact jm_obR hb | rfl) (by decide) (by first | exact jm_rf1 | rfl) (by assumption) ?_ | refine jm_getE (Y := YX2_passMinute) (pc := 13) dX2_passMinute_13 fw_RX2_15 (by first | exact jm_obR ha | exact jm_obR hb | rfl) (by decide) (by first | exact jm_rf1 | rfl) (by exact hR.1.1) ?_ | refine jm_getE (Y := YX2_passMinute) (pc := 13) dX2_passMinute_13 fw_RX2_15 (by first | exact jm_obR ha | exact jm_obR hb | rfl) (by decide) (by first | exact jm_rf1 | rfl) (by exact hR.1.2.1) ?_ | refine jm_getE (Y := YX2_passMinute) (pc := 13) dX2_passMinute_13 fw_RX2_15 (by first | exact jm_obR ha | exact jm_obR hb | rfl) (by decide) (by first | exact jm_rf1 | rfl) (by exact hR.1.2.2.1) ?_ | refine jm_getE (Y := YX2_passMinute) (pc := 13) dX2_passMinute_13 fw_RX2_15 (by first | exact jm_obR ha | exact jm_obR hb | rfl) (by decide) (by first | exact jm_rf1 | rfl) (by exact hR.1.2.2.2.1) ?_ | refine jm_getE (Y := YX2_passMinute) (pc := 13) dX2_passMinute_13 fw_RX2_15 (by first | exact jm_obR ha | exact jm_obR hb | rfl) (by decide) (by first | exact jm_rf1 | rfl) (by exact hR.1.2.2.2.2) ?_ | refine jm_getE (Y := YX2_passMinute) (pc := 13) dX2_passMinute_13 fw_RX2_15 (by first | exact jm_obR ha | exact jm_obR hb | rfl) (by decide) (by first | exact jm_rf1 | rfl) (by exact hR.2.1 _ (by omega)) ?_ | refine jm_getE (Y := YX2_passMinute) (pc := 13) dX2_passMinute_13 fw_RX2_15 (by first | exact jm_obR ha | exact jm_obR hb | rfl) (by decide) (by first | exact jm_rf1 | rfl) (by exact (hR.2.2 _ (by omega)).1) ?_ | refine jm_getE (Y := YX2_passMinute) (pc := 13) dX2_passMinute_13 fw_RX2_15 (by first | exact jm_obR ha | exact jm_obR hb | rfl) (by decide) (by first | exact jm_rf1 | rfl) (by exact (hR.2.2 _ (by omega)).2) ?_ | refine jm_getI (Y := YX2_passMinute) (pc := 13) dX2_passMinute_13 fw_RX2_15.F (by first | exact jm_obR ha | exact jm_obR hb | rfl) (by decide) (by first | exact jm_rf1 | rfl) ?_ | fail
    refine jm_icmp_geN (Y := YX2_passMinute) (pc := 16) dX2_passMinute_16 rfl (by first | omega | exact jm_lt hb _) (by first | omega | exact jm_lt hb _) (fun h_16 => ?_) (fun h_16 => ?_)
    · refine jm_ald_n (Y := YX2_passMinute) (pc := 52) (i := 0) dX2_passMinute_52 rfl rfl ?_
      refine jm_dup (Y := YX2_passMinute) (pc := 53) dX2_passMinute_53 rfl ?_
      first | refine jm_getE (Y := YX2_passMinute) (pc := 54) dX2_passMinute_54 fw_RX2_24 (by first | exact jm_obR ha | exact jm_obR hb | rfl) (by decide) (by first | exact jm_rf4 | rfl) (by assumption) ?_ | refine jm_getE (Y := YX2_passMinute) (pc := 54) dX2_passMinute_54 fw_RX2_24 (by first | exact jm_obR ha | exact jm_obR hb | rfl) (by decide) (by first | exact jm_rf4 | rfl) (by exact hR.1.1) ?_ | refine jm_getE (Y := YX2_passMinute) (pc := 54) dX2_passMinute_54 fw_RX2_24 (by first | exact jm_obR ha | exact jm_obR hb | rfl) (by decide) (by first | exact jm_rf4 | rfl) (by exact hR.1.2.1) ?_ | refine jm_getE (Y := YX2_passMinute) (pc := 54) dX2_passMinute_54 fw_RX2_24 (by first | exact jm_obR ha | exact jm_obR hb | rfl) (by decide) (by first | exact jm_rf4 | rfl) (by exact hR.1.2.2.1) ?_ | refine jm_getE (Y := YX2_passMinute) (pc := 54) dX2_passMinute_54 fw_RX2_24 (by first | exact jm_obR ha | exact jm_obR hb | rfl) (by decide) (by first | exact jm_rf4 | rfl) (by exact hR.1.2.2.2.1) ?_ | refine jm_getE (Y := YX2_passMinute) (pc := 54) dX2_passMinute_54 fw_RX2_24 (by first | exact jm_obR ha | exact jm_obR hb | rfl) (by decide) (by first | exact jm_rf4 | rfl) (by exact hR.1.2.2.2.2) ?_ | refine jm_getE (Y := YX2_passMinute) (pc := 54) dX2_passMinute_54 fw_RX2_24 (by first | exact jm_obR ha | exact jm_obR hb | rfl) (by decide) (by first | exact jm_rf4 | rfl) (by exact hR.2.1 _ (by omega)) ?_ | refine jm_getE (Y := YX2_passMinute) (pc := 54) dX2_passMinute_54 fw_RX2_24 (by first | exact jm_obR ha | exact jm_obR hb | rfl) (by decide) (by first | exact jm_rf4 | rfl) (by exact (hR.2.2 _ (by omega)).1) ?_ | refine jm_getE (Y := YX2_passMinute) (pc := 54) dX2_passMinute_54 fw_RX2_24 (by first | exact jm_obR ha | exact jm_obR hb | rfl) (by decide) (by first | exact jm_rf4 | rfl) (by exact (hR.2.2 _ (by omega)).2) ?_ | refine jm_getI (Y := YX2_passMinute) (pc := 54) dX2_passMinute_54 fw_RX2_24.F (by first | exact jm_obR ha | exact jm_obR hb | rfl) (by decide) (by first | exact jm_rf4 | rfl) ?_ | fail
      refine jm_icN (Y := YX2_passMinute) (pc := 57) 1 dX2_passMinute_57 rfl ?_
      refine jm_addN (Y := YX2_passMinute) (pc := 58) dX2_passMinute_58 ?_
      refine jm_put (Y := YX2_passMinute) (pc := 59) dX2_passMinute_59 fw_RX2_24 (by first | exact jm_obR ha | exact jm_obR hb | rfl) (by decide) (by first | exact jm_rf4 | rfl) ?_
      refine jm_retv (Y := YX2_passMinute) (pc := 62) (st := []) dX2_passMinute_62 rfl ?_
      have en : n = w 3 := by omega
      subst en
      exact ⟨rfl, RV_4 hR _, fun i hi => by rw [jm_sf_n _ _ (by omega)]⟩
    · have q0 := hG.2.2.1 n (by omega)
      have q1 := hG.2.2.2.2 n (by omega)
      refine jm_ald_n (Y := YX2_passMinute) (pc := 19) (i := 0) dX2_passMinute_19 rfl rfl ?_
      refine jm_getR (Y := YX2_passMinute) (pc := 20) dX2_passMinute_20 fr_RX2_34 (by first | exact jm_obR ha | exact jm_obR hb | rfl) (by decide) (by first | exact jm_rf7 | rfl) ?_
      refine jm_ild_n (Y := YX2_passMinute) (pc := 23) (i := 2) dX2_passMinute_23 rfl rfl ?_
      refine jm_ald_n (Y := YX2_passMinute) (pc := 24) (i := 0) dX2_passMinute_24 rfl rfl ?_
      refine jm_ald_n (Y := YX2_passMinute) (pc := 25) (i := 0) dX2_passMinute_25 rfl rfl ?_
      refine jm_getR (Y := YX2_passMinute) (pc := 26) dX2_passMinute_26 fr_RX2_31 (by first | exact jm_obR ha | exact jm_obR hb | rfl) (by decide) (by first | exact jm_rf6 | rfl) ?_
      refine jm_ild_n (Y := YX2_passMinute) (pc := 29) (i := 2) dX2_passMinute_29 rfl rfl ?_
      refine jm_ialN (Y := YX2_passMinute) (pc := 30) dX2_passMinute_30 (by first | assumption | exact jm_arR1 ha | exact jm_arR2 ha | exact jm_arR3 ha | exact jm_arR1 hb | exact jm_arR2 hb | exact jm_arR3 hb | rfl) (by first | omega | exact jm_lt hb _) (by first | assumption | exact hR.1.1 | exact hR.1.2.1 | exact hR.1.2.2.1 | exact hR.1.2.2.2.1 | exact hR.1.2.2.2.2 | exact hR.2.1 _ (by omega) | exact (hR.2.2 _ (by omega)).1 | exact (hR.2.2 _ (by omega)).2 | rfl) ?_
      refine jm_ald_n (Y := YX2_passMinute) (pc := 31) (i := 0) dX2_passMinute_31 rfl rfl ?_
      refine jm_getR (Y := YX2_passMinute) (pc := 32) dX2_passMinute_32 fr_RX2_34 (by first | exact jm_obR ha | exact jm_obR hb | rfl) (by decide) (by first | exact jm_rf7 | rfl) ?_
      refine jm_ild_n (Y := YX2_passMinute) (pc := 35) (i := 2) dX2_passMinute_35 rfl rfl ?_
      refine jm_ialN (Y := YX2_passMinute) (pc := 36) dX2_passMinute_36 (by first | assumption | exact jm_arR1 ha | exact jm_arR2 ha | exact jm_arR3 ha | exact jm_arR1 hb | exact jm_arR2 hb | exact jm_arR3 hb | rfl) (by first | omega | exact jm_lt hb _) (by first | assumption | exact hR.1.1 | exact hR.1.2.1 | exact hR.1.2.2.1 | exact hR.1.2.2.2.1 | exact hR.1.2.2.2.2 | exact hR.2.1 _ (by omega) | exact (hR.2.2 _ (by omega)).1 | exact (hR.2.2 _ (by omega)).2 | rfl) ?_
      refine jm_ald_n (Y := YX2_passMinute) (pc := 37) (i := 0) dX2_passMinute_37 rfl rfl ?_
      first | refine jm_getE (Y := YX2_passMinute) (pc := 38) dX2_passMinute_38 fw_RX2_24 (by first | exact jm_obR ha | exact jm_obR hb | rfl) (by decide) (by first | exact jm_rf4 | rfl) (by assumption) ?_ | refine jm_getE (Y := YX2_passMinute) (pc := 38) dX2_passMinute_38 fw_RX2_24 (by first | exact jm_obR ha | exact jm_obR hb | rfl) (by decide) (by first | exact jm_rf4 | rfl) (by exact hR.1.1) ?_ | refine jm_getE (Y := YX2_passMinute) (pc := 38) dX2_passMinute_38 fw_RX2_24 (by first | exact jm_obR ha | exact jm_obR hb | rfl) (by decide) (by first | exact jm_rf4 | rfl) (by exact hR.1.2.1) ?_ | refine jm_getE (Y := YX2_passMinute) (pc := 38) dX2_passMinute_38 fw_RX2_24 (by first | exact jm_obR ha | exact jm_obR hb | rfl) (by decide) (by first | exact jm_rf4 | rfl) (by exact hR.1.2.2.1) ?_ | refine jm_getE (Y := YX2_passMinute) (pc := 38) dX2_passMinute_38 fw_RX2_24 (by first | exact jm_obR ha | exact jm_obR hb | rfl) (by decide) (by first | exact jm_rf4 | rfl) (by exact hR.1.2.2.2.1) ?_ | refine jm_getE (Y := YX2_passMinute) (pc := 38) dX2_passMinute_38 fw_RX2_24 (by first | exact jm_obR ha | exact jm_obR hb | rfl) (by decide) (by first | exact jm_rf4 | rfl) (by exact hR.1.2.2.2.2) ?_ | refine jm_getE (Y := YX2_passMinute) (pc := 38) dX2_passMinute_38 fw_RX2_24 (by first | exact jm_obR ha | exact jm_obR hb | rfl) (by decide) (by first | exact jm_rf4 | rfl) (by exact hR.2.1 _ (by omega)) ?_ | refine jm_getE (Y := YX2_passMinute) (pc := 38) dX2_passMinute_38 fw_RX2_24 (by first | exact jm_obR ha | exact jm_obR hb | rfl) (by decide) (by first | exact jm_rf4 | rfl) (by exact (hR.2.2 _ (by omega)).1) ?_ | refine jm_getE (Y := YX2_passMinute) (pc := 38) dX2_passMinute_38 fw_RX2_24 (by first | exact jm_obR ha | exact jm_obR hb | rfl) (by decide) (by first | exact jm_rf4 | rfl) (by exact (hR.2.2 _ (by omega)).2) ?_ | refine jm_getI (Y := YX2_passMinute) (pc := 38) dX2_passMinute_38 fw_RX2_24.F (by first | exact jm_obR ha | exact jm_obR hb | rfl) (by decide) (by first | exact jm_rf4 | rfl) ?_ | fail
      refine jm_ild_n (Y := YX2_passMinute) (pc := 41) (i := 1) dX2_passMinute_41 rfl rfl ?_
      refine jm_V4ie (Y := YX2_passMinute) (pc := 42) dX2_passMinute_42 lk_RX2_63 ⟨_, rfl⟩ (by first | exact jm_obR ha | exact jm_obR hb | rfl) rfl rfl rfl rfl (by decide) (Nat.le_of_ble_eq_true rfl) ⟨by decide, by decide⟩ (m_moved r ha (p_pn w n) _ hR hG _ _ _ _ (by omega) (by omega) (by omega) (by omega) (by omega) _) ?_
      refine jm_iasN (Y := YX2_passMinute) (pc := 45) dX2_passMinute_45 (by first | assumption | exact jm_arR1 ha | exact jm_arR2 ha | exact jm_arR3 ha | exact jm_arR1 hb | exact jm_arR2 hb | exact jm_arR3 hb | rfl) (by first | omega | exact jm_lt hb _) ?_
      refine jm_incN (Y := YX2_passMinute) (pc := 46) (m := 1) (ls' := [_, _, _]) dX2_passMinute_46 rfl rfl rfl rfl ?_
      refine jm_goto (Y := YX2_passMinute) (pc := 49) dX2_passMinute_49 rfl ?_
      apply jm_wk (ih (n + 1) _ (by omega) (RV_pn hg (by omega) hR (by rw [m_pn_n hg (by omega) Iff.rfl])) (by omega)) (fun o M1 q => ⟨q.1, q.2.1, fun i hi => by rw [q.2.2 i hi, jm_sf_n _ _ (by omega)]⟩)
theorem m_passMinute (r : Nat) (ha : r < 28) (w : Nat → Nat) (M : jm_M) (hR : RV M r w) (hg : rG w)  : jm_J none YX2_passMinute 0 [some (.ref (32 + 4 * r)), none, none] [] M (RX r (p_passes w) M) := by
  have hb := hg.hb
  have g0 := hg.1.1
  have g1 := hg.1.2.1
  have g2 := hg.1.2.2.1
  have g3 := hg.1.2.2.2.1
  have g4 := hg.1.2.2.2.2
  refine jm_ald_n (Y := YX2_passMinute) (pc := 0) (i := 0) dX2_passMinute_0 rfl rfl ?_
  refine jm_ald_n (Y := YX2_passMinute) (pc := 1) (i := 0) dX2_passMinute_1 rfl rfl ?_
  first | refine jm_getE (Y := YX2_passMinute) (pc := 2) dX2_passMinute_2 fw_RX2_24 (by first | exact jm_obR ha | exact jm_obR hb | rfl) (by decide) (by first | exact jm_rf4 | rfl) (by assumption) ?_ | refine jm_getE (Y := YX2_passMinute) (pc := 2) dX2_passMinute_2 fw_RX2_24 (by first | exact jm_obR ha | exact jm_obR hb | rfl) (by decide) (by first | exact jm_rf4 | rfl) (by exact hR.1.1) ?_ | refine jm_getE (Y := YX2_passMinute) (pc := 2) dX2_passMinute_2 fw_RX2_24 (by first | exact jm_obR ha | exact jm_obR hb | rfl) (by decide) (by first | exact jm_rf4 | rfl) (by exact hR.1.2.1) ?_ | refine jm_getE (Y := YX2_passMinute) (pc := 2) dX2_passMinute_2 fw_RX2_24 (by first | exact jm_obR ha | exact jm_obR hb | rfl) (by decide) (by first | exact jm_rf4 | rfl) (by exact hR.1.2.2.1) ?_ | refine jm_getE (Y := YX2_passMinute) (pc := 2) dX2_passMinute_2 fw_RX2_24 (by first | exact jm_obR ha | exact jm_obR hb | rfl) (by decide) (by first | exact jm_rf4 | rfl) (by exact hR.1.2.2.2.1) ?_ | refine jm_getE (Y := YX2_passMinute) (pc := 2) dX2_passMinute_2 fw_RX2_24 (by first | exact jm_obR ha | exact jm_obR hb | rfl) (by decide) (by first | exact jm_rf4 | rfl) (by exact hR.1.2.2.2.2) ?_ | refine jm_getE (Y := YX2_passMinute) (pc := 2) dX2_passMinute_2 fw_RX2_24 (by first | exact jm_obR ha | exact jm_obR hb | rfl) (by decide) (by first | exact jm_rf4 | rfl) (by exact hR.2.1 _ (by omega)) ?_ | refine jm_getE (Y := YX2_passMinute) (pc := 2) dX2_passMinute_2 fw_RX2_24 (by first | exact jm_obR ha | exact jm_obR hb | rfl) (by decide) (by first | exact jm_rf4 | rfl) (by exact (hR.2.2 _ (by omega)).1) ?_ | refine jm_getE (Y := YX2_passMinute) (pc := 2) dX2_passMinute_2 fw_RX2_24 (by first | exact jm_obR ha | exact jm_obR hb | rfl) (by decide) (by first | exact jm_rf4 | rfl) (by exact (hR.2.2 _ (by omega)).2) ?_ | refine jm_getI (Y := YX2_passMinute) (pc := 2) dX2_passMinute_2 fw_RX2_24.F (by first | exact jm_obR ha | exact jm_obR hb | rfl) (by decide) (by first | exact jm_rf4 | rfl) ?_ | fail
  refine jm_V1ie (Y := YX2_passMinute) (pc := 5) dX2_passMinute_5 lk_RX2_60 ⟨_, rfl⟩ (by first | exact jm_obR ha | exact jm_obR hb | rfl) rfl (by decide) (Nat.le_of_ble_eq_true rfl) ⟨by decide, by decide⟩ (m_isWet r ha w _ hR hg _ (by omega)) ?_
  refine jm_ist_n (Y := YX2_passMinute) (pc := 8) (i := 1) (ls' := [_, _, _]) dX2_passMinute_8 rfl (Nat.le_of_ble_eq_true rfl) rfl rfl ?_
  refine jm_icN (Y := YX2_passMinute) (pc := 9) 0 dX2_passMinute_9 rfl ?_
  refine jm_ist_n (Y := YX2_passMinute) (pc := 10) (i := 2) (ls' := [_, _, _]) dX2_passMinute_10 rfl (Nat.le_of_ble_eq_true rfl) rfl rfl ?_
  exact m_passMinute0 r ha w hg (w 3 + 1) 0 M (by omega) hR (by omega)
