/-! the class against the reference: chances, the told; the drawn, the swift -/
theorem m_cl_0 {w : Nat → Nat} (x b : Nat) (wet : Prop) [Decidable wet] : ∀ n c, m_cl (wU w 0 x) b wet n c = m_cl w b wet n c
  | 0, c => rfl
  | n + 1, c => by
    rw [m_cl_s, m_cl_s]
    have e : m_c1 (wU w 0 x) b c wet = m_c1 w b c wet := by
      unfold m_c1 m_pc
      rw [wU_n w x (show 5 + c ≠ 0 by omega), wU_n w x (show 1 ≠ 0 by decide)]
    rw [e]
    exact m_cl_0 x b wet n _
theorem m_mv_0 {w : Nat → Nat} (x : Nat) (kd : Nat) (s : Nat × Nat) (t : Nat) (wet : Prop) [Decidable wet] : m_mv (wU w 0 x) kd s t wet = m_mv w kd s t wet := by
  unfold m_mv m_dr m_to m_b1
  rw [m_cl_0]
  have e : m_pc (wU w 0 x) s.2 wet = m_pc w s.2 wet := by
    unfold m_pc
    rw [wU_n w x (show 5 + s.2 ≠ 0 by omega)]
  rw [e, wU_n w x (show 1 ≠ 0 by decide), wU_n w x (show 2 ≠ 0 by decide)]
theorem m_it_hd {w w' : Nat → Nat} (h : ∀ j, j < 17 → j ≠ 4 → w' j = w j) {s : Nat × Nat} (hc : s.2 < w 2) (h2 : w 2 ≤ 12) (kd t : Nat) (f : Nat → Bool) : ∀ n, m_it w' kd s t f n = m_it w kd s t f n
  | 0 => rfl
  | n + 1 => by
    show m_mv w' kd (m_it w' kd s t f n) (t + n) (f n = true) = m_mv w kd (m_it w kd s t f n) (t + n) (f n = true)
    rw [m_it_hd h hc h2 kd t f n]
    exact m_mv_hd h (Nat.lt_of_lt_of_le (m_it_lt hc n).1 h2) _ _ _
theorem m_sn_hd {w w' : Nat → Nat} (h : ∀ j, j < 17 → w' j = w j) {s : Nat × Nat} (hc : s.2 < w 2) (h2 : w 2 ≤ 12) (kd : Nat) (it : Nat → Int32) (f : Nat) : ∀ n, m_sn w' kd s it f n = m_sn w kd s it f n
  | 0 => rfl
  | n + 1 => by
    show (m_sn w' kd s it f n && decide (m_tl (m_hy w' kd s (n + 1)) = it (f + n))) = (m_sn w kd s it f n && decide (m_tl (m_hy w kd s (n + 1)) = it (f + n)))
    have e : m_hy w' kd s (n + 1) = m_hy w kd s (n + 1) := by
      unfold m_hy
      rw [m_it_hd (fun j hj _ => h j hj) hc h2, h 4 (by omega)]
      congr 1
      funext i
      unfold m_sk
      rw [h 0 (by omega)]
    rw [m_sn_hd h hc h2 kd it f n, e]
theorem m_sn_p {w : Nat → Nat} (hg : rG w) {k : Nat} (hk : k < w 3) (it : Nat → Int32) (f : Nat) : ∀ n, w 4 + n ≤ 19000 → p_sn w k it f n = m_sn w (w (17 + 4 * k)) (m_st w k) it f n
  | 0, _ => rfl
  | n + 1, hn => by
    show (p_sn w k it f n && decide (p_told (p_on w (n + 1)) k = it (f + n))) = (m_sn w _ _ it f n && decide (m_tl (m_hy w _ _ (n + 1)) = it (f + n)))
    rw [m_sn_p hg hk it f n (by omega)]
    have e : p_told (p_on w (n + 1)) k = m_tl (m_hy w (w (17 + 4 * k)) (m_st w k) (n + 1)) := by
      have g := m_wd_g hg hk hn
      have e2 := m_wd_2 hg hk hn
      have b := (m_wd_b hg hk (n + 1)).1
      have g2 := hg.1.2.2.1
      show _ = m_tl (m_wd w k (n + 1))
      unfold p_told m_tl p_wh
      by_cases z : (m_wd w k (n + 1)).1 = 0
      · rw [if_pos z, if_pos (g.mp z), if_pos rfl]
      · have ne : ¬ (nI (p_on w (n + 1) (17 + 4 * k + 2)) = -1000000) := fun q => by
          have q2 := congrArg Int32.toInt q
          rw [jm_tI (by omega), show (-1000000 : Int32).toInt = -1000000 by decide] at q2
          omega
        rw [if_neg z, if_neg (fun q => z (g.mpr q)), if_neg ne, e2]
    rw [e]
theorem m_15 : ∀ x, x < 4 → 15 / 2 ^ x % 2 = 1 := by decide
theorem m_chs {w : Nat → Nat} (hg : rG w) {a : Nat} (ha : a < w 3) (s : Nat) : ∀ n, w 4 + n ≤ 19000 → (∀ j, 0 < j → j < 17 → j ≠ 4 → p_ch w s n j = w j) ∧ p_ch w s n (17 + 4 * a) = w (17 + 4 * a) ∧ m_st (p_ch w s n) a = m_ch w a s n
  | 0, _ => ⟨fun _ _ _ _ => rfl, rfl, rfl⟩
  | n + 1, hn => by
    obtain ⟨i0, i1, i2⟩ := m_chs hg ha s n (by omega)
    have hx : (if s / 2 ^ n % 2 = 1 then 15 else 0) ≤ 15 := by split <;> omega
    have hG := (p_ch_rG hg s n (by omega)).up0 hx
    have e4 := p_ch_4 w s n
    have e3 : wU (p_ch w s n) 0 (if s / 2 ^ n % 2 = 1 then 15 else 0) 3 = w 3 := by rw [wU_n _ _ (by decide), i0 3 (by decide) (by decide) (by decide)]
    obtain ⟨j1, j2⟩ := m_passes hG (a := a) (by rw [e3]; exact ha)
    have o : ∀ j, 0 < j → wU (p_ch w s n) 0 (if s / 2 ^ n % 2 = 1 then 15 else 0) j = p_ch w s n j := fun j hj => wU_n _ _ (by omega)
    refine ⟨fun j h0 hj h4 => ?_, ?_, ?_⟩
    · show p_passes _ j = _
      rw [p_passes_hd _ hj h4, o j h0, i0 j h0 hj h4]
    · exact j1.trans ((o _ (by omega)).trans i1)
    · refine j2.trans ?_
      have es : m_st (wU (p_ch w s n) 0 (if s / 2 ^ n % 2 = 1 then 15 else 0)) a = m_st (p_ch w s n) a := by unfold m_st; rw [o _ (by omega), o _ (by omega)]
      rw [es, o (17 + 4 * a) (by omega), i1, o 4 (by decide), e4, wU_s, m_mv_0]
      have hc : (m_st (p_ch w s n) a).2 < 12 := ((p_ch_rG hg s n (by omega)).2.2.1 a (by have := hg.1.2.2.2.1; omega)).2.2.1
      rw [← m_mv_0 (w 0), m_mv_hd (w := w) (w' := wU (p_ch w s n) 0 (w 0)) (fun j hj h4 => by
        by_cases z : j = 0
        · subst z; rw [wU_s]
        · rw [wU_n _ _ z]; exact i0 j (by omega) hj h4) hc, i2]
      refine m_mv_c ?_
      have q4 : (w 4 + n) % 4 < 4 := Nat.mod_lt _ (by decide)
      rw [decide_eq_true_iff]
      by_cases z : s / 2 ^ n % 2 = 1
      · rw [if_pos z]; exact ⟨fun _ => z, fun _ => m_15 _ q4⟩
      · rw [if_neg z]; exact ⟨fun q => by rw [Nat.zero_div] at q; omega, fun q => absurd q z⟩
