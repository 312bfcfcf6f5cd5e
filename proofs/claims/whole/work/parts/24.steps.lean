/-! the two ways of a minute are one -/
theorem m_pc_e (w : Nat → Nat) (c : Nat) : m_pc w c (w 0 / 2 ^ (w 4 % 4) % 2 = 1) = p_pace w c := rfl
theorem m_c1_e (w : Nat → Nat) (b c : Nat) : m_c1 w b c (w 0 / 2 ^ (w 4 % 4) % 2 = 1) = p_up w c b := by
  unfold m_c1 p_up
  rw [m_pc_e]
  split <;> split <;> omega
theorem m_goes {w : Nat → Nat} (hg : rG w) {a : Nat} (ha : a < w 3) (h0 : w (17 + 4 * a + 3) = 0) : m_mv w (w (17 + 4 * a)) (w (17 + 4 * a + 1), w (17 + 4 * a + 2)) (w 4) (w 0 / 2 ^ (w 4 % 4) % 2 = 1) = (p_sz w a, p_cl w a) := by
  have q := hg.2.2.2.2 a ha
  have k5 := (hg.2.2.1 a (by have := hg.1.2.2.2.1; omega)).1
  have hb : ¬ w (17 + 4 * a + 1) = 0 := fun z => by rw [if_pos z] at q; omega
  unfold m_mv p_sz p_cl p_half
  rw [if_neg hb]
  by_cases h4 : 4 ≤ w (17 + 4 * a)
  · rw [if_pos h4]
    have hl1 := p_up_le w (w (17 + 4 * a + 2)) (w (17 + 4 * a + 1))
    have hl2 := p_up_le w (p_up w (w (17 + 4 * a + 2)) (w (17 + 4 * a + 1))) (w (17 + 4 * a + 1))
    have eto : p_to w a = m_cl w (w (17 + 4 * a + 1)) (w 0 / 2 ^ (w 4 % 4) % 2 = 1) (if w (17 + 4 * a) = 5 ∧ w 4 % 2 = 0 then 2 else 1) (w (17 + 4 * a + 2)) := by
      unfold p_to
      rw [if_neg (by omega), if_neg (by omega)]
      by_cases h5 : w (17 + 4 * a) = 4
      · rw [if_pos h5, if_neg (by omega)]; exact (m_c1_e _ _ _).symm
      · rw [if_neg h5]
        by_cases h6 : w 4 % 2 = 0
        · rw [if_pos h6, if_pos (by omega)]
          show _ = m_c1 _ _ (m_c1 _ _ _ _) _
          rw [m_c1_e, m_c1_e]
        · rw [if_neg h6, if_neg (by omega)]; exact (m_c1_e _ _ _).symm
    have hle : p_to w a ≤ w (17 + 4 * a + 2) := by rw [eto]; exact m_cl_le _ _ _ _ _
    show (w (17 + 4 * a + 1), m_cl _ _ _ _ _) = _
    rw [← eto, if_neg (by omega), if_neg (by omega), if_neg (by omega), if_neg (by omega)]
  · rw [if_neg h4]
    have eto : p_to w a = m_to w (w (17 + 4 * a)) (w (17 + 4 * a + 2)) (w 0 / 2 ^ (w 4 % 4) % 2 = 1) := by
      unfold p_to m_to
      rw [m_pc_e]
      by_cases h3 : w (17 + 4 * a) = 3
      · rw [if_neg (by omega), if_pos h3]
        by_cases h1 : 1 < p_pace w (w (17 + 4 * a + 2))
        · rw [if_pos h1, if_pos ⟨h3, h1⟩]
        · rw [if_neg h1, if_neg (fun z => h1 z.2)]
      · rw [if_pos (by omega), if_neg (fun z => h3 z.1)]
    unfold m_dr
    rw [← eto]
    by_cases h2 : w 2 ≤ p_to w a
    · rw [if_pos h2, if_pos h2, if_pos h2]
    · rw [if_neg h2, if_neg h2, if_neg h2]
      unfold m_b2 m_b1
      refine Prod.ext ?_ rfl
      dsimp only
      (repeat' split) <;> omega
theorem m_pc_hd {w w' : Nat → Nat} (h : ∀ j, j < 17 → j ≠ 4 → w' j = w j) {c : Nat} (hc : c < 12) (wet : Prop) [Decidable wet] : m_pc w' c wet = m_pc w c wet := by
  unfold m_pc
  rw [h (5 + c) (by omega) (by omega)]
theorem m_c1_hd {w w' : Nat → Nat} (h : ∀ j, j < 17 → j ≠ 4 → w' j = w j) {c : Nat} (hc : c < 12) (b : Nat) (wet : Prop) [Decidable wet] : m_c1 w' b c wet = m_c1 w b c wet := by
  unfold m_c1
  rw [m_pc_hd h hc, h 1 (by omega) (by omega)]
theorem m_cl_hd {w w' : Nat → Nat} (h : ∀ j, j < 17 → j ≠ 4 → w' j = w j) (b : Nat) (wet : Prop) [Decidable wet] : ∀ n c, c < 12 → m_cl w' b wet n c = m_cl w b wet n c
  | 0, c, hc => rfl
  | n + 1, c, hc => by
    rw [m_cl_s, m_cl_s, m_c1_hd h hc]
    exact m_cl_hd h b wet n _ (Nat.lt_of_le_of_lt (m_c1_le _ _ _ _) hc)
theorem m_mv_hd {w w' : Nat → Nat} (h : ∀ j, j < 17 → j ≠ 4 → w' j = w j) {s : Nat × Nat} (hc : s.2 < 12) (kd t : Nat) (wet : Prop) [Decidable wet] : m_mv w' kd s t wet = m_mv w kd s t wet := by
  unfold m_mv m_dr m_to m_b1
  rw [m_cl_hd h _ _ _ _ hc, m_pc_hd h hc, h 1 (by omega) (by omega), h 2 (by omega) (by omega)]
theorem m_mv_c {w : Nat → Nat} {kd t : Nat} {s : Nat × Nat} {p q : Prop} [Decidable p] [Decidable q] (h : p ↔ q) : m_mv w kd s t p = m_mv w kd s t q := by
  have e : p = q := propext h
  subst e
  congr
theorem m_mv_lt {w : Nat → Nat} {kd t : Nat} {s : Nat × Nat} {p : Prop} [Decidable p] (hc : s.2 < w 2) : (m_mv w kd s t p).2 < w 2 ∧ (m_mv w kd s t p).1 ≤ s.1 := by
  unfold m_mv
  split
  · exact ⟨hc, Nat.le_refl _⟩
  · split
    · exact ⟨Nat.lt_of_le_of_lt (m_cl_le _ _ _ _ _) hc, Nat.le_refl _⟩
    · unfold m_dr
      split
      · exact ⟨hc, Nat.zero_le _⟩
      · rename_i h
        refine ⟨by omega, ?_⟩
        unfold m_b2 m_b1
        dsimp only
        (repeat' split) <;> omega
/-- what n minutes make of a word; f says when it is wet -/
def m_it (w : Nat → Nat) (kd : Nat) (s : Nat × Nat) (t : Nat) (f : Nat → Bool) : Nat → Nat × Nat
  | 0 => s
  | n + 1 => m_mv w kd (m_it w kd s t f n) (t + n) (f n = true)
def m_sk (w : Nat → Nat) (t n : Nat) : Bool := decide (w 0 / 2 ^ ((t + n) % 4) % 2 = 1)
theorem m_it_lt {w : Nat → Nat} {kd t : Nat} {s : Nat × Nat} {f : Nat → Bool} (hc : s.2 < w 2) : ∀ n, (m_it w kd s t f n).2 < w 2 ∧ (m_it w kd s t f n).1 ≤ s.1
  | 0 => ⟨hc, Nat.le_refl _⟩
  | n + 1 => by
    have h := m_it_lt (kd := kd) (t := t) (f := f) hc n
    have h2 := m_mv_lt (kd := kd) (t := t + n) (p := f n = true) h.1
    exact ⟨h2.1, Nat.le_trans h2.2 h.2⟩
theorem m_it_0 {w : Nat → Nat} {kd t : Nat} {s : Nat × Nat} {f : Nat → Bool} {n : Nat} (h : (m_it w kd s t f n).1 = 0) : m_it w kd s t f (n + 1) = m_it w kd s t f n := if_pos h
theorem m_it_0s {w : Nat → Nat} {kd t : Nat} {s : Nat × Nat} {f : Nat → Bool} {n : Nat} (h : (m_it w kd s t f n).1 = 0) : ∀ d, m_it w kd s t f (n + d) = m_it w kd s t f n
  | 0 => rfl
  | d + 1 => by
    have e := m_it_0s h d
    have : (m_it w kd s t f (n + d)).1 = 0 := by rw [e]; exact h
    rw [show n + (d + 1) = (n + d) + 1 from rfl, m_it_0 this, e]
def m_st (w : Nat → Nat) (a : Nat) : Nat × Nat := (w (17 + 4 * a + 1), w (17 + 4 * a + 2))
theorem m_pn {w : Nat → Nat} (hg : rG w) {a : Nat} (ha : a < w 3) : ∀ n, n ≤ w 3 → p_pn w n (17 + 4 * a) = w (17 + 4 * a) ∧ (n ≤ a → m_st (p_pn w n) a = m_st w a ∧ p_pn w n (17 + 4 * a + 3) = w (17 + 4 * a + 3)) ∧ (a < n → m_st (p_pn w n) a = m_mv w (w (17 + 4 * a)) (m_st w a) (w 4) (w 0 / 2 ^ (w 4 % 4) % 2 = 1))
  | 0, _ => ⟨rfl, fun _ => ⟨rfl, rfl⟩, fun h => absurd h (Nat.not_lt_zero _)⟩
  | n + 1, hn => by
    obtain ⟨i1, i2, i3⟩ := m_pn hg ha n (by omega)
    have hG := p_pn_rG hg n (by omega)
    have e3 : p_pn w n 3 = w 3 := p_pn_hd w (by omega) n
    have e4 : p_pn w n 4 = w 4 := p_pn_hd w (by omega) n
    have e0 : p_pn w n 0 = w 0 := p_pn_hd w (by omega) n
    by_cases h : p_pn w n (17 + 4 * n + 3) = 0
    · have e : p_pn w (n + 1) = p_goes (p_pn w n) n := if_pos h
      rw [e]
      refine ⟨by rw [p_goes_k0, i1], fun hl => ?_, fun hl => ?_⟩
      · have hne := p_goes_ne (p_pn w n) (show a ≠ n by omega)
        have q := i2 (by omega)
        refine ⟨?_, by rw [hne.2.2]; exact q.2⟩
        rw [← q.1]
        unfold m_st
        rw [hne.1, hne.2.1]
      · by_cases hq : a = n
        · subst hq
          have q := i2 (Nat.le_refl _)
          have k := m_goes hG (a := a) (by omega) h
          rw [i1, e4, e0] at k
          rw [← q.1]
          have hc : (m_st (p_pn w a) a).2 < 12 := (hG.2.2.1 a (by have := hg.1.2.2.2.1; omega)).2.2.1
          rw [← m_mv_hd (w := w) (w' := p_pn w a) (fun j hj _ => p_pn_hd w hj a) hc]
          show (p_goes (p_pn w a) a (17 + 4 * a + 1), p_goes (p_pn w a) a (17 + 4 * a + 2)) = _
          rw [p_goes_k1, p_goes_k2, ← k]
          rfl
        · have hne := p_goes_ne (p_pn w n) hq
          rw [← i3 (by omega)]
          unfold m_st
          rw [hne.1, hne.2.1]
    · have e : p_pn w (n + 1) = p_pn w n := if_neg h
      rw [e]
      refine ⟨i1, fun hl => i2 (by omega), fun hl => ?_⟩
      by_cases hq : a = n
      · subst hq
        have q := i2 (Nat.le_refl _)
        have k := hg.2.2.2.2 a ha
        rw [q.2] at h
        have hz : w (17 + 4 * a + 1) = 0 := by
          by_cases z : w (17 + 4 * a + 1) = 0
          · exact z
          · rw [if_neg z] at k; exact absurd k.2.2 h
        rw [q.1]
        unfold m_mv
        rw [if_pos (show (m_st w a).1 = 0 from hz)]
      · exact i3 (by omega)
theorem m_passes {w : Nat → Nat} (hg : rG w) {a : Nat} (ha : a < w 3) : p_passes w (17 + 4 * a) = w (17 + 4 * a) ∧ m_st (p_passes w) a = m_mv w (w (17 + 4 * a)) (m_st w a) (w 4) (w 0 / 2 ^ (w 4 % 4) % 2 = 1) := by
  obtain ⟨i1, -, i3⟩ := m_pn hg ha (w 3) (Nat.le_refl _)
  have o : ∀ j, 17 ≤ j → p_passes w j = p_pn w (w 3) j := fun j hj => wU_n _ _ (by omega)
  refine ⟨by rw [o _ (by omega)]; exact i1, ?_⟩
  rw [← i3 ha]
  unfold m_st
  rw [o _ (by omega), o _ (by omega)]
theorem m_on {w : Nat → Nat} (hg : rG w) {a : Nat} (ha : a < w 3) : ∀ n, w 4 + n ≤ 19000 → p_on w n (17 + 4 * a) = w (17 + 4 * a) ∧ m_st (p_on w n) a = m_it w (w (17 + 4 * a)) (m_st w a) (w 4) (m_sk w (w 4)) n
  | 0, _ => ⟨rfl, rfl⟩
  | n + 1, hn => by
    obtain ⟨i1, i2⟩ := m_on hg ha n (by omega)
    have hG := p_on_rG hg n (by omega)
    have e3 : p_on w n 3 = w 3 := p_on_hd w (by omega) (by omega) n
    have e0 : p_on w n 0 = w 0 := p_on_hd w (by omega) (by omega) n
    have e4 := p_on_4 w n
    obtain ⟨j1, j2⟩ := m_passes hG (a := a) (by omega)
    refine ⟨j1.trans i1, j2.trans ?_⟩
    rw [i1, e4, e0]
    have hc : (m_st (p_on w n) a).2 < 12 := (hG.2.2.1 a (by have := hg.1.2.2.2.1; omega)).2.2.1
    rw [m_mv_hd (w := w) (w' := p_on w n) (fun j hj h4 => p_on_hd w hj h4 n) hc, i2]
    exact m_mv_c (by unfold m_sk; rw [decide_eq_true_iff])
theorem m_gone {w : Nat → Nat} (hg : rG w) {a : Nat} (ha : a < w 3) : (w (17 + 4 * a + 3) = 1) ↔ (m_st w a).1 = 0 := by
  have k := (hg.2.2.2.2 a ha).2.2
  rw [k]
  show _ ↔ w (17 + 4 * a + 1) = 0
  split <;> omega
