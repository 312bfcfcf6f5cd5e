/-! the class: the fewest cells made swift -/
def j_us (x : Int32) (k : Nat) : Int32 := (x.toUInt32 >>> ((nI k).toUInt32 &&& Int32.toUInt32 31)).toInt32
def j_b1 (x : Int32) : Int32 := x - (j_us x 1 &&& nI 1431655765)
def j_b2 (x : Int32) : Int32 := (x &&& nI 858993459) + (j_us x 2 &&& nI 858993459)
def j_b3 (x : Int32) : Int32 := (x + j_us x 4) &&& nI 252645135
def j_b4 (x : Int32) : Int32 := x + j_us x 8
def j_b5 (x : Int32) : Int32 := x + j_us x 16
def j_b6 (x : Int32) : Int32 := x &&& nI 63
theorem j_bc0 : ∀ a, a < 64 → ∀ b, b < 64 → j_b6 (j_b5 (j_b4 (j_b3 (j_b2 (j_b1 (nI (64 * a + b))))))) = nI (p_ones (64 * a + b)) := by decide +kernel
theorem j_bc {s : Nat} (h : s < 4096) : j_b6 (j_b5 (j_b4 (j_b3 (j_b2 (j_b1 (nI s)))))) = nI (p_ones s) := by
  have q := j_bc0 (s / 64) (by omega) (s % 64) (Nat.mod_lt _ (by decide))
  rw [show 64 * (s / 64) + s % 64 = s by omega] at q
  exact q
theorem j_bits (s : Nat) (hs : s < 4096) (M : jm_M) : jm_J none YJ6_bitCount_0f7a4 0 [some (.int (nI s))] [] M (jm_is (some (.int (nI (p_ones s)))) M) := by
  refine jm_ild_n (Y := YJ6_bitCount_0f7a4) (pc := 0) (i := 0) dJ6_bitCount_0f7a4_0 rfl rfl ?_
  refine jm_ild_n (Y := YJ6_bitCount_0f7a4) (pc := 1) (i := 0) dJ6_bitCount_0f7a4_1 rfl rfl ?_
  refine jm_icN (Y := YJ6_bitCount_0f7a4) (pc := 2) 1 dJ6_bitCount_0f7a4_2 rfl ?_
  refine jm_iushr (Y := YJ6_bitCount_0f7a4) (pc := 3) dJ6_bitCount_0f7a4_3 ?_
  refine jm_ldcw (Y := YJ6_bitCount_0f7a4) (pc := 4) (v := nI 1431655765) dJ6_bitCount_0f7a4_4 kc_RJ6_265 ?_
  refine jm_iand (Y := YJ6_bitCount_0f7a4) (pc := 7) dJ6_bitCount_0f7a4_7 ?_
  refine jm_isub (Y := YJ6_bitCount_0f7a4) (pc := 8) dJ6_bitCount_0f7a4_8 ?_
  refine jm_ist_n (Y := YJ6_bitCount_0f7a4) (pc := 9) (i := 0) (ls' := [some (.int (j_b1 (nI s)))]) dJ6_bitCount_0f7a4_9 rfl (Nat.le_of_ble_eq_true rfl) rfl rfl ?_
  refine jm_ild_n (Y := YJ6_bitCount_0f7a4) (pc := 10) (i := 0) dJ6_bitCount_0f7a4_10 rfl rfl ?_
  refine jm_ldcw (Y := YJ6_bitCount_0f7a4) (pc := 11) (v := nI 858993459) dJ6_bitCount_0f7a4_11 kc_RJ6_266 ?_
  refine jm_iand (Y := YJ6_bitCount_0f7a4) (pc := 14) dJ6_bitCount_0f7a4_14 ?_
  refine jm_ild_n (Y := YJ6_bitCount_0f7a4) (pc := 15) (i := 0) dJ6_bitCount_0f7a4_15 rfl rfl ?_
  refine jm_icN (Y := YJ6_bitCount_0f7a4) (pc := 16) 2 dJ6_bitCount_0f7a4_16 rfl ?_
  refine jm_iushr (Y := YJ6_bitCount_0f7a4) (pc := 17) dJ6_bitCount_0f7a4_17 ?_
  refine jm_ldcw (Y := YJ6_bitCount_0f7a4) (pc := 18) (v := nI 858993459) dJ6_bitCount_0f7a4_18 kc_RJ6_266 ?_
  refine jm_iand (Y := YJ6_bitCount_0f7a4) (pc := 21) dJ6_bitCount_0f7a4_21 ?_
  refine jm_iadd (Y := YJ6_bitCount_0f7a4) (pc := 22) dJ6_bitCount_0f7a4_22 ?_
  refine jm_ist_n (Y := YJ6_bitCount_0f7a4) (pc := 23) (i := 0) (ls' := [some (.int (j_b2 (j_b1 (nI s))))]) dJ6_bitCount_0f7a4_23 rfl (Nat.le_of_ble_eq_true rfl) rfl rfl ?_
  refine jm_ild_n (Y := YJ6_bitCount_0f7a4) (pc := 24) (i := 0) dJ6_bitCount_0f7a4_24 rfl rfl ?_
  refine jm_ild_n (Y := YJ6_bitCount_0f7a4) (pc := 25) (i := 0) dJ6_bitCount_0f7a4_25 rfl rfl ?_
  refine jm_icN (Y := YJ6_bitCount_0f7a4) (pc := 26) 4 dJ6_bitCount_0f7a4_26 rfl ?_
  refine jm_iushr (Y := YJ6_bitCount_0f7a4) (pc := 27) dJ6_bitCount_0f7a4_27 ?_
  refine jm_iadd (Y := YJ6_bitCount_0f7a4) (pc := 28) dJ6_bitCount_0f7a4_28 ?_
  refine jm_ldcw (Y := YJ6_bitCount_0f7a4) (pc := 29) (v := nI 252645135) dJ6_bitCount_0f7a4_29 kc_RJ6_267 ?_
  refine jm_iand (Y := YJ6_bitCount_0f7a4) (pc := 32) dJ6_bitCount_0f7a4_32 ?_
  refine jm_ist_n (Y := YJ6_bitCount_0f7a4) (pc := 33) (i := 0) (ls' := [some (.int (j_b3 (j_b2 (j_b1 (nI s)))))]) dJ6_bitCount_0f7a4_33 rfl (Nat.le_of_ble_eq_true rfl) rfl rfl ?_
  refine jm_ild_n (Y := YJ6_bitCount_0f7a4) (pc := 34) (i := 0) dJ6_bitCount_0f7a4_34 rfl rfl ?_
  refine jm_ild_n (Y := YJ6_bitCount_0f7a4) (pc := 35) (i := 0) dJ6_bitCount_0f7a4_35 rfl rfl ?_
  refine jm_bpN (Y := YJ6_bitCount_0f7a4) (pc := 36) 8 dJ6_bitCount_0f7a4_36 rfl ?_
  refine jm_iushr (Y := YJ6_bitCount_0f7a4) (pc := 38) dJ6_bitCount_0f7a4_38 ?_
  refine jm_iadd (Y := YJ6_bitCount_0f7a4) (pc := 39) dJ6_bitCount_0f7a4_39 ?_
  refine jm_ist_n (Y := YJ6_bitCount_0f7a4) (pc := 40) (i := 0) (ls' := [some (.int (j_b4 (j_b3 (j_b2 (j_b1 (nI s))))))]) dJ6_bitCount_0f7a4_40 rfl (Nat.le_of_ble_eq_true rfl) rfl rfl ?_
  refine jm_ild_n (Y := YJ6_bitCount_0f7a4) (pc := 41) (i := 0) dJ6_bitCount_0f7a4_41 rfl rfl ?_
  refine jm_ild_n (Y := YJ6_bitCount_0f7a4) (pc := 42) (i := 0) dJ6_bitCount_0f7a4_42 rfl rfl ?_
  refine jm_bpN (Y := YJ6_bitCount_0f7a4) (pc := 43) 16 dJ6_bitCount_0f7a4_43 rfl ?_
  refine jm_iushr (Y := YJ6_bitCount_0f7a4) (pc := 45) dJ6_bitCount_0f7a4_45 ?_
  refine jm_iadd (Y := YJ6_bitCount_0f7a4) (pc := 46) dJ6_bitCount_0f7a4_46 ?_
  refine jm_ist_n (Y := YJ6_bitCount_0f7a4) (pc := 47) (i := 0) (ls' := [some (.int (j_b5 (j_b4 (j_b3 (j_b2 (j_b1 (nI s)))))))]) dJ6_bitCount_0f7a4_47 rfl (Nat.le_of_ble_eq_true rfl) rfl rfl ?_
  refine jm_ild_n (Y := YJ6_bitCount_0f7a4) (pc := 48) (i := 0) dJ6_bitCount_0f7a4_48 rfl rfl ?_
  refine jm_bpN (Y := YJ6_bitCount_0f7a4) (pc := 49) 63 dJ6_bitCount_0f7a4_49 rfl ?_
  refine jm_iand (Y := YJ6_bitCount_0f7a4) (pc := 51) dJ6_bitCount_0f7a4_51 ?_
  refine jm_ret (Y := YJ6_bitCount_0f7a4) (pc := 52) (st := []) dJ6_bitCount_0f7a4_52 rfl rfl ?_
  exact jm_eq (j_bc hs)
theorem p_gn_bit {v : Nat → Nat} (h : ∀ a, a < 7 → v (17 + 4 * a + 3) ≤ 1) : ∀ k, k ≤ 7 → ∀ i, (p_gn v k).testBit i = (decide (i < k) && decide (v (17 + 4 * i + 3) = 1))
  | 0, _, i => by
    have e : p_gn v 0 = 0 := rfl
    rw [e, Nat.zero_testBit]
    simp
  | k + 1, hk, i => by
    have e : p_gn v (k + 1) = p_gn v k ||| (v (17 + 4 * k + 3) * 2 ^ k) := rfl
    rw [e, Nat.testBit_or, p_gn_bit h k (by omega) i]
    have q := h k (by omega)
    rcases (show v (17 + 4 * k + 3) = 0 ∨ v (17 + 4 * k + 3) = 1 by omega) with z | z
    · rw [z, Nat.zero_mul, Nat.zero_testBit]
      by_cases y : i = k
      · subst y; simp [z]
      · have e3 : decide (i < k + 1) = decide (i < k) := by
          by_cases l : i < k
          · rw [decide_eq_true l, decide_eq_true (by omega)]
          · rw [decide_eq_false l, decide_eq_false (by omega)]
        rw [e3]; simp
    · rw [z, Nat.one_mul, Nat.testBit_two_pow]
      by_cases y : k = i
      · subst y; simp [z]
      · have e3 : decide (i < k + 1) = decide (i < k) := by
          by_cases l : i < k
          · rw [decide_eq_true l, decide_eq_true (by omega)]
          · rw [decide_eq_false l, decide_eq_false (by omega)]
        rw [e3]; simp [y]
theorem p_gn_all {v : Nat → Nat} (h : ∀ a, a < 7 → v (17 + 4 * a + 3) ≤ 1) {k : Nat} (hk : k ≤ 7) : p_gn v k = 2 ^ k - 1 ↔ ∀ b, b < k → v (17 + 4 * b + 3) = 1 := by
  constructor
  · intro e b hb
    have q := p_gn_bit h k hk b
    rw [e, Nat.testBit_two_pow_sub_one] at q
    simpa [hb] using q
  · intro e
    apply Nat.eq_of_testBit_eq
    intro i
    rw [p_gn_bit h k hk i, Nat.testBit_two_pow_sub_one]
    by_cases l : i < k
    · simp [l, e i l]
    · simp [l]
theorem p_ag_all {w : Nat → Nat} (hg : rG w) {n s : Nat} (hn : w 4 + n ≤ 19000) : p_ag w n s ↔ ∀ b, b < w 3 → p_on (p_sd w s (w 2)) n (17 + 4 * b + 3) = 1 := by
  have g2 := hg.1.2.2.1
  have g3 := hg.1.2.2.2.1
  have hG := p_on_rG (p_sd_rG hg s (w 2) g2) n (by rw [p_sd_o w s (w 2) (by omega)]; exact hn)
  exact p_gn_all (fun a ha => (hG.2.2.1 a ha).2.2.2) g3
theorem p_on1_z {s c : Nat} (h : s < 2 ^ c) : ∀ k, p_on1 s k ≤ c
  | 0 => Nat.zero_le _
  | k + 1 => by
    have e : p_on1 s (k + 1) = p_on1 s k + s / 2 ^ k % 2 := rfl
    have l1 := p_on1_le s k
    have l2 : s / 2 ^ k % 2 < 2 := Nat.mod_lt _ (by decide)
    rw [e]
    by_cases q : k < c
    · omega
    · have z : s / 2 ^ k = 0 := Nat.div_eq_of_lt (Nat.lt_of_lt_of_le h (Nat.pow_le_pow_right (by decide) (by omega)))
      have := p_on1_z h k
      rw [z]; omega
theorem p_sw_spec (w : Nat → Nat) (n : Nat) : ∀ S, (∀ b, p_sw w n S = some b → b < S ∧ p_ag w n b ∧ ∀ s, s < S → p_ag w n s → p_ones b < p_ones s ∨ (p_ones b = p_ones s ∧ b ≤ s)) ∧ (p_sw w n S = none → ∀ s, s < S → ¬ p_ag w n s)
  | 0 => ⟨fun b h => (by cases h), fun _ s hs => absurd hs (Nat.not_lt_zero _)⟩
  | S + 1 => by
    obtain ⟨h1, h2⟩ := p_sw_spec w n S
    by_cases z : p_fw (p_sw w n S) S ∧ p_ag w n S
    · rw [p_sw_t z.1 z.2]
      refine ⟨fun b hb => ?_, fun h => (by cases h)⟩
      cases hb
      refine ⟨Nat.lt_succ_self _, z.2, fun s hs ha => ?_⟩
      by_cases e : s = S
      · subst e; exact Or.inr ⟨rfl, Nat.le_refl _⟩
      · rcases z.1 with q | q
        · exact absurd ha (h2 q s (by omega))
        · cases hx : p_sw w n S with
          | none => exact absurd ha (h2 hx s (by omega))
          | some b =>
            rw [hx] at q
            have q : p_ones S < p_ones b := q
            obtain ⟨-, -, k⟩ := h1 b hx
            rcases k s (by omega) ha with k | k
            · exact Or.inl (by omega)
            · exact Or.inl (by omega)
    · rw [p_sw_f z]
      refine ⟨fun b hb => ?_, fun hb s hs ha => ?_⟩
      · obtain ⟨k1, k2, k3⟩ := h1 b hb
        refine ⟨by omega, k2, fun s hs ha => ?_⟩
        by_cases e : s = S
        · subst e
          have q : ¬ p_fw (p_sw w n s) s := fun y => z ⟨y, ha⟩
          rw [hb] at q
          have q2 : ¬ p_ones s < p_ones b := fun y => q (Or.inr y)
          rcases Nat.lt_or_ge (p_ones b) (p_ones s) with y | y
          · exact Or.inl y
          · exact Or.inr ⟨by omega, by omega⟩
        · exact k3 s (by omega) ha
      · by_cases e : s = S
        · subst e
          exact z ⟨Or.inl hb, ha⟩
        · exact h2 hb s (by omega) ha
theorem p_sw_is {w : Nat → Nat} {n S many b : Nat} (hb : b < S) (ha : p_ag w n b) (hm : p_ones b = many) (hlow : ∀ s, s < S → p_ag w n s → many ≤ p_ones s) (hno : ∀ s, s < b → p_ag w n s → p_ones s ≠ many) : p_sw w n S = some b := by
  obtain ⟨h1, h2⟩ := p_sw_spec w n S
  cases hx : p_sw w n S with
  | none => exact absurd ha (h2 hx b hb)
  | some c =>
    obtain ⟨k1, k2, k3⟩ := h1 c hx
    have l1 := hlow c k1 k2
    rcases k3 b hb ha with k | k
    · omega
    · by_cases e : c = b
      · rw [e]
      · exact absurd (by omega) (hno c (by omega) k2)
theorem p_sw_no {w : Nat → Nat} {n S : Nat} (h : ∀ s, s < S → ¬ p_ag w n s) : p_sw w n S = none := by
  cases hx : p_sw w n S with
  | none => rfl
  | some c =>
    obtain ⟨k1, k2, k3⟩ := (p_sw_spec w n S).1 c hx
    exact absurd k2 (h c k1)
theorem m_it_sz {w : Nat → Nat} {kd t : Nat} {s : Nat × Nat} {f : Nat → Bool} (h : 4 ≤ kd) : ∀ n, (m_it w kd s t f n).1 = s.1
  | 0 => rfl
  | n + 1 => by
    have e : m_it w kd s t f (n + 1) = m_mv w kd (m_it w kd s t f n) (t + n) (f n = true) := rfl
    rw [e]
    unfold m_mv
    split
    · exact m_it_sz h n
    · exact m_it_sz h n
/-- a salmon or an eel keeps its size: nothing makes it gone -/
theorem p_ag_climb {w : Nat → Nat} (hg : rG w) {n s b : Nat} (hn : w 4 + n ≤ 19000) (hb : b < w 3) (hz : ¬ w (17 + 4 * b + 1) = 0) (h4 : 4 ≤ w (17 + 4 * b)) : ¬ p_ag w n s := fun h => by
  have g2 := hg.1.2.2.1
  have hG := p_sd_rG hg s (w 2) g2
  have o : ∀ j, j < 5 ∨ 5 + w 2 ≤ j → p_sd w s (w 2) j = w j := fun j q => p_sd_o w s (w 2) q
  have h1 := (p_ag_all hg hn).mp h b hb
  have h2 := (m_wd_g hG (a := b) (by rw [o 3 (by omega)]; exact hb) (n := n) (by rw [o 4 (by omega)]; exact hn)).mpr h1
  unfold m_wd at h2
  rw [m_it_sz (by rw [o _ (by omega)]; exact h4)] at h2
  have h3 : p_sd w s (w 2) (17 + 4 * b + 1) = 0 := h2
  rw [o _ (by omega)] at h3
  exact hz h3
theorem m_allGone (r : Nat) (ha : r < 28) (w : Nat → Nat) (M : jm_M) (hR : RV M r w) (hg : rG w) (n : Nat) (hn : w 4 + n ≤ 19000) : jm_J none YX2_isAllGoneBehind 0 [some (.ref (32 + 4 * r)), some (.int (nI n)), none] [] M (jm_is (some (.int (jm_b (p_gn (p_on w n) (w 3) = 2 ^ w 3 - 1)))) M) := by
  refine jm_icN (Y := YX2_isAllGoneBehind) (pc := 0) 0 dX2_isAllGoneBehind_0 rfl ?_
  refine jm_ist_n (Y := YX2_isAllGoneBehind) (pc := 1) (i := 2) (ls' := [_, _, _]) dX2_isAllGoneBehind_1 rfl (Nat.le_of_ble_eq_true rfl) rfl rfl ?_
  apply jm_wk (m_allGone0 r ha w M hR hg n hn (w 3 + 1) 0 (Nat.zero_le _) (fun b hb => absurd hb (Nat.not_lt_zero _)) (by omega))
  intro o M1 q
  obtain ⟨rfl, q⟩ := q
  have key := p_gn_all (v := p_on w n) (fun a ha => ((p_on_rG hg n hn).2.2.1 a ha).2.2.2) hg.1.2.2.2.1
  rcases q with ⟨rfl, q⟩ | ⟨rfl, q⟩
  · exact jm_bt (key.mpr q)
  · exact jm_bf (fun z => q (key.mp z))
theorem m_hasClimber (r : Nat) (ha : r < 28) (w : Nat → Nat) (M : jm_M) (hR : RV M r w) (hg : rG w) : jm_J none YX2_hasClimber 0 [some (.ref (32 + 4 * r)), none] [] M ((fun o M1 => M1 = M ∧ ((o = some (.int (jm_b True)) ∧ ∃ b, b < w 3 ∧ ¬ w (17 + 4 * b + 1) = 0 ∧ 4 ≤ w (17 + 4 * b)) ∨ o = some (.int (jm_b False))))) := by
  refine jm_icN (Y := YX2_hasClimber) (pc := 0) 0 dX2_hasClimber_0 rfl ?_
  refine jm_ist_n (Y := YX2_hasClimber) (pc := 1) (i := 1) (ls' := [_, _]) dX2_hasClimber_1 rfl (Nat.le_of_ble_eq_true rfl) rfl rfl ?_
  apply jm_wk (m_hasClimber0 r ha w M hR hg (w 3 + 1) 0 (Nat.zero_le _) (fun b hb => absurd hb (Nat.not_lt_zero _)) (by omega))
  intro o M1 q
  obtain ⟨rfl, q⟩ := q
  rcases q with ⟨rfl, q⟩ | ⟨rfl, q⟩
  · exact ⟨rfl, Or.inl ⟨rfl, q⟩⟩
  · exact ⟨rfl, Or.inr rfl⟩
def SD (M : jm_M) (w : Nat → Nat) : Prop := (M (32 + 4 * 1) 0 = nI (w 2) ∧ M (32 + 4 * 1) 1 = nI (w 3) ∧ M (32 + 4 * 1) 2 = nI (w 1) ∧ M (32 + 4 * 1) 3 = nI (w 0) ∧ M (32 + 4 * 1) 4 = nI (w 4)) ∧ (∀ a, a < w 3 → M (34 + 4 * 1) a = nI (w (17 + 4 * a)) ∧ M (35 + 4 * 1) a = nI (16 * w (17 + 4 * a + 1) + w (17 + 4 * a + 2)))
theorem SD_0 {M : jm_M} {w : Nat → Nat} (h : RV M 1 w) : SD M w := ⟨h.1, h.2.2⟩
theorem SD_1 {M : jm_M} {w : Nat → Nat} {s : Nat} (g2 : w 2 ≤ 12) (h : RV M 1 (p_sd w s (w 2))) : SD M w := by
  have o : ∀ j, j < 5 ∨ 5 + w 2 ≤ j → p_sd w s (w 2) j = w j := fun j q => p_sd_o w s (w 2) q
  obtain ⟨⟨f0, f1, f2, f3, f4⟩, -, b⟩ := h
  rw [o _ (by omega)] at f0 f1 f2 f3 f4
  rw [o 3 (by omega)] at b
  refine ⟨⟨f0, f1, f2, f3, f4⟩, fun a ha => ?_⟩
  have q := b a ha
  rw [o _ (by omega), o _ (by omega), o _ (by omega)] at q
  exact q
theorem w_sw1 (w : Nat → Nat) (M0 : jm_M) (hR0 : RV M0 0 w) (hg : rG w) (hm : w 4 ≤ 9999) (N : Nat) (hN : N ≤ 30) (many : Nat) (hmany : many ≤ 12) (hlow : ∀ s, s < 2 ^ w 2 → p_ag w N s → many ≤ p_ones s) (K : ∀ M b, SD M w → RF 1 M0 M → (∀ s, s < 2 ^ w 2 → p_ag w N s → many + 1 ≤ p_ones s) → jm_J none YX5_fewestSwift 26 [some (.ref 0), some (.int (nI N)), some (.int (nI (many + 1))), some (.int (nI b))] [] M (jm_t M0 (jm_o (p_sw w N (2 ^ w 2))))) : ∀ (m : Nat) (b : Nat) (M : jm_M), b ≤ 2 ^ w 2 → SD M w → RF 1 M0 M → (∀ s, s < b → p_ag w N s → p_ones s ≠ many) → 2 ^ w 2 - b < m → jm_J none YX5_fewestSwift 39 [some (.ref 0), some (.int (nI N)), some (.int (nI many)), some (.int (nI b))] [] M (jm_t M0 (jm_o (p_sw w N (2 ^ w 2)))) := by
  intro m
  induction m with
  | zero => intros; omega
  | succ m ih =>
    intro b M hb1 hS hF hno hmm
    have hb := hg.hb
    have g0 := hg.1.1
    have g1 := hg.1.2.1
    have g2 := hg.1.2.2.1
    have g3 := hg.1.2.2.2.1
    have g4 := hg.1.2.2.2.2
    have hR := RF_R0 hF hR0
    have p2 : 2 ^ w 2 ≤ 4096 := Nat.le_trans (Nat.pow_le_pow_right (by decide) g2) (by decide)
    have on12 : p_ones b ≤ 12 := p_on1_le b 12
    refine jm_ild_n (Y := YX5_fewestSwift) (pc := 39) (i := 3) dX5_fewestSwift_39 rfl rfl ?_
    refine jm_icN (Y := YX5_fewestSwift) (pc := 40) 1 dX5_fewestSwift_40 rfl ?_
    refine jm_ald_n (Y := YX5_fewestSwift) (pc := 41) (i := 0) dX5_fewestSwift_41 rfl rfl ?_
    refine jm_getR (Y := YX5_fewestSwift) (pc := 42) dX5_fewestSwift_42 fr_RX5_33 rfl (by decide) rfl ?_
    first | refine jm_getE (Y := YX5_fewestSwift) (pc := 45) dX5_fewestSwift_45 fw_RX5_127 (by first | exact jm_obR ha | exact jm_obR hb | rfl) (by decide) (by first | exact jm_rf0 | rfl) (by assumption) ?_ | refine jm_getE (Y := YX5_fewestSwift) (pc := 45) dX5_fewestSwift_45 fw_RX5_127 (by first | exact jm_obR ha | exact jm_obR hb | rfl) (by decide) (by first | exact jm_rf0 | rfl) (by exact hR.1.1) ?_ | refine jm_getE (Y := YX5_fewestSwift) (pc := 45) dX5_fewestSwift_45 fw_RX5_127 (by first | exact jm_obR ha | exact jm_obR hb | rfl) (by decide) (by first | exact jm_rf0 | rfl) (by exact hR.1.2.1) ?_ | refine jm_getE (Y := YX5_fewestSwift) (pc := 45) dX5_fewestSwift_45 fw_RX5_127 (by first | exact jm_obR ha | exact jm_obR hb | rfl) (by decide) (by first | exact jm_rf0 | rfl) (by exact hR.1.2.2.1) ?_ | refine jm_getE (Y := YX5_fewestSwift) (pc := 45) dX5_fewestSwift_45 fw_RX5_127 (by first | exact jm_obR ha | exact jm_obR hb | rfl) (by decide) (by first | exact jm_rf0 | rfl) (by exact hR.1.2.2.2.1) ?_ | refine jm_getE (Y := YX5_fewestSwift) (pc := 45) dX5_fewestSwift_45 fw_RX5_127 (by first | exact jm_obR ha | exact jm_obR hb | rfl) (by decide) (by first | exact jm_rf0 | rfl) (by exact hR.1.2.2.2.2) ?_ | refine jm_getE (Y := YX5_fewestSwift) (pc := 45) dX5_fewestSwift_45 fw_RX5_127 (by first | exact jm_obR ha | exact jm_obR hb | rfl) (by decide) (by first | exact jm_rf0 | rfl) (by exact hR.2.1 _ (by omega)) ?_ | refine jm_getE (Y := YX5_fewestSwift) (pc := 45) dX5_fewestSwift_45 fw_RX5_127 (by first | exact jm_obR ha | exact jm_obR hb | rfl) (by decide) (by first | exact jm_rf0 | rfl) (by exact (hR.2.2 _ (by omega)).1) ?_ | refine jm_getE (Y := YX5_fewestSwift) (pc := 45) dX5_fewestSwift_45 fw_RX5_127 (by first | exact jm_obR ha | exact jm_obR hb | rfl) (by decide) (by first | exact jm_rf0 | rfl) (by exact (hR.2.2 _ (by omega)).2) ?_ | refine jm_getI (Y := YX5_fewestSwift) (pc := 45) dX5_fewestSwift_45 fw_RX5_127.F (by first | exact jm_obR ha | exact jm_obR hb | rfl) (by decide) (by first | exact jm_rf0 | rfl) ?_ | fail
    refine jm_shlN (Y := YX5_fewestSwift) (pc := 48) dX5_fewestSwift_48 (by omega) (by omega) ?_
    refine jm_icmp_geN (Y := YX5_fewestSwift) (pc := 49) dX5_fewestSwift_49 rfl (by first | omega | exact jm_lt hb _) (by first | omega | exact jm_lt hb _) (fun h_49 => ?_) (fun h_49 => ?_)
    · refine jm_incN (Y := YX5_fewestSwift) (pc := 94) (m := 1) (ls' := [_, _, _, _]) dX5_fewestSwift_94 rfl rfl rfl rfl ?_
      refine jm_goto (Y := YX5_fewestSwift) (pc := 97) dX5_fewestSwift_97 rfl ?_
      exact K _ _ hS hF (fun s hs ha => by have l1 := hlow s hs ha; have l2 := hno s (by omega) ha; omega)
    · refine jm_ild_n (Y := YX5_fewestSwift) (pc := 52) (i := 3) dX5_fewestSwift_52 rfl rfl ?_
      refine jm_S1ie (Y := YX5_fewestSwift) (pc := 53) dX5_fewestSwift_53 lk_RX5_211 ⟨_, rfl⟩ rfl (by decide) (Nat.le_of_ble_eq_true rfl) ⟨by decide, by decide⟩ (j_bits _ (by omega) _) ?_
      refine jm_ild_n (Y := YX5_fewestSwift) (pc := 56) (i := 2) dX5_fewestSwift_56 rfl rfl ?_
      refine jm_icmp_eqN (Y := YX5_fewestSwift) (pc := 57) dX5_fewestSwift_57 rfl (by first | omega | exact jm_lt hb _) (by first | omega | exact jm_lt hb _) (fun h_57 => ?_) (fun h_57 => ?_)
      · refine jm_ald_n (Y := YX5_fewestSwift) (pc := 63) (i := 0) dX5_fewestSwift_63 rfl rfl ?_
        refine jm_getR (Y := YX5_fewestSwift) (pc := 64) dX5_fewestSwift_64 fr_RX5_37 rfl (by decide) rfl ?_
        refine jm_ald_n (Y := YX5_fewestSwift) (pc := 67) (i := 0) dX5_fewestSwift_67 rfl rfl ?_
        refine jm_getR (Y := YX5_fewestSwift) (pc := 68) dX5_fewestSwift_68 fr_RX5_33 rfl (by decide) rfl ?_
        refine jm_ild_n (Y := YX5_fewestSwift) (pc := 71) (i := 3) dX5_fewestSwift_71 rfl rfl ?_
        refine jm_V2v (Y := YX5_fewestSwift) (pc := 72) dX5_fewestSwift_72 lk_RX5_297 rfl (by first | exact jm_obR ha | exact jm_obR hb | rfl) rfl rfl (by decide) (Nat.le_of_ble_eq_true rfl) ⟨by decide, by decide⟩ (m_takeSpeeds 1 0 (by decide) (by decide) (by decide) w hg b (by omega) M hS.1 hS.2 hR) (fun M_72 q_72 => ?_)
        obtain ⟨-, hV, hF2⟩ := q_72
        have hG := p_sd_rG hg b (w 2) g2
        have o3 : p_sd w b (w 2) 3 = w 3 := p_sd_o w b (w 2) (by omega)
        have o4 : p_sd w b (w 2) 4 = w 4 := p_sd_o w b (w 2) (by omega)
        have hF3 := RF_t hF hF2
        have hS3 := SD_1 g2 hV
        refine jm_ald_n (Y := YX5_fewestSwift) (pc := 75) (i := 0) dX5_fewestSwift_75 rfl rfl ?_
        refine jm_getR (Y := YX5_fewestSwift) (pc := 76) dX5_fewestSwift_76 fr_RX5_37 rfl (by decide) rfl ?_
        refine jm_ild_n (Y := YX5_fewestSwift) (pc := 79) (i := 1) dX5_fewestSwift_79 rfl rfl ?_
        refine jm_V1ie (Y := YX5_fewestSwift) (pc := 80) dX5_fewestSwift_80 lk_RX5_300 ⟨_, rfl⟩ (by first | exact jm_obR ha | exact jm_obR hb | rfl) rfl (by decide) (Nat.le_of_ble_eq_true rfl) ⟨by decide, by decide⟩ ((show jm_J none YX2_isAllGoneBehind 0 _ [] _ (jm_is (some (.int (jm_b (p_gn (p_on (p_sd w b (w 2)) N) (w 3) = 2 ^ w 3 - 1)))) _) from (by have h9 := m_allGone 1 (by decide) (p_sd w b (w 2)) M_72 hV hG N (by rw [o4]; omega); rw [o3] at h9; exact h9))) ?_
        refine jm_if_eqB (Y := YX5_fewestSwift) (pc := 83) dX5_fewestSwift_83 rfl (fun h_83 => ?_) (fun h_83 => ?_)
        · refine jm_incN (Y := YX5_fewestSwift) (pc := 88) (m := 1) (ls' := [_, _, _, _]) dX5_fewestSwift_88 rfl rfl rfl rfl ?_
          refine jm_goto (Y := YX5_fewestSwift) (pc := 91) dX5_fewestSwift_91 rfl ?_
          first
            | exact ih (b + 1) _ (by omega) hS3 hF3 (fun s hs ha => by by_cases z : s = b; (subst z; exact absurd ha h_83); (exact hno s (by omega) ha)) (by omega)
            | exact ih (b + 1) _ (by omega) hS hF (fun s hs ha => by by_cases z : s = b; (subst z; exact h_57); (exact hno s (by omega) ha)) (by omega)
            | fail
        · refine jm_ild_n (Y := YX5_fewestSwift) (pc := 86) (i := 3) dX5_fewestSwift_86 rfl rfl ?_
          refine jm_ret (Y := YX5_fewestSwift) (pc := 87) (st := []) dX5_fewestSwift_87 rfl rfl ?_
          rw [p_sw_is (b := b) (many := many) (by omega) h_83 h_57 hlow hno]
          exact jm_ti rfl hF3
      · refine jm_goto (Y := YX5_fewestSwift) (pc := 60) dX5_fewestSwift_60 rfl ?_
        refine jm_incN (Y := YX5_fewestSwift) (pc := 88) (m := 1) (ls' := [_, _, _, _]) dX5_fewestSwift_88 rfl rfl rfl rfl ?_
        refine jm_goto (Y := YX5_fewestSwift) (pc := 91) dX5_fewestSwift_91 rfl ?_
        first
          | exact ih (b + 1) _ (by omega) hS3 hF3 (fun s hs ha => by by_cases z : s = b; (subst z; exact absurd ha h_83); (exact hno s (by omega) ha)) (by omega)
          | exact ih (b + 1) _ (by omega) hS hF (fun s hs ha => by by_cases z : s = b; (subst z; exact h_57); (exact hno s (by omega) ha)) (by omega)
          | fail
theorem w_sw0 (w : Nat → Nat) (M0 : jm_M) (hR0 : RV M0 0 w) (hg : rG w) (hm : w 4 ≤ 9999) (N : Nat) (hN : N ≤ 30) : ∀ (m : Nat) (many : Nat) (M : jm_M) (l3 : Option Value), many ≤ w 2 + 1 → SD M w → RF 1 M0 M → (∀ s, s < 2 ^ w 2 → p_ag w N s → many ≤ p_ones s) → w 2 + 1 - many < m → jm_J none YX5_fewestSwift 26 [some (.ref 0), some (.int (nI N)), some (.int (nI many)), l3] [] M (jm_t M0 (jm_o (p_sw w N (2 ^ w 2)))) := by
  intro m
  induction m with
  | zero => intros; omega
  | succ m ih =>
    intro many M l3 hb1 hS hF hlow hmm
    have hb := hg.hb
    have g0 := hg.1.1
    have g1 := hg.1.2.1
    have g2 := hg.1.2.2.1
    have g3 := hg.1.2.2.2.1
    have g4 := hg.1.2.2.2.2
    have hR := RF_R0 hF hR0
    refine jm_ild_n (Y := YX5_fewestSwift) (pc := 26) (i := 2) dX5_fewestSwift_26 rfl rfl ?_
    refine jm_ald_n (Y := YX5_fewestSwift) (pc := 27) (i := 0) dX5_fewestSwift_27 rfl rfl ?_
    refine jm_getR (Y := YX5_fewestSwift) (pc := 28) dX5_fewestSwift_28 fr_RX5_33 rfl (by decide) rfl ?_
    first | refine jm_getE (Y := YX5_fewestSwift) (pc := 31) dX5_fewestSwift_31 fw_RX5_127 (by first | exact jm_obR ha | exact jm_obR hb | rfl) (by decide) (by first | exact jm_rf0 | rfl) (by assumption) ?_ | refine jm_getE (Y := YX5_fewestSwift) (pc := 31) dX5_fewestSwift_31 fw_RX5_127 (by first | exact jm_obR ha | exact jm_obR hb | rfl) (by decide) (by first | exact jm_rf0 | rfl) (by exact hR.1.1) ?_ | refine jm_getE (Y := YX5_fewestSwift) (pc := 31) dX5_fewestSwift_31 fw_RX5_127 (by first | exact jm_obR ha | exact jm_obR hb | rfl) (by decide) (by first | exact jm_rf0 | rfl) (by exact hR.1.2.1) ?_ | refine jm_getE (Y := YX5_fewestSwift) (pc := 31) dX5_fewestSwift_31 fw_RX5_127 (by first | exact jm_obR ha | exact jm_obR hb | rfl) (by decide) (by first | exact jm_rf0 | rfl) (by exact hR.1.2.2.1) ?_ | refine jm_getE (Y := YX5_fewestSwift) (pc := 31) dX5_fewestSwift_31 fw_RX5_127 (by first | exact jm_obR ha | exact jm_obR hb | rfl) (by decide) (by first | exact jm_rf0 | rfl) (by exact hR.1.2.2.2.1) ?_ | refine jm_getE (Y := YX5_fewestSwift) (pc := 31) dX5_fewestSwift_31 fw_RX5_127 (by first | exact jm_obR ha | exact jm_obR hb | rfl) (by decide) (by first | exact jm_rf0 | rfl) (by exact hR.1.2.2.2.2) ?_ | refine jm_getE (Y := YX5_fewestSwift) (pc := 31) dX5_fewestSwift_31 fw_RX5_127 (by first | exact jm_obR ha | exact jm_obR hb | rfl) (by decide) (by first | exact jm_rf0 | rfl) (by exact hR.2.1 _ (by omega)) ?_ | refine jm_getE (Y := YX5_fewestSwift) (pc := 31) dX5_fewestSwift_31 fw_RX5_127 (by first | exact jm_obR ha | exact jm_obR hb | rfl) (by decide) (by first | exact jm_rf0 | rfl) (by exact (hR.2.2 _ (by omega)).1) ?_ | refine jm_getE (Y := YX5_fewestSwift) (pc := 31) dX5_fewestSwift_31 fw_RX5_127 (by first | exact jm_obR ha | exact jm_obR hb | rfl) (by decide) (by first | exact jm_rf0 | rfl) (by exact (hR.2.2 _ (by omega)).2) ?_ | refine jm_getI (Y := YX5_fewestSwift) (pc := 31) dX5_fewestSwift_31 fw_RX5_127.F (by first | exact jm_obR ha | exact jm_obR hb | rfl) (by decide) (by first | exact jm_rf0 | rfl) ?_ | fail
    refine jm_icmp_gtN (Y := YX5_fewestSwift) (pc := 34) dX5_fewestSwift_34 rfl (by first | omega | exact jm_lt hb _) (by first | omega | exact jm_lt hb _) (fun h_34 => ?_) (fun h_34 => ?_)
    · refine jm_ldc (Y := YX5_fewestSwift) (pc := 100) (v := -1000000) dX5_fewestSwift_100 kc_RX5_210 ?_
      refine jm_ret (Y := YX5_fewestSwift) (pc := 102) (st := []) dX5_fewestSwift_102 rfl rfl ?_
      rw [p_sw_no (fun s hs ha => by have l1 := hlow s hs ha; have l2 : p_ones s ≤ w 2 := p_on1_z hs 12; omega)]
      exact jm_ti rfl hF
    · refine jm_icN (Y := YX5_fewestSwift) (pc := 37) 0 dX5_fewestSwift_37 rfl ?_
      refine jm_ist_n (Y := YX5_fewestSwift) (pc := 38) (i := 3) (ls' := [_, _, _, _]) dX5_fewestSwift_38 rfl (Nat.le_of_ble_eq_true rfl) rfl rfl ?_
      exact w_sw1 w M0 hR0 hg hm N hN many (by omega) hlow (fun M b hS hF hl => ih (many + 1) M _ (by omega) hS hF hl (by omega)) (2 ^ w 2 + 1) 0 M (Nat.zero_le _) hS hF (fun s hs => absurd hs (Nat.not_lt_zero _)) (Nat.lt_succ_of_le (Nat.sub_le _ _))
theorem w_fewestSwift1 (w : Nat → Nat) (M : jm_M) (hR : RV M 0 w) (hg : rG w) (hm : w 4 ≤ 9999) (N : Nat) (hN : N ≤ 30) : jm_J none YX5_fewestSwift 13 [some (.ref 0), some (.int (nI N)), none, none] [] M (jm_t M (jm_o (p_sw w N (2 ^ w 2)))) := by
  have hb := hg.hb
  have g0 := hg.1.1
  have g1 := hg.1.2.1
  have g2 := hg.1.2.2.1
  have g3 := hg.1.2.2.2.1
  have g4 := hg.1.2.2.2.2
  refine jm_ald_n (Y := YX5_fewestSwift) (pc := 13) (i := 0) dX5_fewestSwift_13 rfl rfl ?_
  refine jm_getR (Y := YX5_fewestSwift) (pc := 14) dX5_fewestSwift_14 fr_RX5_37 rfl (by decide) rfl ?_
  refine jm_ald_n (Y := YX5_fewestSwift) (pc := 17) (i := 0) dX5_fewestSwift_17 rfl rfl ?_
  refine jm_getR (Y := YX5_fewestSwift) (pc := 18) dX5_fewestSwift_18 fr_RX5_33 rfl (by decide) rfl ?_
  refine jm_V1v (Y := YX5_fewestSwift) (pc := 21) dX5_fewestSwift_21 lk_RX5_120 rfl (by first | exact jm_obR ha | exact jm_obR hb | rfl) rfl (by decide) (Nat.le_of_ble_eq_true rfl) ⟨by decide, by decide⟩ (m_become 1 0 (by decide) (by decide) (by decide) w M hR (by omega) (by omega)) (fun M_21 q_21 => ?_)
  refine jm_icN (Y := YX5_fewestSwift) (pc := 24) 0 dX5_fewestSwift_24 rfl ?_
  refine jm_ist_n (Y := YX5_fewestSwift) (pc := 25) (i := 2) (ls' := [_, _, _, _]) dX5_fewestSwift_25 rfl (Nat.le_of_ble_eq_true rfl) rfl rfl ?_
  obtain ⟨-, hV, hF⟩ := q_21
  exact w_sw0 w M hR hg hm N hN (w 2 + 2) 0 M_21 none (by omega) (SD_0 hV) hF (fun s _ _ => Nat.zero_le _) (by omega)
theorem w_fewestSwift (w : Nat → Nat) (M : jm_M) (hR : RV M 0 w) (hg : rG w) (hm : w 4 ≤ 9999) (N : Nat) (hN : N ≤ 30) : jm_J none YX5_fewestSwift 0 [some (.ref 0), some (.int (nI N)), none, none] [] M (jm_t M (jm_o (p_sw w N (2 ^ w 2)))) := by
  refine jm_ald_n (Y := YX5_fewestSwift) (pc := 0) (i := 0) dX5_fewestSwift_0 rfl rfl ?_
  refine jm_getR (Y := YX5_fewestSwift) (pc := 1) dX5_fewestSwift_1 fr_RX5_33 rfl (by decide) rfl ?_
  refine jm_V0i (Y := YX5_fewestSwift) (pc := 4) dX5_fewestSwift_4 lk_RX5_294 ⟨_, rfl⟩ (by first | exact jm_obR ha | exact jm_obR hb | rfl) (by decide) (Nat.le_of_ble_eq_true rfl) ⟨by decide, by decide⟩ (m_hasClimber 0 (by decide) w M hR hg) (fun r_4 M_4 q_4 => ?_)
  obtain ⟨e4, q_4⟩ := q_4
  subst e4
  rcases q_4 with ⟨e, q⟩ | e
  · cases e
    refine jm_if_eqB (Y := YX5_fewestSwift) (pc := 7) dX5_fewestSwift_7 rfl (fun h => absurd trivial h) (fun _ => ?_)
    refine jm_ldc (Y := YX5_fewestSwift) (pc := 10) (v := -1000000) dX5_fewestSwift_10 kc_RX5_210 ?_
    refine jm_ret (Y := YX5_fewestSwift) (pc := 12) (st := []) dX5_fewestSwift_12 rfl rfl ?_
    obtain ⟨b, h1, h2, h3⟩ := q
    rw [p_sw_no (fun s _ => p_ag_climb hg (by omega) h1 h2 h3)]
    exact jm_ti rfl (RF_0 1 _)
  · cases e
    refine jm_if_eqB (Y := YX5_fewestSwift) (pc := 7) dX5_fewestSwift_7 rfl (fun _ => ?_) (fun h => h.elim)
    exact w_fewestSwift1 w M_4 hR hg hm N hN
theorem jm_o_i {s : Nat} (h : s < 4096) : ¬ jm_o (some s) = -1000000 := fun z => by
  have e := jm_tI (show s < 2147483648 by omega)
  have z2 : nI s = -1000000 := z
  rw [z2] at e
  have e2 : (-1000000 : Int32).toInt = -1000000 := by decide
  omega
theorem w_swift1N (M M1 : jm_M) (hF : RF 1 M M1) (n a : Int32) (ha : a.toInt = 0 ∨ a.toInt = 1) : jm_J none YX5_swift 37 [some (.ref 0), some (.int n), some (.int a), none] [.int (jm_o none)] M1 (jm_t M (if (none : Option Nat) = none ∨ a.toInt = 1 then jm_o none else nI (p_ones ((none : Option Nat).getD 0)))) := by
  refine jm_ist_n (Y := YX5_swift) (pc := 37) (i := 3) (ls' := [_, _, _, _]) dX5_swift_37 rfl (Nat.le_of_ble_eq_true rfl) rfl rfl ?_
  refine jm_ild_n (Y := YX5_swift) (pc := 38) (i := 3) dX5_swift_38 rfl rfl ?_
  refine jm_ldc (Y := YX5_swift) (pc := 39) (v := -1000000) dX5_swift_39 kc_RX5_210 ?_
  refine jm_icmp_ne (Y := YX5_swift) (pc := 41) dX5_swift_41 rfl (fun h_41 => ?_) (fun h_41 => ?_)
  · exact absurd rfl h_41
  · refine jm_ldc (Y := YX5_swift) (pc := 44) (v := -1000000) dX5_swift_44 kc_RX5_210 ?_
    refine jm_ret (Y := YX5_swift) (pc := 46) (st := []) dX5_swift_46 rfl rfl ?_
    first | exact absurd rfl h_41 | (rw [if_pos (Or.inl rfl)]; exact jm_ti rfl hF) | fail
theorem w_swift1S (M M1 : jm_M) (hF : RF 1 M M1) (n a : Int32) (ha : a.toInt = 0 ∨ a.toInt = 1) (s : Nat) (hs : s < 4096) : jm_J none YX5_swift 37 [some (.ref 0), some (.int n), some (.int a), none] [.int (jm_o (some s))] M1 (jm_t M (if (some s) = none ∨ a.toInt = 1 then jm_o (some s) else nI (p_ones ((some s).getD 0)))) := by
  refine jm_ist_n (Y := YX5_swift) (pc := 37) (i := 3) (ls' := [_, _, _, _]) dX5_swift_37 rfl (Nat.le_of_ble_eq_true rfl) rfl rfl ?_
  refine jm_ild_n (Y := YX5_swift) (pc := 38) (i := 3) dX5_swift_38 rfl rfl ?_
  refine jm_ldc (Y := YX5_swift) (pc := 39) (v := -1000000) dX5_swift_39 kc_RX5_210 ?_
  refine jm_icmp_ne (Y := YX5_swift) (pc := 41) dX5_swift_41 rfl (fun h_41 => ?_) (fun h_41 => ?_)
  · refine jm_ild_n (Y := YX5_swift) (pc := 47) (i := 2) dX5_swift_47 rfl rfl ?_
    refine jm_if_ne (Y := YX5_swift) (pc := 48) dX5_swift_48 rfl (fun h_48 => ?_) (fun h_48 => ?_)
    · refine jm_ild_n (Y := YX5_swift) (pc := 58) (i := 3) dX5_swift_58 rfl rfl ?_
      refine jm_ret (Y := YX5_swift) (pc := 59) (st := []) dX5_swift_59 rfl rfl ?_
      first | exact absurd h_41 (jm_o_i hs) | (rw [if_neg (fun z => z.elim (fun y => by cases y) (fun y => by have := i_z.mp h_48; omega))]; exact jm_ti rfl hF) | (have hz : ¬ a.toInt = 0 := (fun z => h_48 (i_z.mpr z)); rw [if_pos (Or.inr (by omega))]; exact jm_ti rfl hF) | fail
    · refine jm_ild_n (Y := YX5_swift) (pc := 51) (i := 3) dX5_swift_51 rfl rfl ?_
      refine jm_S1ie (Y := YX5_swift) (pc := 52) dX5_swift_52 lk_RX5_211 ⟨_, rfl⟩ rfl (by decide) (Nat.le_of_ble_eq_true rfl) ⟨by decide, by decide⟩ (j_bits s hs _) ?_
      refine jm_goto (Y := YX5_swift) (pc := 55) dX5_swift_55 rfl ?_
      refine jm_ret (Y := YX5_swift) (pc := 59) (st := []) dX5_swift_59 rfl rfl ?_
      first | exact absurd h_41 (jm_o_i hs) | (rw [if_neg (fun z => z.elim (fun y => by cases y) (fun y => by have := i_z.mp h_48; omega))]; exact jm_ti rfl hF) | (have hz : ¬ a.toInt = 0 := (fun z => h_48 (i_z.mpr z)); rw [if_pos (Or.inr (by omega))]; exact jm_ti rfl hF) | fail
  · refine jm_ldc (Y := YX5_swift) (pc := 44) (v := -1000000) dX5_swift_44 kc_RX5_210 ?_
    refine jm_ret (Y := YX5_swift) (pc := 46) (st := []) dX5_swift_46 rfl rfl ?_
    first | exact absurd h_41 (jm_o_i hs) | (rw [if_neg (fun z => z.elim (fun y => by cases y) (fun y => by have := i_z.mp h_48; omega))]; exact jm_ti rfl hF) | (have hz : ¬ a.toInt = 0 := (fun z => h_48 (i_z.mpr z)); rw [if_pos (Or.inr (by omega))]; exact jm_ti rfl hF) | fail
theorem w_swift (w : Nat → Nat) (M : jm_M) (hR : RV M 0 w) (hg : rG w) (hm : w 4 ≤ 9999) (n a : Int32) : jm_J none YX5_swift 0 [some (.ref 0), some (.int n), some (.int a), none] [] M (jm_t M (q_swift w n a)) := by
  have hb := hg.hb
  have g0 := hg.1.1
  have g1 := hg.1.2.1
  have g2 := hg.1.2.2.1
  have g3 := hg.1.2.2.2.1
  have g4 := hg.1.2.2.2.2
  refine jm_ald_n (Y := YX5_swift) (pc := 0) (i := 0) dX5_swift_0 rfl rfl ?_
  refine jm_V0ie (Y := YX5_swift) (pc := 1) dX5_swift_1 lk_RX5_133 ⟨_, rfl⟩ rfl (by decide) (Nat.le_of_ble_eq_true rfl) ⟨by decide, by decide⟩ (w_hasRiver w _ hR hg hm) ?_
  refine jm_if_neB (Y := YX5_swift) (pc := 4) dX5_swift_4 rfl (fun h_4 => ?_) (fun h_4 => ?_)
  · refine jm_ild_n (Y := YX5_swift) (pc := 10) (i := 1) dX5_swift_10 rfl rfl ?_
    refine jm_icN (Y := YX5_swift) (pc := 11) 1 dX5_swift_11 rfl ?_
    refine jm_bpN (Y := YX5_swift) (pc := 12) 30 dX5_swift_12 rfl ?_
    refine jm_S3ie (Y := YX5_swift) (pc := 14) dX5_swift_14 lk_RX5_98 ⟨_, rfl⟩ rfl rfl rfl (by decide) (Nat.le_of_ble_eq_true rfl) ⟨by decide, by decide⟩ (w_wiN _ _ _ _ (by decide) (by decide)) ?_
    refine jm_if_eqB (Y := YX5_swift) (pc := 17) dX5_swift_17 rfl (fun h_17 => ?_) (fun h_17 => ?_)
    · refine jm_ldc (Y := YX5_swift) (pc := 29) (v := -1000001) dX5_swift_29 kc_RX5_64 ?_
      refine jm_ret (Y := YX5_swift) (pc := 31) (st := []) dX5_swift_31 rfl rfl ?_
      unfold q_swift
      first | exact jm_ti (Eq.symm (by rw [if_pos (by omega)])) (RF_0 1 M) | exact jm_ti (Eq.symm (by rw [if_neg (by omega), if_neg (by omega)])) (RF_0 1 M) | fail
    · refine jm_ild_n (Y := YX5_swift) (pc := 20) (i := 2) dX5_swift_20 rfl rfl ?_
      refine jm_icN (Y := YX5_swift) (pc := 21) 0 dX5_swift_21 rfl ?_
      refine jm_icN (Y := YX5_swift) (pc := 22) 1 dX5_swift_22 rfl ?_
      refine jm_S3ie (Y := YX5_swift) (pc := 23) dX5_swift_23 lk_RX5_98 ⟨_, rfl⟩ rfl rfl rfl (by decide) (Nat.le_of_ble_eq_true rfl) ⟨by decide, by decide⟩ (w_wiN _ _ _ _ (by decide) (by decide)) ?_
      refine jm_if_neB (Y := YX5_swift) (pc := 26) dX5_swift_26 rfl (fun h_26 => ?_) (fun h_26 => ?_)
      · obtain ⟨N, h_N, rfl, t_N, n_N⟩ := jm_ofL (v := n) (n := 31) (by omega) (by omega)
        have p2 : 2 ^ w 2 ≤ 4096 := Nat.le_trans (Nat.pow_le_pow_right (by decide) g2) (by decide)
        have eq9 : q_swift w (nI N) a = (if p_sw w N (2 ^ w 2) = none ∨ a.toInt = 1 then jm_o (p_sw w N (2 ^ w 2)) else nI (p_ones ((p_sw w N (2 ^ w 2)).getD 0))) := (by unfold q_swift; rw [if_neg (by omega), if_pos (by omega), n_N])
        refine jm_ald_n (Y := YX5_swift) (pc := 32) (i := 0) dX5_swift_32 rfl rfl ?_
        refine jm_ild_n (Y := YX5_swift) (pc := 33) (i := 1) dX5_swift_33 rfl rfl ?_
        refine jm_V1i (Y := YX5_swift) (pc := 34) dX5_swift_34 lk_RX5_207 ⟨_, rfl⟩ rfl rfl (by decide) (Nat.le_of_ble_eq_true rfl) ⟨by decide, by decide⟩ (w_fewestSwift w _ hR hg hm N (by omega)) (fun r_34 M_34 q_34 => ?_)
        obtain ⟨e34, hF⟩ := q_34
        cases e34
        rw [eq9]
        cases hx : p_sw w N (2 ^ w 2) with
        | none => exact w_swift1N M _ hF _ a (by omega)
        | some s => exact w_swift1S M _ hF _ a (by omega) s (Nat.lt_of_lt_of_le (p_sw_lt w N (2 ^ w 2) s hx) p2)
      · refine jm_ldc (Y := YX5_swift) (pc := 29) (v := -1000001) dX5_swift_29 kc_RX5_64 ?_
        refine jm_ret (Y := YX5_swift) (pc := 31) (st := []) dX5_swift_31 rfl rfl ?_
        unfold q_swift
        first | exact jm_ti (Eq.symm (by rw [if_pos (by omega)])) (RF_0 1 M) | exact jm_ti (Eq.symm (by rw [if_neg (by omega), if_neg (by omega)])) (RF_0 1 M) | fail
  · refine jm_ldc (Y := YX5_swift) (pc := 7) (v := -1000002) dX5_swift_7 kc_RX5_136 ?_
    refine jm_ret (Y := YX5_swift) (pc := 9) (st := []) dX5_swift_9 rfl rfl ?_
    unfold q_swift
    first | exact jm_ti (Eq.symm (by rw [if_pos (by omega)])) (RF_0 1 M) | exact jm_ti (Eq.symm (by rw [if_neg (by omega), if_neg (by omega)])) (RF_0 1 M) | fail
