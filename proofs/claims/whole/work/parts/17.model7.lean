/-! the reference: chance, drawn -/
def p_wy (c s : Nat) : Nat → Nat
  | 0 => 1
  | k + 1 => p_wy c s k * (if s / 2 ^ k % 2 = 1 then c else 10 - c)
def p_ch (w : Nat → Nat) (s : Nat) : Nat → Nat → Nat
  | 0 => w
  | k + 1 => p_passes (wU (p_ch w s k) 0 (if s / 2 ^ k % 2 = 1 then 15 else 0))
def p_ab (w : Nat → Nat) (k n c : Nat) : Nat → Nat
  | 0 => 0
  | s + 1 => p_ab w k n c s + (if p_ch w s n (17 + 4 * k + 3) = 1 then p_wy c s n else 0)
def p_ws (c n : Nat) : Nat → Nat
  | 0 => 0
  | s + 1 => p_ws c n s + p_wy c s n
theorem p_ab_le (w : Nat → Nat) (k n c : Nat) : ∀ s, p_ab w k n c s ≤ p_ws c n s
  | 0 => Nat.le_refl _
  | s + 1 => by
    have := p_ab_le w k n c s
    show p_ab w k n c s + _ ≤ p_ws c n s + _
    split <;> omega
theorem p_ws_mono (c n : Nat) {a b : Nat} (h : a ≤ b) : p_ws c n a ≤ p_ws c n b := by
  induction h with
  | refl => exact Nat.le_refl _
  | step _ ih => exact Nat.le_trans ih (Nat.le_add_right _ _)
theorem p_wy_lo (c : Nat) (n : Nat) : ∀ k s, k ≤ n → p_wy c (s + 2 ^ n) k = p_wy c s k
  | 0, _, _ => rfl
  | k + 1, s, h => by
    show p_wy c (s + 2 ^ n) k * _ = p_wy c s k * _
    rw [p_wy_lo c n k s (by omega)]
    have e : (s + 2 ^ n) / 2 ^ k % 2 = s / 2 ^ k % 2 := by
      obtain ⟨d, rfl⟩ : ∃ d, n = k + 1 + d := ⟨n - (k + 1), by omega⟩
      have : 2 ^ (k + 1 + d) = 2 ^ k * (2 * 2 ^ d) := by rw [Nat.pow_add, Nat.pow_succ, Nat.mul_assoc]
      rw [this, Nat.add_mul_div_left _ _ (Nat.two_pow_pos k), Nat.add_mul_mod_self_left]
    rw [e]
theorem p_ws_add (c n : Nat) (a : Nat) : ∀ b, p_ws c n (a + b) = p_ws c n a + (p_ws c n (a + b) - p_ws c n a) := fun b => by
  have := p_ws_mono c n (Nat.le_add_right a b)
  omega
theorem p_ws_lo (c n : Nat) : ∀ s, s ≤ 2 ^ n → p_ws c (n + 1) s = p_ws c n s * (10 - c)
  | 0, _ => by show 0 = 0 * _; rw [Nat.zero_mul]
  | s + 1, h => by
    show p_ws c (n + 1) s + p_wy c s (n + 1) = (p_ws c n s + p_wy c s n) * (10 - c)
    rw [p_ws_lo c n s (by omega), Nat.add_mul]
    congr 1
    show p_wy c s n * _ = _
    rw [Nat.div_eq_of_lt (by omega)]
    rfl
theorem p_ws_hi (c n : Nat) : ∀ s, s ≤ 2 ^ n → p_ws c (n + 1) (2 ^ n + s) = p_ws c n (2 ^ n) * (10 - c) + p_ws c n s * c
  | 0, _ => by
    show p_ws c (n + 1) (2 ^ n) = _ + 0 * c
    rw [p_ws_lo c n _ (Nat.le_refl _), Nat.zero_mul, Nat.add_zero]
  | s + 1, h => by
    show p_ws c (n + 1) (2 ^ n + s) + p_wy c (2 ^ n + s) (n + 1) = _ + (p_ws c n s + p_wy c s n) * c
    rw [p_ws_hi c n s (by omega), Nat.add_mul, Nat.add_assoc]
    congr 2
    show p_wy c (2 ^ n + s) n * _ = _
    rw [Nat.add_comm (2 ^ n) s, p_wy_lo c n n s (Nat.le_refl _)]
    have e : (s + 2 ^ n) / 2 ^ n % 2 = 1 := by
      rw [Nat.add_div_right _ (Nat.two_pow_pos n), Nat.div_eq_of_lt (by omega)]
    rw [e]
    rfl
theorem p_ws_all (c : Nat) (hc : c ≤ 10) : ∀ n, p_ws c n (2 ^ n) = 10 ^ n
  | 0 => rfl
  | n + 1 => by
    have e : 2 ^ (n + 1) = 2 ^ n + 2 ^ n := by rw [Nat.pow_succ]; omega
    rw [e, p_ws_hi c n _ (Nat.le_refl _), p_ws_all c hc n, ← Nat.mul_add, Nat.pow_succ]
    congr 1
    omega
theorem p_ab_lt {w : Nat → Nat} {k n c s : Nat} (hc : c ≤ 10) (hn : n ≤ 8) (hs : s ≤ 2 ^ n) : p_ab w k n c s ≤ 100000000 := by
  have h1 := p_ab_le w k n c s
  have h2 := p_ws_mono c n hs
  rw [p_ws_all c hc] at h2
  have h3 : 10 ^ n ≤ 10 ^ 8 := Nat.pow_le_pow_right (by decide) hn
  have h4 : 10 ^ 8 = 100000000 := by decide
  omega
theorem rG.up0 {w : Nat → Nat} (h : rG w) {v : Nat} (hv : v ≤ 15) : rG (wU w 0 v) := by
  obtain ⟨⟨h0, h1, h2, h3, h4⟩, hs, hkk, hz, hw⟩ := h
  refine ⟨⟨by rw [wU_s]; exact hv, h1, h2, h3, h4⟩, fun a ha => ?_, fun a ha => ?_, fun j hj => ?_, fun a ha => ?_⟩
  · rw [wU_n _ _ (by omega)]; exact hs a ha
  · rw [wU_n _ _ (by omega), wU_n _ _ (by omega), wU_n _ _ (by omega), wU_n _ _ (by omega)]; exact hkk a ha
  · rw [wU_n _ _ (by omega)]; exact hz j hj
  · rw [wU_n _ _ (by omega), wU_n _ _ (by omega), wU_n _ _ (by omega), wU_n _ _ (by omega), wU_n _ _ (by omega)]
    exact hw a ha
theorem p_ch_4 (w : Nat → Nat) (s : Nat) : ∀ k, p_ch w s k 4 = w 4 + k
  | 0 => rfl
  | k + 1 => by
    show p_passes (wU (p_ch w s k) 0 _) 4 = _
    rw [p_passes_4, wU_n _ _ (by omega), p_ch_4 w s k]
    omega
theorem p_ch_rG {w : Nat → Nat} (h : rG w) (s : Nat) : ∀ k, w 4 + k ≤ 19000 → rG (p_ch w s k)
  | 0, _ => h
  | k + 1, hk => p_passes_rG ((p_ch_rG h s k (by omega)).up0 (by split <;> omega)) (by rw [wU_n _ _ (by omega), p_ch_4]; omega)
theorem p_10 {n : Nat} (h : n ≤ 8) : 10 ^ n ≤ 100000000 := Nat.pow_le_pow_right (by decide) h
def p_cr (ab N : Nat) (a : Int32) : Int32 := if a.toInt = 0 then nI (ab / Nat.gcd ab (10 ^ N)) else nI (10 ^ N / Nat.gcd ab (10 ^ N))
theorem c_chance3 (M : jm_M) (k N c ab : Nat) (a : Int32) (ha : a.toInt = 0 ∨ a.toInt = 1) (hab : ab ≤ 100000000) (hN : N ≤ 8) : ∀ (m : Nat) (y x : Nat) (z : Option Value), x ≤ 100000000 → Nat.gcd x y = Nat.gcd ab (10 ^ N) → y ≤ 100000000 → y < m → jm_J none YX6_chance 205 [some (.ref 11), some (.int (nI k)), some (.int (nI N)), some (.int (nI c)), some (.int a), some (.int (nI (ab))), some (.int (nI (10 ^ N))), some (.int (nI x)), some (.int (nI y)), z] [] M (jm_is (some (.int (p_cr ab N a))) M) := by
  intro m
  induction m with
  | zero => intros; omega
  | succ m ih =>
    intro y x z hx hgc hy hmm
    have p1 := p_10 hN
    have p0 : 0 < 10 ^ N := Nat.pow_pos (by decide)
    have g0 : 0 < Nat.gcd ab (10 ^ N) := Nat.gcd_pos_of_pos_right _ p0
    refine jm_iload (Y := YX6_chance) (pc := 205) dX6_chance_205 rfl ?_
    refine jm_if_eqN (Y := YX6_chance) (pc := 207) dX6_chance_207 rfl (by omega) (fun h_207 => ?_) (fun h_207 => ?_)
    · refine jm_iload (Y := YX6_chance) (pc := 228) dX6_chance_228 rfl ?_
      refine jm_if_ne (Y := YX6_chance) (pc := 230) dX6_chance_230 rfl (fun h_230 => ?_) (fun h_230 => ?_)
      · refine jm_iload (Y := YX6_chance) (pc := 238) dX6_chance_238 rfl ?_
        refine jm_iload (Y := YX6_chance) (pc := 240) dX6_chance_240 rfl ?_
        have ey : y = 0 := h_207
        subst ey
        have ex : x = Nat.gcd ab (10 ^ N) := (by rw [← hgc, Nat.gcd_zero_right])
        subst ex
        refine jm_divN (Y := YX6_chance) (pc := 242) dX6_chance_242 (by omega) g0 (by omega) ?_
        refine jm_ret (Y := YX6_chance) (pc := 243) (st := []) dX6_chance_243 rfl rfl ?_
        unfold p_cr
        first | exact jm_eq (by rw [if_pos (by rw [h_230]; decide)]) | exact jm_eq (by rw [if_neg (by intro z; exact h_230 (Int32.toInt_inj.mp (by rw [z]; decide)))]) | fail
      · refine jm_iload (Y := YX6_chance) (pc := 233) dX6_chance_233 rfl ?_
        refine jm_goto (Y := YX6_chance) (pc := 235) dX6_chance_235 rfl ?_
        refine jm_iload (Y := YX6_chance) (pc := 240) dX6_chance_240 rfl ?_
        have ey : y = 0 := h_207
        subst ey
        have ex : x = Nat.gcd ab (10 ^ N) := (by rw [← hgc, Nat.gcd_zero_right])
        subst ex
        refine jm_divN (Y := YX6_chance) (pc := 242) dX6_chance_242 (by omega) g0 (by omega) ?_
        refine jm_ret (Y := YX6_chance) (pc := 243) (st := []) dX6_chance_243 rfl rfl ?_
        unfold p_cr
        first | exact jm_eq (by rw [if_pos (by rw [h_230]; decide)]) | exact jm_eq (by rw [if_neg (by intro z; exact h_230 (Int32.toInt_inj.mp (by rw [z]; decide)))]) | fail
    · refine jm_iload (Y := YX6_chance) (pc := 210) dX6_chance_210 rfl ?_
      refine jm_iload (Y := YX6_chance) (pc := 212) dX6_chance_212 rfl ?_
      refine jm_remN (Y := YX6_chance) (pc := 214) dX6_chance_214 (by omega) (by omega) (by omega) ?_
      refine jm_ist (Y := YX6_chance) (pc := 215) (ls' := [_, _, _, _, _, _, _, _, _, _]) dX6_chance_215 (Nat.le_of_ble_eq_true rfl) rfl rfl ?_
      refine jm_iload (Y := YX6_chance) (pc := 217) dX6_chance_217 rfl ?_
      refine jm_ist (Y := YX6_chance) (pc := 219) (ls' := [_, _, _, _, _, _, _, _, _, _]) dX6_chance_219 (Nat.le_of_ble_eq_true rfl) rfl rfl ?_
      refine jm_iload (Y := YX6_chance) (pc := 221) dX6_chance_221 rfl ?_
      refine jm_ist (Y := YX6_chance) (pc := 223) (ls' := [_, _, _, _, _, _, _, _, _, _]) dX6_chance_223 (Nat.le_of_ble_eq_true rfl) rfl rfl ?_
      refine jm_goto (Y := YX6_chance) (pc := 225) dX6_chance_225 rfl ?_
      exact ih (x % y) y (some (.int (nI (x % y)))) hy (by rw [← hgc, Nat.gcd_comm x y, Nat.gcd_rec y x, Nat.gcd_comm]) (Nat.le_of_lt (Nat.lt_of_lt_of_le (Nat.mod_lt _ (by omega)) hy)) (Nat.lt_of_lt_of_le (Nat.mod_lt _ (by omega)) (by omega))
theorem c_chance2 (w : Nat → Nat) (M0 : jm_M) (hM : M0 17 = jm_n w) (hg : rG w) (hm : w 4 ≤ 9999) (k N c : Nat) (a : Int32) (hk : k < w 3) (hN : N ≤ 8) (hc : c ≤ 10) (ha : a.toInt = 0 ∨ a.toInt = 1) (s ab : Nat) (hs : s < 256) (Q : Option Value → jm_M → Prop) (K : ∀ z, jm_J none YX6_chance 163 [some (.ref 11), some (.int (nI k)), some (.int (nI N)), some (.int (nI c)), some (.int a), some (.int (nI (ab))), some (.int (nI (10 ^ N))), some (.int (nI s)), some (.int (nI (p_wy c s N))), z] [] (jm_sf M0 19 (jm_n (p_ch w s N))) Q) : ∀ (m : Nat) (j : Nat), j ≤ N → N - j < m → jm_J none YX6_chance 99 [some (.ref 11), some (.int (nI k)), some (.int (nI N)), some (.int (nI c)), some (.int a), some (.int (nI (ab))), some (.int (nI (10 ^ N))), some (.int (nI s)), some (.int (nI (p_wy c s j))), some (.int (nI j))] [] (jm_sf M0 19 (jm_n (p_ch w s j))) Q := by
  intro m
  induction m with
  | zero => intros; omega
  | succ m ih =>
    intro j hj hmm
    have hG := p_ch_rG hg s j (by omega)
    have e4 := p_ch_4 w s j
    have hG1 : rG (p_ch w s (j + 1)) := p_ch_rG hg s (j + 1) (by omega)
    have h3 := hg.1.2.2.2.1
    refine jm_iload (Y := YX6_chance) (pc := 99) dX6_chance_99 rfl ?_
    refine jm_ild_n (Y := YX6_chance) (pc := 101) (i := 2) dX6_chance_101 rfl rfl ?_
    refine jm_icmp_geN (Y := YX6_chance) (pc := 102) dX6_chance_102 rfl (by omega) (by omega) (fun h_102 => ?_) (fun h_102 => ?_)
    · have ej : j = N := by omega
      subst ej
      exact K _
    · refine jm_iload (Y := YX6_chance) (pc := 105) dX6_chance_105 rfl ?_
      refine jm_iload (Y := YX6_chance) (pc := 107) dX6_chance_107 rfl ?_
      refine jm_iload (Y := YX6_chance) (pc := 109) dX6_chance_109 rfl ?_
      refine jm_S2ie (Y := YX6_chance) (pc := 111) dX6_chance_111 lk_RX6_142 ⟨_, rfl⟩ rfl rfl (by decide) (Nat.le_of_ble_eq_true rfl) ⟨by decide, by decide⟩ (c_has _ _ _ (by omega) (by omega)) ?_
      refine jm_if_eqB (Y := YX6_chance) (pc := 114) dX6_chance_114 rfl (fun h_114 => ?_) (fun h_114 => ?_)
      · refine jm_bpN (Y := YX6_chance) (pc := 121) 10 dX6_chance_121 rfl ?_
        refine jm_ild_n (Y := YX6_chance) (pc := 123) (i := 3) dX6_chance_123 rfl rfl ?_
        refine jm_subN (Y := YX6_chance) (pc := 124) dX6_chance_124 (by omega) ?_
        refine jm_mulN (Y := YX6_chance) (pc := 125) dX6_chance_125 ?_
        refine jm_ist (Y := YX6_chance) (pc := 126) (ls' := [_, _, _, _, _, _, _, _, _, _]) dX6_chance_126 (Nat.le_of_ble_eq_true rfl) rfl rfl ?_
        refine jm_ald_n (Y := YX6_chance) (pc := 128) (i := 0) dX6_chance_128 rfl rfl ?_
        refine jm_getR (Y := YX6_chance) (pc := 129) dX6_chance_129 fr_RX6_31 rfl (by decide) rfl ?_
        refine jm_icN (Y := YX6_chance) (pc := 132) 0 dX6_chance_132 rfl ?_
        refine jm_iload (Y := YX6_chance) (pc := 133) dX6_chance_133 rfl ?_
        refine jm_iload (Y := YX6_chance) (pc := 135) dX6_chance_135 rfl ?_
        refine jm_S2ie (Y := YX6_chance) (pc := 137) dX6_chance_137 lk_RX6_142 ⟨_, rfl⟩ rfl rfl (by decide) (Nat.le_of_ble_eq_true rfl) ⟨by decide, by decide⟩ (c_has _ _ _ (by omega) (by omega)) ?_
        refine jm_if_eqB (Y := YX6_chance) (pc := 140) dX6_chance_140 rfl (fun h_140 => ?_) (fun h_140 => ?_)
        · refine jm_icN (Y := YX6_chance) (pc := 148) 0 dX6_chance_148 rfl ?_
          first | (refine jm_iasW (Y := YX6_chance) (pc := 149) (v := 15) (M0 := M0) (w := p_ch w s j) dX6_chance_149 rfl rfl (by omega) ?_) | (refine jm_iasW (Y := YX6_chance) (pc := 149) (v := 0) (M0 := M0) (w := p_ch w s j) dX6_chance_149 rfl rfl (by omega) ?_) | fail
          refine jm_ald_n (Y := YX6_chance) (pc := 150) (i := 0) dX6_chance_150 rfl rfl ?_
          refine jm_getR (Y := YX6_chance) (pc := 151) dX6_chance_151 fr_RX6_31 rfl (by decide) rfl ?_
          refine jm_S1ve (Y := YX6_chance) (pc := 154) dX6_chance_154 lk_RX6_168 rfl rfl (by decide) (Nat.le_of_ble_eq_true rfl) ⟨by decide, by decide⟩ (c_paT _ M0 (hG.up0 (by omega))) ?_
          refine jm_incN (Y := YX6_chance) (pc := 157) (m := 1) (ls' := [_, _, _, _, _, _, _, _, _, _]) dX6_chance_157 rfl rfl rfl rfl ?_
          refine jm_goto (Y := YX6_chance) (pc := 160) dX6_chance_160 rfl ?_
          first
            | (have e1 : p_ch w s (j + 1) = p_passes (wU (p_ch w s j) 0 15) := (by show p_passes (wU _ 0 _) = _; rw [if_pos h_140]); have e2 : p_wy c s (j + 1) = p_wy c s j * c := (by show p_wy c s j * _ = _; rw [if_pos h_140]); rw [← e1, ← e2]; exact ih (j + 1) (by omega) (by omega))
            | (have e1 : p_ch w s (j + 1) = p_passes (wU (p_ch w s j) 0 0) := (by show p_passes (wU _ 0 _) = _; rw [if_neg h_140]); have e2 : p_wy c s (j + 1) = p_wy c s j * (10 - c) := (by show p_wy c s j * _ = _; rw [if_neg h_140]); rw [← e1, ← e2]; exact ih (j + 1) (by omega) (by omega))
            | exact absurd h_140 h_114
            | exact absurd h_114 h_140
        · refine jm_bpN (Y := YX6_chance) (pc := 143) 15 dX6_chance_143 rfl ?_
          refine jm_goto (Y := YX6_chance) (pc := 145) dX6_chance_145 rfl ?_
          first | (refine jm_iasW (Y := YX6_chance) (pc := 149) (v := 15) (M0 := M0) (w := p_ch w s j) dX6_chance_149 rfl rfl (by omega) ?_) | (refine jm_iasW (Y := YX6_chance) (pc := 149) (v := 0) (M0 := M0) (w := p_ch w s j) dX6_chance_149 rfl rfl (by omega) ?_) | fail
          refine jm_ald_n (Y := YX6_chance) (pc := 150) (i := 0) dX6_chance_150 rfl rfl ?_
          refine jm_getR (Y := YX6_chance) (pc := 151) dX6_chance_151 fr_RX6_31 rfl (by decide) rfl ?_
          refine jm_S1ve (Y := YX6_chance) (pc := 154) dX6_chance_154 lk_RX6_168 rfl rfl (by decide) (Nat.le_of_ble_eq_true rfl) ⟨by decide, by decide⟩ (c_paT _ M0 (hG.up0 (by omega))) ?_
          refine jm_incN (Y := YX6_chance) (pc := 157) (m := 1) (ls' := [_, _, _, _, _, _, _, _, _, _]) dX6_chance_157 rfl rfl rfl rfl ?_
          refine jm_goto (Y := YX6_chance) (pc := 160) dX6_chance_160 rfl ?_
          first
            | (have e1 : p_ch w s (j + 1) = p_passes (wU (p_ch w s j) 0 15) := (by show p_passes (wU _ 0 _) = _; rw [if_pos h_140]); have e2 : p_wy c s (j + 1) = p_wy c s j * c := (by show p_wy c s j * _ = _; rw [if_pos h_140]); rw [← e1, ← e2]; exact ih (j + 1) (by omega) (by omega))
            | (have e1 : p_ch w s (j + 1) = p_passes (wU (p_ch w s j) 0 0) := (by show p_passes (wU _ 0 _) = _; rw [if_neg h_140]); have e2 : p_wy c s (j + 1) = p_wy c s j * (10 - c) := (by show p_wy c s j * _ = _; rw [if_neg h_140]); rw [← e1, ← e2]; exact ih (j + 1) (by omega) (by omega))
            | exact absurd h_140 h_114
            | exact absurd h_114 h_140
      · refine jm_ild_n (Y := YX6_chance) (pc := 117) (i := 3) dX6_chance_117 rfl rfl ?_
        refine jm_goto (Y := YX6_chance) (pc := 118) dX6_chance_118 rfl ?_
        refine jm_mulN (Y := YX6_chance) (pc := 125) dX6_chance_125 ?_
        refine jm_ist (Y := YX6_chance) (pc := 126) (ls' := [_, _, _, _, _, _, _, _, _, _]) dX6_chance_126 (Nat.le_of_ble_eq_true rfl) rfl rfl ?_
        refine jm_ald_n (Y := YX6_chance) (pc := 128) (i := 0) dX6_chance_128 rfl rfl ?_
        refine jm_getR (Y := YX6_chance) (pc := 129) dX6_chance_129 fr_RX6_31 rfl (by decide) rfl ?_
        refine jm_icN (Y := YX6_chance) (pc := 132) 0 dX6_chance_132 rfl ?_
        refine jm_iload (Y := YX6_chance) (pc := 133) dX6_chance_133 rfl ?_
        refine jm_iload (Y := YX6_chance) (pc := 135) dX6_chance_135 rfl ?_
        refine jm_S2ie (Y := YX6_chance) (pc := 137) dX6_chance_137 lk_RX6_142 ⟨_, rfl⟩ rfl rfl (by decide) (Nat.le_of_ble_eq_true rfl) ⟨by decide, by decide⟩ (c_has _ _ _ (by omega) (by omega)) ?_
        refine jm_if_eqB (Y := YX6_chance) (pc := 140) dX6_chance_140 rfl (fun h_140 => ?_) (fun h_140 => ?_)
        · refine jm_icN (Y := YX6_chance) (pc := 148) 0 dX6_chance_148 rfl ?_
          first | (refine jm_iasW (Y := YX6_chance) (pc := 149) (v := 15) (M0 := M0) (w := p_ch w s j) dX6_chance_149 rfl rfl (by omega) ?_) | (refine jm_iasW (Y := YX6_chance) (pc := 149) (v := 0) (M0 := M0) (w := p_ch w s j) dX6_chance_149 rfl rfl (by omega) ?_) | fail
          refine jm_ald_n (Y := YX6_chance) (pc := 150) (i := 0) dX6_chance_150 rfl rfl ?_
          refine jm_getR (Y := YX6_chance) (pc := 151) dX6_chance_151 fr_RX6_31 rfl (by decide) rfl ?_
          refine jm_S1ve (Y := YX6_chance) (pc := 154) dX6_chance_154 lk_RX6_168 rfl rfl (by decide) (Nat.le_of_ble_eq_true rfl) ⟨by decide, by decide⟩ (c_paT _ M0 (hG.up0 (by omega))) ?_
          refine jm_incN (Y := YX6_chance) (pc := 157) (m := 1) (ls' := [_, _, _, _, _, _, _, _, _, _]) dX6_chance_157 rfl rfl rfl rfl ?_
          refine jm_goto (Y := YX6_chance) (pc := 160) dX6_chance_160 rfl ?_
          first
            | (have e1 : p_ch w s (j + 1) = p_passes (wU (p_ch w s j) 0 15) := (by show p_passes (wU _ 0 _) = _; rw [if_pos h_140]); have e2 : p_wy c s (j + 1) = p_wy c s j * c := (by show p_wy c s j * _ = _; rw [if_pos h_140]); rw [← e1, ← e2]; exact ih (j + 1) (by omega) (by omega))
            | (have e1 : p_ch w s (j + 1) = p_passes (wU (p_ch w s j) 0 0) := (by show p_passes (wU _ 0 _) = _; rw [if_neg h_140]); have e2 : p_wy c s (j + 1) = p_wy c s j * (10 - c) := (by show p_wy c s j * _ = _; rw [if_neg h_140]); rw [← e1, ← e2]; exact ih (j + 1) (by omega) (by omega))
            | exact absurd h_140 h_114
            | exact absurd h_114 h_140
        · refine jm_bpN (Y := YX6_chance) (pc := 143) 15 dX6_chance_143 rfl ?_
          refine jm_goto (Y := YX6_chance) (pc := 145) dX6_chance_145 rfl ?_
          first | (refine jm_iasW (Y := YX6_chance) (pc := 149) (v := 15) (M0 := M0) (w := p_ch w s j) dX6_chance_149 rfl rfl (by omega) ?_) | (refine jm_iasW (Y := YX6_chance) (pc := 149) (v := 0) (M0 := M0) (w := p_ch w s j) dX6_chance_149 rfl rfl (by omega) ?_) | fail
          refine jm_ald_n (Y := YX6_chance) (pc := 150) (i := 0) dX6_chance_150 rfl rfl ?_
          refine jm_getR (Y := YX6_chance) (pc := 151) dX6_chance_151 fr_RX6_31 rfl (by decide) rfl ?_
          refine jm_S1ve (Y := YX6_chance) (pc := 154) dX6_chance_154 lk_RX6_168 rfl rfl (by decide) (Nat.le_of_ble_eq_true rfl) ⟨by decide, by decide⟩ (c_paT _ M0 (hG.up0 (by omega))) ?_
          refine jm_incN (Y := YX6_chance) (pc := 157) (m := 1) (ls' := [_, _, _, _, _, _, _, _, _, _]) dX6_chance_157 rfl rfl rfl rfl ?_
          refine jm_goto (Y := YX6_chance) (pc := 160) dX6_chance_160 rfl ?_
          first
            | (have e1 : p_ch w s (j + 1) = p_passes (wU (p_ch w s j) 0 15) := (by show p_passes (wU _ 0 _) = _; rw [if_pos h_140]); have e2 : p_wy c s (j + 1) = p_wy c s j * c := (by show p_wy c s j * _ = _; rw [if_pos h_140]); rw [← e1, ← e2]; exact ih (j + 1) (by omega) (by omega))
            | (have e1 : p_ch w s (j + 1) = p_passes (wU (p_ch w s j) 0 0) := (by show p_passes (wU _ 0 _) = _; rw [if_neg h_140]); have e2 : p_wy c s (j + 1) = p_wy c s j * (10 - c) := (by show p_wy c s j * _ = _; rw [if_neg h_140]); rw [← e1, ← e2]; exact ih (j + 1) (by omega) (by omega))
            | exact absurd h_140 h_114
            | exact absurd h_114 h_140
theorem c_chance1 (w : Nat → Nat) (M0 : jm_M) (hM : M0 17 = jm_n w) (hg : rG w) (hm : w 4 ≤ 9999) (k N c : Nat) (a : Int32) (hk : k < w 3) (hN : N ≤ 8) (hc : c ≤ 10) (ha : a.toInt = 0 ∨ a.toInt = 1) : ∀ (m : Nat) (s : Nat) (g : Nat → Nat) (y z : Option Value), s ≤ 2 ^ N → (∀ j, 45 ≤ j → g j = 0) → 2 ^ N - s < m → jm_J none YX6_chance 72 [some (.ref 11), some (.int (nI k)), some (.int (nI N)), some (.int (nI c)), some (.int a), some (.int (nI (p_ab w k N c s))), some (.int (nI (10 ^ N))), some (.int (nI s)), y, z] [] (jm_sf M0 19 (jm_n g)) (jm_q M0 (p_cr (p_ab w k N c (2 ^ N)) N a)) := by
  intro m
  induction m with
  | zero => intros; omega
  | succ m ih =>
    intro s g y z hs hz hmm
    have h3 := hg.1.2.2.2.1
    have p2 : 2 ^ N ≤ 2 ^ 8 := Nat.pow_le_pow_right (by decide) hN
    have p3 : 2 ^ 8 = 256 := by decide
    have p1 := p_10 hN
    have pa := p_ab_lt (w := w) (k := k) hc hN hs
    refine jm_iload (Y := YX6_chance) (pc := 72) dX6_chance_72 rfl ?_
    refine jm_icN (Y := YX6_chance) (pc := 74) 1 dX6_chance_74 rfl ?_
    refine jm_ild_n (Y := YX6_chance) (pc := 75) (i := 2) dX6_chance_75 rfl rfl ?_
    refine jm_shlN (Y := YX6_chance) (pc := 76) dX6_chance_76 (by omega) (by omega) ?_
    rw [Nat.one_mul]
    refine jm_icmp_geN (Y := YX6_chance) (pc := 77) dX6_chance_77 rfl (by first | omega | exact jm_lt hg.hb _) (by first | omega | exact jm_lt hg.hb _) (fun h_77 => ?_) (fun h_77 => ?_)
    · refine jm_iload (Y := YX6_chance) (pc := 197) dX6_chance_197 rfl ?_
      refine jm_ist (Y := YX6_chance) (pc := 199) (ls' := [_, _, _, _, _, _, _, _, _, _]) dX6_chance_199 (Nat.le_of_ble_eq_true rfl) rfl rfl ?_
      refine jm_iload (Y := YX6_chance) (pc := 201) dX6_chance_201 rfl ?_
      refine jm_ist (Y := YX6_chance) (pc := 203) (ls' := [_, _, _, _, _, _, _, _, _, _]) dX6_chance_203 (Nat.le_of_ble_eq_true rfl) rfl rfl ?_
      have es : s = 2 ^ N := by omega
      subst es
      exact jm_wk (c_chance3 _ k N c _ a ha pa hN (10 ^ N + 1) (10 ^ N) _ _ pa rfl p1 (Nat.lt_succ_self _)) (fun o M1 q => (by obtain ⟨rfl, rfl⟩ := q; exact jm_qi hz rfl))
    · refine jm_icN (Y := YX6_chance) (pc := 80) 1 dX6_chance_80 rfl ?_
      refine jm_ist (Y := YX6_chance) (pc := 81) (ls' := [_, _, _, _, _, _, _, _, _, _]) dX6_chance_81 (Nat.le_of_ble_eq_true rfl) rfl rfl ?_
      refine jm_ald_n (Y := YX6_chance) (pc := 83) (i := 0) dX6_chance_83 rfl rfl ?_
      refine jm_getR (Y := YX6_chance) (pc := 84) dX6_chance_84 fr_RX6_25 rfl (by decide) rfl ?_
      refine jm_icN (Y := YX6_chance) (pc := 87) 0 dX6_chance_87 rfl ?_
      refine jm_ald_n (Y := YX6_chance) (pc := 88) (i := 0) dX6_chance_88 rfl rfl ?_
      refine jm_getR (Y := YX6_chance) (pc := 89) dX6_chance_89 fr_RX6_31 rfl (by decide) rfl ?_
      refine jm_icN (Y := YX6_chance) (pc := 92) 0 dX6_chance_92 rfl ?_
      refine jm_S4ve (Y := YX6_chance) (pc := 93) dX6_chance_93 lk_RX6_135 rfl rfl rfl rfl rfl (by decide) (Nat.le_of_ble_eq_true rfl) ⟨by decide, by decide⟩ (c_cpT w _ M0 hM hg.z (by assumption)) ?_
      refine jm_icN (Y := YX6_chance) (pc := 96) 0 dX6_chance_96 rfl ?_
      refine jm_ist (Y := YX6_chance) (pc := 97) (ls' := [_, _, _, _, _, _, _, _, _, _]) dX6_chance_97 (Nat.le_of_ble_eq_true rfl) rfl rfl ?_
      refine c_chance2 w M0 hM hg hm k N c a hk hN hc ha s (p_ab w k N c s) (by omega) _ (fun z9 => ?_) (N + 1) 0 (by omega) (by omega)
      have hG := p_ch_rG hg s N (by omega)
      refine jm_iload (Y := YX6_chance) (pc := 163) dX6_chance_163 rfl ?_
      refine jm_ald_n (Y := YX6_chance) (pc := 165) (i := 0) dX6_chance_165 rfl rfl ?_
      refine jm_getR (Y := YX6_chance) (pc := 166) dX6_chance_166 fr_RX6_31 rfl (by decide) rfl ?_
      refine jm_bpN (Y := YX6_chance) (pc := 169) 17 dX6_chance_169 rfl ?_
      refine jm_icN (Y := YX6_chance) (pc := 171) 4 dX6_chance_171 rfl ?_
      refine jm_ild_n (Y := YX6_chance) (pc := 172) (i := 1) dX6_chance_172 rfl rfl ?_
      refine jm_mulN (Y := YX6_chance) (pc := 173) dX6_chance_173 ?_
      refine jm_addN (Y := YX6_chance) (pc := 174) dX6_chance_174 ?_
      refine jm_icN (Y := YX6_chance) (pc := 175) 3 dX6_chance_175 rfl ?_
      refine jm_addN (Y := YX6_chance) (pc := 176) dX6_chance_176 ?_
      refine jm_ialN (Y := YX6_chance) (pc := 177) dX6_chance_177 (by first | assumption | exact jm_arR1 ha | exact jm_arR2 ha | exact jm_arR3 ha | exact jm_arR1 hb | exact jm_arR2 hb | exact jm_arR3 hb | rfl) (by first | omega | exact jm_lt hg.hb _ | exact jm_lt hG.hb _) (by first | assumption | exact jm_rdW | exact jm_rdN (jm_17 hM) | rfl) ?_
      refine jm_icN (Y := YX6_chance) (pc := 178) 1 dX6_chance_178 rfl ?_
      refine jm_icmp_neN (Y := YX6_chance) (pc := 179) dX6_chance_179 rfl (by first | omega | exact jm_lt hg.hb _ | exact jm_lt hG.hb _) (by first | omega | exact jm_lt hg.hb _ | exact jm_lt hG.hb _) (fun h_179 => ?_) (fun h_179 => ?_)
      · refine jm_icN (Y := YX6_chance) (pc := 187) 0 dX6_chance_187 rfl ?_
        refine jm_addN (Y := YX6_chance) (pc := 188) dX6_chance_188 ?_
        refine jm_ist (Y := YX6_chance) (pc := 189) (ls' := [_, _, _, _, _, _, _, _, _, _]) dX6_chance_189 (Nat.le_of_ble_eq_true rfl) rfl rfl ?_
        refine jm_incN (Y := YX6_chance) (pc := 191) (m := 1) (ls' := [_, _, _, _, _, _, _, _, _, _]) dX6_chance_191 rfl rfl rfl rfl ?_
        refine jm_goto (Y := YX6_chance) (pc := 194) dX6_chance_194 rfl ?_
        first | (have e : p_ab w k N c (s + 1) = p_ab w k N c s + p_wy c s N := (by show p_ab w k N c s + _ = _; rw [if_pos h_179]); rw [← e]; exact ih (s + 1) _ _ _ (by omega) hG.z (by omega)) | (have e : p_ab w k N c (s + 1) = p_ab w k N c s + p_wy c s N := (by show p_ab w k N c s + _ = _; rw [if_pos (Decidable.not_not.mp h_179)]); rw [← e]; exact ih (s + 1) _ _ _ (by omega) hG.z (by omega)) | (have e : p_ab w k N c (s + 1) = p_ab w k N c s + 0 := (by show p_ab w k N c s + _ = _; rw [if_neg h_179]); rw [← e]; exact ih (s + 1) _ _ _ (by omega) hG.z (by omega)) | fail
      · refine jm_iload (Y := YX6_chance) (pc := 182) dX6_chance_182 rfl ?_
        refine jm_goto (Y := YX6_chance) (pc := 184) dX6_chance_184 rfl ?_
        refine jm_addN (Y := YX6_chance) (pc := 188) dX6_chance_188 ?_
        refine jm_ist (Y := YX6_chance) (pc := 189) (ls' := [_, _, _, _, _, _, _, _, _, _]) dX6_chance_189 (Nat.le_of_ble_eq_true rfl) rfl rfl ?_
        refine jm_incN (Y := YX6_chance) (pc := 191) (m := 1) (ls' := [_, _, _, _, _, _, _, _, _, _]) dX6_chance_191 rfl rfl rfl rfl ?_
        refine jm_goto (Y := YX6_chance) (pc := 194) dX6_chance_194 rfl ?_
        first | (have e : p_ab w k N c (s + 1) = p_ab w k N c s + p_wy c s N := (by show p_ab w k N c s + _ = _; rw [if_pos h_179]); rw [← e]; exact ih (s + 1) _ _ _ (by omega) hG.z (by omega)) | (have e : p_ab w k N c (s + 1) = p_ab w k N c s + p_wy c s N := (by show p_ab w k N c s + _ = _; rw [if_pos (Decidable.not_not.mp h_179)]); rw [← e]; exact ih (s + 1) _ _ _ (by omega) hG.z (by omega)) | (have e : p_ab w k N c (s + 1) = p_ab w k N c s + 0 := (by show p_ab w k N c s + _ = _; rw [if_neg h_179]); rw [← e]; exact ih (s + 1) _ _ _ (by omega) hG.z (by omega)) | fail
theorem c_chance0 (w : Nat → Nat) (M0 : jm_M) (hM : M0 17 = jm_n w) (hg : rG w) (hm : w 4 ≤ 9999) (k N c : Nat) (a : Int32) (hk : k < w 3) (hN : N ≤ 8) (hc : c ≤ 10) (ha : a.toInt = 0 ∨ a.toInt = 1) (g : Nat → Nat) (hz : ∀ j, 45 ≤ j → g j = 0) : ∀ (m : Nat) (j : Nat), j ≤ N → N - j < m → jm_J none YX6_chance 50 [some (.ref 11), some (.int (nI k)), some (.int (nI N)), some (.int (nI c)), some (.int a), some (.int (nI (0))), some (.int (nI (10 ^ j))), some (.int (nI j)), none, none] [] (jm_sf M0 19 (jm_n g)) (jm_q M0 (p_cr (p_ab w k N c (2 ^ N)) N a)) := by
  intro m
  induction m with
  | zero => intros; omega
  | succ m ih =>
    intro j hj hmm
    refine jm_iload (Y := YX6_chance) (pc := 50) dX6_chance_50 rfl ?_
    refine jm_ild_n (Y := YX6_chance) (pc := 52) (i := 2) dX6_chance_52 rfl rfl ?_
    refine jm_icmp_geN (Y := YX6_chance) (pc := 53) dX6_chance_53 rfl (by omega) (by omega) (fun h_53 => ?_) (fun h_53 => ?_)
    · refine jm_icN (Y := YX6_chance) (pc := 69) 0 dX6_chance_69 rfl ?_
      refine jm_ist (Y := YX6_chance) (pc := 70) (ls' := [_, _, _, _, _, _, _, _, _, _]) dX6_chance_70 (Nat.le_of_ble_eq_true rfl) rfl rfl ?_
      have ej : j = N := by omega
      subst ej
      exact c_chance1 w M0 hM hg hm k j c a hk hN hc ha (2 ^ j + 1) 0 g none none (Nat.zero_le _) hz (Nat.lt_succ_of_le (Nat.sub_le _ _))
    · refine jm_iload (Y := YX6_chance) (pc := 56) dX6_chance_56 rfl ?_
      refine jm_bpN (Y := YX6_chance) (pc := 58) 10 dX6_chance_58 rfl ?_
      refine jm_mulN (Y := YX6_chance) (pc := 60) dX6_chance_60 ?_
      refine jm_ist (Y := YX6_chance) (pc := 61) (ls' := [_, _, _, _, _, _, _, _, _, _]) dX6_chance_61 (Nat.le_of_ble_eq_true rfl) rfl rfl ?_
      refine jm_incN (Y := YX6_chance) (pc := 63) (m := 1) (ls' := [_, _, _, _, _, _, _, _, _, _]) dX6_chance_63 rfl rfl rfl rfl ?_
      refine jm_goto (Y := YX6_chance) (pc := 66) dX6_chance_66 rfl ?_
      rw [← Nat.pow_succ]
      exact ih (j + 1) (by omega) (by omega)
def q_chance (w : Nat → Nat) (v n c a : Int32) : Int32 := if 0 ≤ v.toInt ∧ v.toInt < w 3 ∧ 0 ≤ n.toInt ∧ n.toInt ≤ 8 ∧ 0 ≤ c.toInt ∧ c.toInt ≤ 10 ∧ 0 ≤ a.toInt ∧ a.toInt ≤ 1 then p_cr (p_ab w v.toInt.toNat n.toInt.toNat c.toInt.toNat (2 ^ n.toInt.toNat)) n.toInt.toNat a else -1000001
theorem c_chance (w g : Nat → Nat) (M0 : jm_M) (hM : M0 17 = jm_n w) (hg : rG w) (hz : ∀ j, 45 ≤ j → g j = 0) (hm : w 4 ≤ 9999) (v n c a : Int32) : jm_J none YX6_chance 0 [some (.ref 11), some (.int v), some (.int n), some (.int c), some (.int a), none, none, none, none, none] [] (jm_sf M0 19 (jm_n g)) (jm_q M0 (q_chance w v n c a)) := by
  have hb := hg.hb
  have h3 := hg.1.2.2.2.1
  have h2 := hg.1.2.2.1
  refine jm_ald_n (Y := YX6_chance) (pc := 0) (i := 0) dX6_chance_0 rfl rfl ?_
  refine jm_ild_n (Y := YX6_chance) (pc := 1) (i := 1) dX6_chance_1 rfl rfl ?_
  refine jm_V1ie (Y := YX6_chance) (pc := 2) dX6_chance_2 lk_RX6_176 ⟨_, rfl⟩ rfl rfl (by decide) (Nat.le_of_ble_eq_true rfl) ⟨by decide, by decide⟩ (c_isWord w _ (jm_17 hM) hg _) ?_
  refine jm_if_eqB (Y := YX6_chance) (pc := 5) dX6_chance_5 rfl (fun h_5 => ?_) (fun h_5 => ?_)
  · refine jm_ldc (Y := YX6_chance) (pc := 38) (v := -1000001) dX6_chance_38 kc_RX6_61 ?_
    refine jm_ret (Y := YX6_chance) (pc := 40) (st := []) dX6_chance_40 rfl rfl ?_
    unfold q_chance
    exact jm_qi hz (by rw [if_neg (by omega)])
  · refine jm_ild_n (Y := YX6_chance) (pc := 8) (i := 2) dX6_chance_8 rfl rfl ?_
    refine jm_icN (Y := YX6_chance) (pc := 9) 0 dX6_chance_9 rfl ?_
    refine jm_bpN (Y := YX6_chance) (pc := 10) 8 dX6_chance_10 rfl ?_
    refine jm_S3ie (Y := YX6_chance) (pc := 12) dX6_chance_12 lk_RX6_53 ⟨_, rfl⟩ rfl rfl rfl (by decide) (Nat.le_of_ble_eq_true rfl) ⟨by decide, by decide⟩ (c_inN _ _ _ _ (by decide) (by decide)) ?_
    refine jm_if_eqB (Y := YX6_chance) (pc := 15) dX6_chance_15 rfl (fun h_15 => ?_) (fun h_15 => ?_)
    · refine jm_ldc (Y := YX6_chance) (pc := 38) (v := -1000001) dX6_chance_38 kc_RX6_61 ?_
      refine jm_ret (Y := YX6_chance) (pc := 40) (st := []) dX6_chance_40 rfl rfl ?_
      unfold q_chance
      exact jm_qi hz (by rw [if_neg (by omega)])
    · refine jm_ild_n (Y := YX6_chance) (pc := 18) (i := 3) dX6_chance_18 rfl rfl ?_
      refine jm_icN (Y := YX6_chance) (pc := 19) 0 dX6_chance_19 rfl ?_
      refine jm_bpN (Y := YX6_chance) (pc := 20) 10 dX6_chance_20 rfl ?_
      refine jm_S3ie (Y := YX6_chance) (pc := 22) dX6_chance_22 lk_RX6_53 ⟨_, rfl⟩ rfl rfl rfl (by decide) (Nat.le_of_ble_eq_true rfl) ⟨by decide, by decide⟩ (c_inN _ _ _ _ (by decide) (by decide)) ?_
      refine jm_if_eqB (Y := YX6_chance) (pc := 25) dX6_chance_25 rfl (fun h_25 => ?_) (fun h_25 => ?_)
      · refine jm_ldc (Y := YX6_chance) (pc := 38) (v := -1000001) dX6_chance_38 kc_RX6_61 ?_
        refine jm_ret (Y := YX6_chance) (pc := 40) (st := []) dX6_chance_40 rfl rfl ?_
        unfold q_chance
        exact jm_qi hz (by rw [if_neg (by omega)])
      · refine jm_iload (Y := YX6_chance) (pc := 28) dX6_chance_28 rfl ?_
        refine jm_icN (Y := YX6_chance) (pc := 30) 0 dX6_chance_30 rfl ?_
        refine jm_icN (Y := YX6_chance) (pc := 31) 1 dX6_chance_31 rfl ?_
        refine jm_S3ie (Y := YX6_chance) (pc := 32) dX6_chance_32 lk_RX6_53 ⟨_, rfl⟩ rfl rfl rfl (by decide) (Nat.le_of_ble_eq_true rfl) ⟨by decide, by decide⟩ (c_inN _ _ _ _ (by decide) (by decide)) ?_
        refine jm_if_neB (Y := YX6_chance) (pc := 35) dX6_chance_35 rfl (fun h_35 => ?_) (fun h_35 => ?_)
        · obtain ⟨k, h_k, rfl, t_k, n_k⟩ := jm_ofL (v := v) (n := w 3) (by omega) (by omega)
          obtain ⟨N, h_N, rfl, t_N, n_N⟩ := jm_ofL (v := n) (n := 9) (by omega) (by omega)
          obtain ⟨cc, h_cc, rfl, t_cc, n_cc⟩ := jm_ofL (v := c) (n := 11) (by omega) (by omega)
          refine jm_icN (Y := YX6_chance) (pc := 41) 0 dX6_chance_41 rfl ?_
          refine jm_ist (Y := YX6_chance) (pc := 42) (ls' := [_, _, _, _, _, _, _, _, _, _]) dX6_chance_42 (Nat.le_of_ble_eq_true rfl) rfl rfl ?_
          refine jm_icN (Y := YX6_chance) (pc := 44) 1 dX6_chance_44 rfl ?_
          refine jm_ist (Y := YX6_chance) (pc := 45) (ls' := [_, _, _, _, _, _, _, _, _, _]) dX6_chance_45 (Nat.le_of_ble_eq_true rfl) rfl rfl ?_
          refine jm_icN (Y := YX6_chance) (pc := 47) 0 dX6_chance_47 rfl ?_
          refine jm_ist (Y := YX6_chance) (pc := 48) (ls' := [_, _, _, _, _, _, _, _, _, _]) dX6_chance_48 (Nat.le_of_ble_eq_true rfl) rfl rfl ?_
          have e : q_chance w (nI k) (nI N) (nI cc) a = p_cr (p_ab w k N cc (2 ^ N)) N a := (by unfold q_chance; rw [if_pos (by omega), n_k, n_N, n_cc])
          rw [e]
          exact c_chance0 w M0 hM hg hm k N cc a (by omega) (by omega) (by omega) (by omega) g hz (N + 1) 0 (by omega) (by omega)
        · refine jm_ldc (Y := YX6_chance) (pc := 38) (v := -1000001) dX6_chance_38 kc_RX6_61 ?_
          refine jm_ret (Y := YX6_chance) (pc := 40) (st := []) dX6_chance_40 rfl rfl ?_
          unfold q_chance
          exact jm_qi hz (by rw [if_neg (by omega)])
theorem jm_lmulN {sc : jm_S} {Y : jm_Y} {pc : Nat} {ls : jm_Ls} {st : List Value} {M : jm_M} {Q : Option Value → jm_M → Prop} {a b : Nat} (d : decode Y.2.1 pc = .ok (.lmul, 1)) (k : jm_J sc Y (pc + 1) ls (.long (lN (a * b)) :: st) M Q) : jm_J sc Y pc ls (.long (lN b) :: .long (lN a) :: st) M Q := jm_lmul d (by rw [lN_mul]; exact k)
theorem jm_lremN {sc : jm_S} {Y : jm_Y} {pc : Nat} {ls : jm_Ls} {st : List Value} {M : jm_M} {Q : Option Value → jm_M → Prop} {a b : Nat} (d : decode Y.2.1 pc = .ok (.lrem, 1)) (ha : a < 9223372036854775808) (h0 : 0 < b) (hb : b < 9223372036854775808) (k : jm_J sc Y (pc + 1) ls (.long (lN (a % b)) :: st) M Q) : jm_J sc Y pc ls (.long (lN b) :: .long (lN a) :: st) M Q := jm_lrem d (fun h => by have e : lN b = lN 0 := h; rw [pk_lEQ hb (by decide)] at e; omega) (by rw [pk_lRem ha h0 hb]; exact k)
theorem jm_i2lN {sc : jm_S} {Y : jm_Y} {pc : Nat} {ls : jm_Ls} {st : List Value} {M : jm_M} {Q : Option Value → jm_M → Prop} {a : Nat} (d : decode Y.2.1 pc = .ok (.i2l, 1)) (ha : a < 2147483648) (k : jm_J sc Y (pc + 1) ls (.long (lN a) :: st) M Q) : jm_J sc Y pc ls (.int (nI a) :: st) M Q := jm_i2l d (by rw [nI_l ha]; exact k)
theorem jm_l2iN {sc : jm_S} {Y : jm_Y} {pc : Nat} {ls : jm_Ls} {st : List Value} {M : jm_M} {Q : Option Value → jm_M → Prop} {a : Nat} (d : decode Y.2.1 pc = .ok (.l2i, 1)) (k : jm_J sc Y (pc + 1) ls (.int (nI a) :: st) M Q) : jm_J sc Y pc ls (.long (lN a) :: st) M Q := jm_l2i d (by rw [lN_i]; exact k)
def p_dx (seed : Nat) : Nat → Nat
  | 0 => seed
  | k + 1 => p_dx seed k * 16807 % 2147483647
theorem p_dx_lt {seed : Nat} (h : seed < 2147483647) : ∀ k, p_dx seed k < 2147483647
  | 0 => h
  | k + 1 => Nat.mod_lt _ (by decide)
def p_d1 (w : Nat → Nat) (x : Nat) (v : Nat → Nat) : Nat → Nat :=
  if 0 < w 3 ∧ v (17 + 4 * (x % w 3) + 3) = 1 then p_says (wU v 0 (x % 16)) (x % w 3) (x % 60 + 1) (x % w 2) else wU v 0 (x % 16)
def p_d2 (w : Nat → Nat) (x : Nat) (v : Nat → Nat) : Nat := if 0 < w 3 ∧ v (17 + 4 * (x % w 3) + 3) = 1 then 1 else 0
def p_dr (w : Nat → Nat) (seed : Nat) : Nat → Nat → Nat
  | 0 => w
  | k + 1 => p_passes (p_d1 w (p_dx seed (k + 1)) (p_dr w seed k))
def p_do (w : Nat → Nat) (seed : Nat) : Nat → Nat
  | 0 => 0
  | k + 1 => p_do w seed k + p_d2 w (p_dx seed (k + 1)) (p_dr w seed k)
theorem rG.says {w : Nat → Nat} (h : rG w) {k b c : Nat} (hk : k < 7) (hb : 1 ≤ b ∧ b ≤ 60) (hc : c < w 2) : rG (p_says w k b c) := by
  obtain ⟨⟨h0, h1, h2, h3, h4⟩, hs, hkk, hz, hw⟩ := h
  have lo : ∀ j, j < 17 → p_says w k b c j = w j := fun j hj => by
    unfold p_says
    rw [wU_n _ _ (by omega), wU_n _ _ (by omega), wU_n _ _ (by omega)]
  have e1 : p_says w k b c (17 + 4 * k + 1) = b := by unfold p_says; rw [wU_n _ _ (by omega), wU_n _ _ (by omega), wU_s]
  have e2 : p_says w k b c (17 + 4 * k + 2) = c := by unfold p_says; rw [wU_n _ _ (by omega), wU_s]
  have e3 : p_says w k b c (17 + 4 * k + 3) = 0 := by unfold p_says; rw [wU_s]
  have e0 : ∀ a, p_says w k b c (17 + 4 * a) = w (17 + 4 * a) := fun a => by
    unfold p_says
    rw [wU_n _ _ (by omega), wU_n _ _ (by omega), wU_n _ _ (by omega)]
  have en : ∀ a, a ≠ k → p_says w k b c (17 + 4 * a + 1) = w (17 + 4 * a + 1) ∧ p_says w k b c (17 + 4 * a + 2) = w (17 + 4 * a + 2) ∧ p_says w k b c (17 + 4 * a + 3) = w (17 + 4 * a + 3) := fun a ha => by
    unfold p_says
    refine ⟨?_, ?_, ?_⟩ <;> rw [wU_n _ _ (by omega), wU_n _ _ (by omega), wU_n _ _ (by omega)]
  refine ⟨⟨by rw [lo _ (by omega)]; exact h0, by rw [lo _ (by omega)]; exact h1, by rw [lo _ (by omega)]; exact h2, by rw [lo _ (by omega)]; exact h3, by rw [lo _ (by omega)]; exact h4⟩, fun a ha => by rw [lo _ (by omega)]; exact hs a ha, fun a ha => ?_, fun j hj => ?_, fun a ha => ?_⟩
  · by_cases e : a = k
    · subst e; rw [e0, e1, e2, e3]; exact ⟨(hkk a ha).1, hb.2, by omega, by omega⟩
    · obtain ⟨q1, q2, q3⟩ := en a e; rw [e0, q1, q2, q3]; exact hkk a ha
  · unfold p_says; rw [wU_n _ _ (by omega), wU_n _ _ (by omega), wU_n _ _ (by omega)]; exact hz j hj
  · rw [lo 3 (by omega)] at ha
    rw [lo 2 (by omega)]
    by_cases e : a = k
    · subst e; rw [e0, e1, e2, e3, if_neg (by omega)]; exact ⟨(hw a ha).1, hc, rfl⟩
    · obtain ⟨q1, q2, q3⟩ := en a e; rw [e0, q1, q2, q3]; exact hw a ha
theorem p_says_hd (w : Nat → Nat) (k b c : Nat) {j : Nat} (hj : j < 17) : p_says w k b c j = w j := by
  unfold p_says
  rw [wU_n _ _ (by omega), wU_n _ _ (by omega), wU_n _ _ (by omega)]
theorem p_d1_rG {w v : Nat → Nat} (hv : rG v) (e2 : v 2 = w 2) (e3 : v 3 = w 3) (h2 : 0 < w 2) (x : Nat) : rG (p_d1 w x v) := by
  have h3 := hv.1.2.2.2.1
  have hu := hv.up0 (v := x % 16) (by have := Nat.mod_lt x (show 0 < 16 by decide); omega)
  unfold p_d1
  split
  · rename_i h
    exact hu.says (by have := Nat.mod_lt x h.1; omega) ⟨by omega, by have := Nat.mod_lt x (show 0 < 60 by decide); omega⟩ (by rw [wU_n _ _ (by omega), e2]; exact Nat.mod_lt x h2)
  · exact hu
theorem p_d1_hd (w : Nat → Nat) (x : Nat) (v : Nat → Nat) {j : Nat} (hj : j < 17) (h0 : j ≠ 0) : p_d1 w x v j = v j := by
  unfold p_d1
  split
  · rw [p_says_hd _ _ _ _ hj, wU_n _ _ h0]
  · rw [wU_n _ _ h0]
theorem p_dr_f {w : Nat → Nat} (hg : rG w) (h2 : 0 < w 2) (seed : Nat) : ∀ k, w 4 + k ≤ 19000 → rG (p_dr w seed k) ∧ p_dr w seed k 2 = w 2 ∧ p_dr w seed k 3 = w 3 ∧ p_dr w seed k 4 = w 4 + k
  | 0, _ => ⟨hg, rfl, rfl, rfl⟩
  | k + 1, hk => by
    obtain ⟨i1, i2, i3, i4⟩ := p_dr_f hg h2 seed k (by omega)
    have hd := p_d1_rG i1 i2 i3 h2 (p_dx seed (k + 1))
    have q4 : p_d1 w (p_dx seed (k + 1)) (p_dr w seed k) 4 = w 4 + k := by rw [p_d1_hd _ _ _ (by omega) (by omega), i4]
    show rG (p_passes _) ∧ p_passes _ 2 = _ ∧ p_passes _ 3 = _ ∧ p_passes _ 4 = _
    refine ⟨p_passes_rG hd (by rw [q4]; omega), ?_, ?_, ?_⟩
    · rw [p_passes_hd _ (by omega) (by omega), p_d1_hd _ _ _ (by omega) (by omega), i2]
    · rw [p_passes_hd _ (by omega) (by omega), p_d1_hd _ _ _ (by omega) (by omega), i3]
    · rw [p_passes_4, q4]; omega
theorem c_drawn0 (w : Nat → Nat) (M0 : jm_M) (hM : M0 17 = jm_n w) (hg : rG w) (hm : w 4 ≤ 9999) (h2 : 0 < w 2) (N sd : Nat) (a : Int32) (hN : N ≤ 60) (hs : sd ≤ 999999) : ∀ (m : Nat) (k : Nat) (y : Option Value), k ≤ N → N - k < m → jm_J none YX6_drawn 65 [some (.ref 11), some (.int (nI N)), some (.int (nI sd)), some (.int a), some (.long (lN (p_dx sd k))), none, some (.int (nI (p_do w sd k))), some (.int (nI k)), y] [] (jm_sf M0 19 (jm_n (p_dr w sd k))) (jm_q M0 (if a.toInt = 0 then nI (p_sm (p_dr w sd N) (w 3)) else nI (p_do w sd N))) := by
  intro m
  induction m with
  | zero => intros; omega
  | succ m ih =>
    intro k y hk hmm
    have hb := hg.hb
    have h3 := hg.1.2.2.2.1
    have h22 := hg.1.2.2.1
    obtain ⟨hG, e2, e3, e4⟩ := p_dr_f hg h2 sd k (by omega)
    have xl := p_dx_lt (show sd < 2147483647 by omega) k
    have xl1 := p_dx_lt (show sd < 2147483647 by omega) (k + 1)
    refine jm_iload (Y := YX6_drawn) (pc := 65) dX6_drawn_65 rfl ?_
    refine jm_ild_n (Y := YX6_drawn) (pc := 67) (i := 1) dX6_drawn_67 rfl rfl ?_
    refine jm_icmp_geN (Y := YX6_drawn) (pc := 68) dX6_drawn_68 rfl (by first | omega | exact jm_lt hb _ | exact jm_lt hG.hb _) (by first | omega | exact jm_lt hb _ | exact jm_lt hG.hb _) (fun h_68 => ?_) (fun h_68 => ?_)
    · refine jm_ild_n (Y := YX6_drawn) (pc := 181) (i := 3) dX6_drawn_181 rfl rfl ?_
      refine jm_if_ne (Y := YX6_drawn) (pc := 182) dX6_drawn_182 rfl (fun h_182 => ?_) (fun h_182 => ?_)
      · refine jm_iload (Y := YX6_drawn) (pc := 195) dX6_drawn_195 rfl ?_
        refine jm_ret (Y := YX6_drawn) (pc := 197) (st := []) dX6_drawn_197 rfl rfl ?_
        have ek : k = N := by omega
        subst ek
        first | exact jm_qi hG.z (by rw [if_pos (by rw [h_182]; decide), e3]) | exact jm_qi hG.z (by rw [if_neg (by intro z; exact h_182 (Int32.toInt_inj.mp (by rw [z]; decide)))]) | fail
      · refine jm_ald_n (Y := YX6_drawn) (pc := 185) (i := 0) dX6_drawn_185 rfl rfl ?_
        refine jm_getR (Y := YX6_drawn) (pc := 186) dX6_drawn_186 fr_RX6_31 rfl (by decide) rfl ?_
        refine jm_S1ie (Y := YX6_drawn) (pc := 189) dX6_drawn_189 lk_RX6_196 ⟨_, rfl⟩ rfl (by decide) (Nat.le_of_ble_eq_true rfl) ⟨by decide, by decide⟩ (c_sizes _ (p_dr w sd k) _ rfl jm_rdF hG) ?_
        refine jm_goto (Y := YX6_drawn) (pc := 192) dX6_drawn_192 rfl ?_
        refine jm_ret (Y := YX6_drawn) (pc := 197) (st := []) dX6_drawn_197 rfl rfl ?_
        have ek : k = N := by omega
        subst ek
        first | exact jm_qi hG.z (by rw [if_pos (by rw [h_182]; decide), e3]) | exact jm_qi hG.z (by rw [if_neg (by intro z; exact h_182 (Int32.toInt_inj.mp (by rw [z]; decide)))]) | fail
    · refine jm_lload (Y := YX6_drawn) (pc := 71) dX6_drawn_71 rfl ?_
      refine jm_ldc2 (Y := YX6_drawn) (pc := 73) (v := lN 16807) dX6_drawn_73 kl_RX6_216 ?_
      refine jm_lmulN (Y := YX6_drawn) (pc := 76) dX6_drawn_76 ?_
      refine jm_ldc2 (Y := YX6_drawn) (pc := 77) (v := lN 2147483647) dX6_drawn_77 kl_RX6_218 ?_
      refine jm_lremN (Y := YX6_drawn) (pc := 80) dX6_drawn_80 (by first | omega | exact jm_lt hb _ | exact jm_lt hG.hb _) (by first | omega | exact jm_lt hb _ | exact jm_lt hG.hb _) (by first | omega | exact jm_lt hb _ | exact jm_lt hG.hb _) ?_
      have ex : p_dx sd k * 16807 % 2147483647 = p_dx sd (k + 1) := rfl
      rw [ex]
      refine jm_lst (Y := YX6_drawn) (pc := 81) (i := 4) (ls' := [_, _, _, _, _, _, _, _, _]) dX6_drawn_81 (Nat.le_of_ble_eq_true rfl) rfl rfl ?_
      refine jm_ald_n (Y := YX6_drawn) (pc := 83) (i := 0) dX6_drawn_83 rfl rfl ?_
      refine jm_getR (Y := YX6_drawn) (pc := 84) dX6_drawn_84 fr_RX6_31 rfl (by decide) rfl ?_
      refine jm_icN (Y := YX6_drawn) (pc := 87) 0 dX6_drawn_87 rfl ?_
      refine jm_lload (Y := YX6_drawn) (pc := 88) dX6_drawn_88 rfl ?_
      refine jm_ldc2 (Y := YX6_drawn) (pc := 90) (v := lN 16) dX6_drawn_90 kl_RX6_220 ?_
      refine jm_lremN (Y := YX6_drawn) (pc := 93) dX6_drawn_93 (by first | omega | exact jm_lt hb _ | exact jm_lt hG.hb _) (by first | omega | exact jm_lt hb _ | exact jm_lt hG.hb _) (by first | omega | exact jm_lt hb _ | exact jm_lt hG.hb _) ?_
      refine jm_l2iN (Y := YX6_drawn) (pc := 94) dX6_drawn_94 ?_
      refine jm_iasW (Y := YX6_drawn) (pc := 95) (M0 := M0) (w := p_dr w sd k) dX6_drawn_95 rfl rfl (by omega) ?_
      refine jm_ald_n (Y := YX6_drawn) (pc := 96) (i := 0) dX6_drawn_96 rfl rfl ?_
      refine jm_getR (Y := YX6_drawn) (pc := 97) dX6_drawn_97 fr_RX6_25 rfl (by decide) rfl ?_
      refine jm_icN (Y := YX6_drawn) (pc := 100) 3 dX6_drawn_100 rfl ?_
      refine jm_ialN (Y := YX6_drawn) (pc := 101) dX6_drawn_101 (by first | assumption | exact jm_arR1 ha | exact jm_arR2 ha | exact jm_arR3 ha | exact jm_arR1 hb | exact jm_arR2 hb | exact jm_arR3 hb | rfl) (by first | omega | exact jm_lt hb _ | exact jm_lt hG.hb _) (by first | assumption | exact jm_rdW | exact jm_rdN (jm_17 hM) | rfl) ?_
      refine jm_if_leN (Y := YX6_drawn) (pc := 102) dX6_drawn_102 rfl (by first | omega | exact jm_lt hb _ | exact jm_lt hG.hb _) (fun h_102 => ?_) (fun h_102 => ?_)
      · have hd := p_d1_rG hG e2 e3 h2 (p_dx sd (k + 1))
        have e1 : p_d1 w (p_dx sd (k + 1)) (p_dr w sd k) = wU (p_dr w sd k) 0 (p_dx sd (k + 1) % 16) := if_neg (by omega)
        have eo : p_do w sd (k + 1) = p_do w sd k := (by show p_do w sd k + p_d2 _ _ _ = p_do w sd k; unfold p_d2; rw [if_neg (by omega)]; rfl)
        rw [← e1]
        refine jm_ald_n (Y := YX6_drawn) (pc := 168) (i := 0) dX6_drawn_168 rfl rfl ?_
        refine jm_getR (Y := YX6_drawn) (pc := 169) dX6_drawn_169 fr_RX6_31 rfl (by decide) rfl ?_
        refine jm_S1ve (Y := YX6_drawn) (pc := 172) dX6_drawn_172 lk_RX6_168 rfl rfl (by decide) (Nat.le_of_ble_eq_true rfl) ⟨by decide, by decide⟩ (c_paT _ M0 hd) ?_
        refine jm_incN (Y := YX6_drawn) (pc := 175) (m := 1) (ls' := [_, _, _, _, _, _, _, _, _]) dX6_drawn_175 rfl rfl rfl rfl ?_
        refine jm_goto (Y := YX6_drawn) (pc := 178) dX6_drawn_178 rfl ?_
        rw [← eo]
        exact ih (k + 1) _ (by omega) (by omega)
      · refine jm_lload (Y := YX6_drawn) (pc := 105) dX6_drawn_105 rfl ?_
        refine jm_ald_n (Y := YX6_drawn) (pc := 107) (i := 0) dX6_drawn_107 rfl rfl ?_
        refine jm_getR (Y := YX6_drawn) (pc := 108) dX6_drawn_108 fr_RX6_25 rfl (by decide) rfl ?_
        refine jm_icN (Y := YX6_drawn) (pc := 111) 3 dX6_drawn_111 rfl ?_
        refine jm_ialN (Y := YX6_drawn) (pc := 112) dX6_drawn_112 (by first | assumption | exact jm_arR1 ha | exact jm_arR2 ha | exact jm_arR3 ha | exact jm_arR1 hb | exact jm_arR2 hb | exact jm_arR3 hb | rfl) (by first | omega | exact jm_lt hb _ | exact jm_lt hG.hb _) (by first | assumption | exact jm_rdW | exact jm_rdN (jm_17 hM) | rfl) ?_
        refine jm_i2lN (Y := YX6_drawn) (pc := 113) dX6_drawn_113 (by first | omega | exact jm_lt hb _ | exact jm_lt hG.hb _) ?_
        refine jm_lremN (Y := YX6_drawn) (pc := 114) dX6_drawn_114 (by first | omega | exact jm_lt hb _ | exact jm_lt hG.hb _) (by first | omega | exact jm_lt hb _ | exact jm_lt hG.hb _) (by first | omega | exact jm_lt hb _ | exact jm_lt hG.hb _) ?_
        refine jm_l2iN (Y := YX6_drawn) (pc := 115) dX6_drawn_115 ?_
        refine jm_ist (Y := YX6_drawn) (pc := 116) (ls' := [_, _, _, _, _, _, _, _, _]) dX6_drawn_116 (Nat.le_of_ble_eq_true rfl) rfl rfl ?_
        have hx3 : p_dx sd (k + 1) % w 3 < w 3 := Nat.mod_lt _ h_102
        have hx2 : p_dx sd (k + 1) % w 2 < w 2 := Nat.mod_lt _ h2
        have hx60 : p_dx sd (k + 1) % 60 < 60 := Nat.mod_lt _ (by decide)
        have eg : wU (p_dr w sd k) 0 (p_dx sd (k + 1) % 16) (17 + 4 * (p_dx sd (k + 1) % w 3) + 3) = p_dr w sd k (17 + 4 * (p_dx sd (k + 1) % w 3) + 3) := wU_n _ _ (by omega)
        have hgn := hG.hb (17 + 4 * (p_dx sd (k + 1) % w 3) + 3)
        refine jm_ald_n (Y := YX6_drawn) (pc := 118) (i := 0) dX6_drawn_118 rfl rfl ?_
        refine jm_getR (Y := YX6_drawn) (pc := 119) dX6_drawn_119 fr_RX6_31 rfl (by decide) rfl ?_
        refine jm_bpN (Y := YX6_drawn) (pc := 122) 17 dX6_drawn_122 rfl ?_
        refine jm_icN (Y := YX6_drawn) (pc := 124) 4 dX6_drawn_124 rfl ?_
        refine jm_iload (Y := YX6_drawn) (pc := 125) dX6_drawn_125 rfl ?_
        refine jm_mulN (Y := YX6_drawn) (pc := 127) dX6_drawn_127 ?_
        refine jm_addN (Y := YX6_drawn) (pc := 128) dX6_drawn_128 ?_
        refine jm_icN (Y := YX6_drawn) (pc := 129) 3 dX6_drawn_129 rfl ?_
        refine jm_addN (Y := YX6_drawn) (pc := 130) dX6_drawn_130 ?_
        refine jm_ialN (Y := YX6_drawn) (pc := 131) dX6_drawn_131 (by first | assumption | exact jm_arR1 ha | exact jm_arR2 ha | exact jm_arR3 ha | exact jm_arR1 hb | exact jm_arR2 hb | exact jm_arR3 hb | rfl) (by first | omega | exact jm_lt hb _ | exact jm_lt hG.hb _) (by first | assumption | exact jm_rdW | exact jm_rdN (jm_17 hM) | rfl) ?_
        refine jm_icN (Y := YX6_drawn) (pc := 132) 1 dX6_drawn_132 rfl ?_
        refine jm_icmp_neN (Y := YX6_drawn) (pc := 133) dX6_drawn_133 rfl (by first | omega | exact jm_lt hb _ | exact jm_lt hG.hb _) (by first | omega | exact jm_lt hb _ | exact jm_lt hG.hb _) (fun h_133 => ?_) (fun h_133 => ?_)
        · have hd := p_d1_rG hG e2 e3 h2 (p_dx sd (k + 1))
          have e1 : p_d1 w (p_dx sd (k + 1)) (p_dr w sd k) = wU (p_dr w sd k) 0 (p_dx sd (k + 1) % 16) := if_neg (fun z => h_133 (by rw [eg]; exact z.2))
          have eo : p_do w sd (k + 1) = p_do w sd k := (by show p_do w sd k + p_d2 _ _ _ = p_do w sd k; unfold p_d2; rw [if_neg (fun z => h_133 (by rw [eg]; exact z.2))]; rfl)
          rw [← e1]
          refine jm_ald_n (Y := YX6_drawn) (pc := 168) (i := 0) dX6_drawn_168 rfl rfl ?_
          refine jm_getR (Y := YX6_drawn) (pc := 169) dX6_drawn_169 fr_RX6_31 rfl (by decide) rfl ?_
          refine jm_S1ve (Y := YX6_drawn) (pc := 172) dX6_drawn_172 lk_RX6_168 rfl rfl (by decide) (Nat.le_of_ble_eq_true rfl) ⟨by decide, by decide⟩ (c_paT _ M0 hd) ?_
          refine jm_incN (Y := YX6_drawn) (pc := 175) (m := 1) (ls' := [_, _, _, _, _, _, _, _, _]) dX6_drawn_175 rfl rfl rfl rfl ?_
          refine jm_goto (Y := YX6_drawn) (pc := 178) dX6_drawn_178 rfl ?_
          rw [← eo]
          exact ih (k + 1) _ (by omega) (by omega)
        · refine jm_ald_n (Y := YX6_drawn) (pc := 136) (i := 0) dX6_drawn_136 rfl rfl ?_
          refine jm_getR (Y := YX6_drawn) (pc := 137) dX6_drawn_137 fr_RX6_31 rfl (by decide) rfl ?_
          refine jm_iload (Y := YX6_drawn) (pc := 140) dX6_drawn_140 rfl ?_
          refine jm_lload (Y := YX6_drawn) (pc := 142) dX6_drawn_142 rfl ?_
          refine jm_ldc2 (Y := YX6_drawn) (pc := 144) (v := lN 60) dX6_drawn_144 kl_RX6_222 ?_
          refine jm_lremN (Y := YX6_drawn) (pc := 147) dX6_drawn_147 (by first | omega | exact jm_lt hb _ | exact jm_lt hG.hb _) (by first | omega | exact jm_lt hb _ | exact jm_lt hG.hb _) (by first | omega | exact jm_lt hb _ | exact jm_lt hG.hb _) ?_
          refine jm_l2iN (Y := YX6_drawn) (pc := 148) dX6_drawn_148 ?_
          refine jm_icN (Y := YX6_drawn) (pc := 149) 1 dX6_drawn_149 rfl ?_
          refine jm_addN (Y := YX6_drawn) (pc := 150) dX6_drawn_150 ?_
          refine jm_lload (Y := YX6_drawn) (pc := 151) dX6_drawn_151 rfl ?_
          refine jm_ald_n (Y := YX6_drawn) (pc := 153) (i := 0) dX6_drawn_153 rfl rfl ?_
          refine jm_getR (Y := YX6_drawn) (pc := 154) dX6_drawn_154 fr_RX6_25 rfl (by decide) rfl ?_
          refine jm_icN (Y := YX6_drawn) (pc := 157) 2 dX6_drawn_157 rfl ?_
          refine jm_ialN (Y := YX6_drawn) (pc := 158) dX6_drawn_158 (by first | assumption | exact jm_arR1 ha | exact jm_arR2 ha | exact jm_arR3 ha | exact jm_arR1 hb | exact jm_arR2 hb | exact jm_arR3 hb | rfl) (by first | omega | exact jm_lt hb _ | exact jm_lt hG.hb _) (by first | assumption | exact jm_rdW | exact jm_rdN (jm_17 hM) | rfl) ?_
          refine jm_i2lN (Y := YX6_drawn) (pc := 159) dX6_drawn_159 (by first | omega | exact jm_lt hb _ | exact jm_lt hG.hb _) ?_
          refine jm_lremN (Y := YX6_drawn) (pc := 160) dX6_drawn_160 (by first | omega | exact jm_lt hb _ | exact jm_lt hG.hb _) (by first | omega | exact jm_lt hb _ | exact jm_lt hG.hb _) (by first | omega | exact jm_lt hb _ | exact jm_lt hG.hb _) ?_
          refine jm_l2iN (Y := YX6_drawn) (pc := 161) dX6_drawn_161 ?_
          refine jm_S4ve (Y := YX6_drawn) (pc := 162) dX6_drawn_162 lk_RX6_182 rfl rfl rfl rfl rfl (by decide) (Nat.le_of_ble_eq_true rfl) ⟨by decide, by decide⟩ ((by have h9 := c_says 19 (wU (p_dr w sd k) 0 (p_dx sd (k + 1) % 16)) (p_dx sd (k + 1) % w 3) (p_dx sd (k + 1) % 60 + 1) (p_dx sd (k + 1) % w 2) (jm_sf M0 19 (jm_n (wU (p_dr w sd k) 0 (p_dx sd (k + 1) % 16)))) rfl jm_rdF (by omega); rw [jm_sfsf] at h9; exact h9)) ?_
          refine jm_incN (Y := YX6_drawn) (pc := 165) (m := 1) (ls' := [_, _, _, _, _, _, _, _, _]) dX6_drawn_165 rfl rfl rfl rfl ?_
          have hd := p_d1_rG hG e2 e3 h2 (p_dx sd (k + 1))
          have e1 : p_d1 w (p_dx sd (k + 1)) (p_dr w sd k) = p_says (wU (p_dr w sd k) 0 (p_dx sd (k + 1) % 16)) (p_dx sd (k + 1) % w 3) (p_dx sd (k + 1) % 60 + 1) (p_dx sd (k + 1) % w 2) := if_pos ⟨h_102, by first | (rw [← eg]; exact h_133) | (rw [← eg]; exact Decidable.not_not.mp h_133)⟩
          have eo : p_do w sd (k + 1) = p_do w sd k + 1 := (by show p_do w sd k + p_d2 _ _ _ = _; unfold p_d2; rw [if_pos ⟨h_102, by first | (rw [← eg]; exact h_133) | (rw [← eg]; exact Decidable.not_not.mp h_133)⟩])
          rw [← e1]
          refine jm_ald_n (Y := YX6_drawn) (pc := 168) (i := 0) dX6_drawn_168 rfl rfl ?_
          refine jm_getR (Y := YX6_drawn) (pc := 169) dX6_drawn_169 fr_RX6_31 rfl (by decide) rfl ?_
          refine jm_S1ve (Y := YX6_drawn) (pc := 172) dX6_drawn_172 lk_RX6_168 rfl rfl (by decide) (Nat.le_of_ble_eq_true rfl) ⟨by decide, by decide⟩ (c_paT _ M0 hd) ?_
          refine jm_incN (Y := YX6_drawn) (pc := 175) (m := 1) (ls' := [_, _, _, _, _, _, _, _, _]) dX6_drawn_175 rfl rfl rfl rfl ?_
          refine jm_goto (Y := YX6_drawn) (pc := 178) dX6_drawn_178 rfl ?_
          rw [← eo]
          exact ih (k + 1) _ (by omega) (by omega)
def q_drawn (w : Nat → Nat) (n sd a : Int32) : Int32 := if w 2 = 0 then -1000002 else if 0 ≤ n.toInt ∧ n.toInt ≤ 60 ∧ 1 ≤ sd.toInt ∧ sd.toInt ≤ 999999 ∧ 0 ≤ a.toInt ∧ a.toInt ≤ 1 then (if a.toInt = 0 then nI (p_sm (p_dr w sd.toInt.toNat n.toInt.toNat) (w 3)) else nI (p_do w sd.toInt.toNat n.toInt.toNat)) else -1000001
theorem c_drawn (w g : Nat → Nat) (M0 : jm_M) (hM : M0 17 = jm_n w) (hg : rG w) (hz : ∀ j, 45 ≤ j → g j = 0) (hm : w 4 ≤ 9999) (n sd a : Int32) : jm_J none YX6_drawn 0 [some (.ref 11), some (.int n), some (.int sd), some (.int a), none, none, none, none, none] [] (jm_sf M0 19 (jm_n g)) (jm_q M0 (q_drawn w n sd a)) := by
  have hb := hg.hb
  have h3 := hg.1.2.2.2.1
  have h2 := hg.1.2.2.1
  refine jm_ald_n (Y := YX6_drawn) (pc := 0) (i := 0) dX6_drawn_0 rfl rfl ?_
  refine jm_V0ie (Y := YX6_drawn) (pc := 1) dX6_drawn_1 lk_RX6_161 ⟨_, rfl⟩ rfl (by decide) (Nat.le_of_ble_eq_true rfl) ⟨by decide, by decide⟩ (c_isRiver w _ (jm_17 hM) hg) ?_
  refine jm_if_neB (Y := YX6_drawn) (pc := 4) dX6_drawn_4 rfl (fun h_4 => ?_) (fun h_4 => ?_)
  · refine jm_ild_n (Y := YX6_drawn) (pc := 10) (i := 1) dX6_drawn_10 rfl rfl ?_
    refine jm_icN (Y := YX6_drawn) (pc := 11) 0 dX6_drawn_11 rfl ?_
    refine jm_bpN (Y := YX6_drawn) (pc := 12) 60 dX6_drawn_12 rfl ?_
    refine jm_S3ie (Y := YX6_drawn) (pc := 14) dX6_drawn_14 lk_RX6_53 ⟨_, rfl⟩ rfl rfl rfl (by decide) (Nat.le_of_ble_eq_true rfl) ⟨by decide, by decide⟩ (c_inN _ _ _ _ (by decide) (by decide)) ?_
    refine jm_if_eqB (Y := YX6_drawn) (pc := 17) dX6_drawn_17 rfl (fun h_17 => ?_) (fun h_17 => ?_)
    · refine jm_ldc (Y := YX6_drawn) (pc := 39) (v := -1000001) dX6_drawn_39 kc_RX6_61 ?_
      refine jm_ret (Y := YX6_drawn) (pc := 41) (st := []) dX6_drawn_41 rfl rfl ?_
      unfold q_drawn
      first | exact jm_qi hz (by rw [if_pos (by omega)]) | exact jm_qi hz (by rw [if_neg (by omega), if_neg (by omega)]) | fail
    · refine jm_ild_n (Y := YX6_drawn) (pc := 20) (i := 2) dX6_drawn_20 rfl rfl ?_
      refine jm_icN (Y := YX6_drawn) (pc := 21) 1 dX6_drawn_21 rfl ?_
      refine jm_ldc (Y := YX6_drawn) (pc := 22) (v := nI 999999) dX6_drawn_22 kc_RX6_215 ?_
      refine jm_S3ie (Y := YX6_drawn) (pc := 24) dX6_drawn_24 lk_RX6_53 ⟨_, rfl⟩ rfl rfl rfl (by decide) (Nat.le_of_ble_eq_true rfl) ⟨by decide, by decide⟩ (c_inN _ _ _ _ (by decide) (by decide)) ?_
      refine jm_if_eqB (Y := YX6_drawn) (pc := 27) dX6_drawn_27 rfl (fun h_27 => ?_) (fun h_27 => ?_)
      · refine jm_ldc (Y := YX6_drawn) (pc := 39) (v := -1000001) dX6_drawn_39 kc_RX6_61 ?_
        refine jm_ret (Y := YX6_drawn) (pc := 41) (st := []) dX6_drawn_41 rfl rfl ?_
        unfold q_drawn
        first | exact jm_qi hz (by rw [if_pos (by omega)]) | exact jm_qi hz (by rw [if_neg (by omega), if_neg (by omega)]) | fail
      · refine jm_ild_n (Y := YX6_drawn) (pc := 30) (i := 3) dX6_drawn_30 rfl rfl ?_
        refine jm_icN (Y := YX6_drawn) (pc := 31) 0 dX6_drawn_31 rfl ?_
        refine jm_icN (Y := YX6_drawn) (pc := 32) 1 dX6_drawn_32 rfl ?_
        refine jm_S3ie (Y := YX6_drawn) (pc := 33) dX6_drawn_33 lk_RX6_53 ⟨_, rfl⟩ rfl rfl rfl (by decide) (Nat.le_of_ble_eq_true rfl) ⟨by decide, by decide⟩ (c_inN _ _ _ _ (by decide) (by decide)) ?_
        refine jm_if_neB (Y := YX6_drawn) (pc := 36) dX6_drawn_36 rfl (fun h_36 => ?_) (fun h_36 => ?_)
        · obtain ⟨N, h_N, rfl, t_N, n_N⟩ := jm_ofL (v := n) (n := 61) (by omega) (by omega)
          obtain ⟨s, h_s, rfl, t_s, n_s⟩ := jm_ofL (v := sd) (n := 1000000) (by omega) (by omega)
          refine jm_ald_n (Y := YX6_drawn) (pc := 42) (i := 0) dX6_drawn_42 rfl rfl ?_
          refine jm_getR (Y := YX6_drawn) (pc := 43) dX6_drawn_43 fr_RX6_25 rfl (by decide) rfl ?_
          refine jm_icN (Y := YX6_drawn) (pc := 46) 0 dX6_drawn_46 rfl ?_
          refine jm_ald_n (Y := YX6_drawn) (pc := 47) (i := 0) dX6_drawn_47 rfl rfl ?_
          refine jm_getR (Y := YX6_drawn) (pc := 48) dX6_drawn_48 fr_RX6_31 rfl (by decide) rfl ?_
          refine jm_icN (Y := YX6_drawn) (pc := 51) 0 dX6_drawn_51 rfl ?_
          refine jm_S4ve (Y := YX6_drawn) (pc := 52) dX6_drawn_52 lk_RX6_135 rfl rfl rfl rfl rfl (by decide) (Nat.le_of_ble_eq_true rfl) ⟨by decide, by decide⟩ (c_cpT w _ M0 hM hg.z (by assumption)) ?_
          refine jm_ild_n (Y := YX6_drawn) (pc := 55) (i := 2) dX6_drawn_55 rfl rfl ?_
          refine jm_i2lN (Y := YX6_drawn) (pc := 56) dX6_drawn_56 (by first | omega | exact jm_lt hb _) ?_
          refine jm_lst (Y := YX6_drawn) (pc := 57) (ls' := [_, _, _, _, _, _, _, _, _]) dX6_drawn_57 (Nat.le_of_ble_eq_true rfl) rfl rfl ?_
          refine jm_icN (Y := YX6_drawn) (pc := 59) 0 dX6_drawn_59 rfl ?_
          refine jm_ist (Y := YX6_drawn) (pc := 60) (ls' := [_, _, _, _, _, _, _, _, _]) dX6_drawn_60 (Nat.le_of_ble_eq_true rfl) rfl rfl ?_
          refine jm_icN (Y := YX6_drawn) (pc := 62) 0 dX6_drawn_62 rfl ?_
          refine jm_ist (Y := YX6_drawn) (pc := 63) (ls' := [_, _, _, _, _, _, _, _, _]) dX6_drawn_63 (Nat.le_of_ble_eq_true rfl) rfl rfl ?_
          have e : q_drawn w (nI N) (nI s) a = (if a.toInt = 0 then nI (p_sm (p_dr w s N) (w 3)) else nI (p_do w s N)) := (by unfold q_drawn; rw [if_neg (by omega), if_pos (by omega), n_N, n_s])
          rw [e]
          exact c_drawn0 w M0 hM hg hm (by omega) N s a (by omega) (by omega) (N + 1) 0 none (by omega) (by omega)
        · refine jm_ldc (Y := YX6_drawn) (pc := 39) (v := -1000001) dX6_drawn_39 kc_RX6_61 ?_
          refine jm_ret (Y := YX6_drawn) (pc := 41) (st := []) dX6_drawn_41 rfl rfl ?_
          unfold q_drawn
          first | exact jm_qi hz (by rw [if_pos (by omega)]) | exact jm_qi hz (by rw [if_neg (by omega), if_neg (by omega)]) | fail
  · refine jm_ldc (Y := YX6_drawn) (pc := 7) (v := -1000002) dX6_drawn_7 kc_RX6_164 ?_
    refine jm_ret (Y := YX6_drawn) (pc := 9) (st := []) dX6_drawn_9 rfl rfl ?_
    unfold q_drawn
    first | exact jm_qi hz (by rw [if_pos (by omega)]) | exact jm_qi hz (by rw [if_neg (by omega), if_neg (by omega)]) | fail
