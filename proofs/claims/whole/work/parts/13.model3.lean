/-! the reference: rows copied, counted, asked -/
def p_on (w : Nat → Nat) : Nat → Nat → Nat
  | 0 => w
  | n + 1 => p_passes (p_on w n)
theorem p_on_4 (w : Nat → Nat) : ∀ n, p_on w n 4 = w 4 + n
  | 0 => rfl
  | n + 1 => by
    show p_passes (p_on w n) 4 = _
    rw [p_passes_4, p_on_4 w n]
    omega
theorem p_on_hd (w : Nat → Nat) {j : Nat} (hj : j < 17) (h4 : j ≠ 4) : ∀ n, p_on w n j = w j
  | 0 => rfl
  | n + 1 => by
    show p_passes (p_on w n) j = _
    rw [p_passes_hd _ hj h4, p_on_hd w hj h4 n]
theorem p_on_rG {w : Nat → Nat} (h : rG w) : ∀ n, w 4 + n ≤ 19000 → rG (p_on w n)
  | 0, _ => h
  | n + 1, hn => p_passes_rG (p_on_rG h n (by omega)) (by rw [p_on_4]; omega)
def p_cp (f g : Nat → Nat) (a b n : Nat) : Nat → Nat := fun x => if b ≤ x ∧ x < b + n then f (a + (x - b)) else g x
theorem p_cp_0 (f g : Nat → Nat) (a b : Nat) : p_cp f g a b 0 = g := by
  funext x
  unfold p_cp
  rw [if_neg (by omega)]
theorem p_cp_s (f g : Nat → Nat) (a b n : Nat) : wU (p_cp f g a b n) (b + n) (f (a + n)) = p_cp f g a b (n + 1) := by
  funext x
  unfold wU p_cp
  by_cases h : x = b + n
  · subst h
    rw [if_pos rfl, if_pos (by omega)]
    congr 1
    omega
  · rw [if_neg h]
    by_cases h2 : b ≤ x ∧ x < b + n
    · rw [if_pos h2, if_pos (by omega)]
    · rw [if_neg h2, if_neg (by omega)]
theorem p_cp_whole {f g : Nat → Nat} (hf : ∀ j, 45 ≤ j → f j = 0) (hg : ∀ j, 45 ≤ j → g j = 0) : p_cp f g 0 0 45 = f := by
  funext x
  unfold p_cp
  by_cases h : 0 ≤ x ∧ x < 0 + 45
  · rw [if_pos h]; congr 1; omega
  · rw [if_neg h, hf x (by omega), hg x (by omega)]
theorem jm_ar2k {i t n : Nat} (h : jm_ar i = some (t, n)) : n < 2000 := by
  have key : ∀ i, i < 144 → (jm_ar i).all (fun q => decide (q.2 < 2000)) = true := by decide +kernel
  have h2 := key i (jm_ar_lt h)
  rw [h] at h2
  exact of_decide_eq_true h2
theorem c_copies0 (i j n0 n1 a b : Nat) (f g : Nat → Nat) (M0 : jm_M) (hi : jm_ar i = some (0, n0)) (hj : jm_ar j = some (0, n1)) (hij : i ≠ j) (hf : M0 i = jm_n f) (ha : a + 45 ≤ n0) (hb : b + 45 ≤ n1) (ha2 : a ≤ 100000) (hb2 : b ≤ 100000) : ∀ (m : Nat) (n : Nat), n ≤ 45 → 45 - n < m → jm_J none YX6_copies 3 [some (.ref i), some (.int (nI a)), some (.ref j), some (.int (nI b)), some (.int (nI n))] [] (jm_sf M0 j (jm_n (p_cp f g a b n))) (jm_is none (jm_sf M0 j (jm_n (p_cp f g a b 45)))) := by
  intro m
  induction m with
  | zero => intros; omega
  | succ m ih =>
    intro n hn hm
    have e : jm_sf M0 j (jm_n (p_cp f g a b n)) i = jm_n f := by rw [jm_sf_n _ _ hij]; exact hf
    refine jm_iload (Y := YX6_copies) (pc := 3) dX6_copies_3 rfl ?_
    refine jm_bpN (Y := YX6_copies) (pc := 5) 45 dX6_copies_5 rfl ?_
    refine jm_icmp_geN (Y := YX6_copies) (pc := 7) dX6_copies_7 rfl (by omega) (by omega) (fun h_7 => ?_) (fun h_7 => ?_)
    · refine jm_retv (Y := YX6_copies) (pc := 28) (st := []) dX6_copies_28 rfl ?_
      have en : n = 45 := by omega
      subst en
      exact ⟨rfl, rfl⟩
    · refine jm_ald_n (Y := YX6_copies) (pc := 10) (i := 2) dX6_copies_10 rfl rfl ?_
      refine jm_ild_n (Y := YX6_copies) (pc := 11) (i := 3) dX6_copies_11 rfl rfl ?_
      refine jm_iload (Y := YX6_copies) (pc := 12) dX6_copies_12 rfl ?_
      refine jm_addN (Y := YX6_copies) (pc := 14) dX6_copies_14 ?_
      refine jm_ald_n (Y := YX6_copies) (pc := 15) (i := 0) dX6_copies_15 rfl rfl ?_
      refine jm_ild_n (Y := YX6_copies) (pc := 16) (i := 1) dX6_copies_16 rfl rfl ?_
      refine jm_iload (Y := YX6_copies) (pc := 17) dX6_copies_17 rfl ?_
      refine jm_addN (Y := YX6_copies) (pc := 19) dX6_copies_19 ?_
      refine jm_ialN (Y := YX6_copies) (pc := 20) dX6_copies_20 (by assumption) (by omega) (by first | assumption | exact jm_rdN e | rfl) ?_
      refine jm_iasW (Y := YX6_copies) (pc := 21) (M0 := M0) (w := p_cp f g a b n) dX6_copies_21 hj rfl (by omega) ?_
      rw [p_cp_s]
      refine jm_incN (Y := YX6_copies) (pc := 22) (m := 1) (ls' := [_, _, _, _, _]) dX6_copies_22 rfl rfl rfl rfl ?_
      refine jm_goto (Y := YX6_copies) (pc := 25) dX6_copies_25 rfl ?_
      exact ih (n + 1) (by omega) (by omega)
theorem c_copies (i j n0 n1 a b : Nat) (f g : Nat → Nat) (M : jm_M) (hi : jm_ar i = some (0, n0)) (hj : jm_ar j = some (0, n1)) (hij : i ≠ j) (hf : M i = jm_n f) (hg : M j = jm_n g) (ha : a + 45 ≤ n0) (hb : b + 45 ≤ n1) : jm_J none YX6_copies 0 [some (.ref i), some (.int (nI a)), some (.ref j), some (.int (nI b)), none] [] M (jm_is none (jm_sf M j (jm_n (p_cp f g a b 45)))) := by
  refine jm_icN (Y := YX6_copies) (pc := 0) 0 dX6_copies_0 rfl ?_
  refine jm_ist (Y := YX6_copies) (pc := 1) (ls' := [_, _, _, _, _]) dX6_copies_1 (Nat.le_of_ble_eq_true rfl) rfl rfl ?_
  have q0 := jm_ar2k hi
  have q1 := jm_ar2k hj
  have key := c_copies0 i j n0 n1 a b f g M hi hj hij hf ha hb (by omega) (by omega) 46 0 (by omega) (by omega)
  rw [p_cp_0, jm_sfid hg] at key
  exact key
theorem c_goesOn0 (w : Nat → Nat) (M0 : jm_M) (hg : rG w) (N : Nat) (hN : w 4 + N ≤ 19000) : ∀ (m : Nat) (n : Nat), n ≤ N → N - n < m → jm_J none YX6_goesOn 2 [some (.ref 11), some (.int (nI N)), some (.int (nI n))] [] (jm_sf M0 19 (jm_n (p_on w n))) (jm_is none (jm_sf M0 19 (jm_n (p_on w N)))) := by
  intro m
  induction m with
  | zero => intros; omega
  | succ m ih =>
    intro n hn hm
    have hG := p_on_rG hg n (by omega)
    refine jm_ild_n (Y := YX6_goesOn) (pc := 2) (i := 2) dX6_goesOn_2 rfl rfl ?_
    refine jm_ild_n (Y := YX6_goesOn) (pc := 3) (i := 1) dX6_goesOn_3 rfl rfl ?_
    refine jm_icmp_geN (Y := YX6_goesOn) (pc := 4) dX6_goesOn_4 rfl (by omega) (by omega) (fun h_4 => ?_) (fun h_4 => ?_)
    · refine jm_retv (Y := YX6_goesOn) (pc := 20) (st := []) dX6_goesOn_20 rfl ?_
      have en : n = N := by omega
      subst en
      exact ⟨rfl, rfl⟩
    · refine jm_ald_n (Y := YX6_goesOn) (pc := 7) (i := 0) dX6_goesOn_7 rfl rfl ?_
      refine jm_getR (Y := YX6_goesOn) (pc := 8) dX6_goesOn_8 fr_RX6_31 rfl (by decide) rfl ?_
      refine jm_S1ve (Y := YX6_goesOn) (pc := 11) dX6_goesOn_11 lk_RX6_168 rfl rfl (by decide) (Nat.le_of_ble_eq_true rfl) ⟨by decide, by decide⟩ (c_passes 19 (p_on w n) _ rfl jm_rdF hG) ?_
      refine jm_incN (Y := YX6_goesOn) (pc := 14) (m := 1) (ls' := [_, _, _]) dX6_goesOn_14 rfl rfl rfl rfl ?_
      refine jm_goto (Y := YX6_goesOn) (pc := 17) dX6_goesOn_17 rfl ?_
      rw [jm_sfsf]
      exact ih (n + 1) (by omega) (by omega)
theorem c_goesOn (w : Nat → Nat) (N : Nat) (M : jm_M) (hM : M 19 = jm_n w) (hg : rG w) (hN : w 4 + N ≤ 19000) : jm_J none YX6_goesOn 0 [some (.ref 11), some (.int (nI N)), none] [] M (jm_is none (jm_sf M 19 (jm_n (p_on w N)))) := by
  refine jm_icN (Y := YX6_goesOn) (pc := 0) 0 dX6_goesOn_0 rfl ?_
  refine jm_ist_n (Y := YX6_goesOn) (pc := 1) (i := 2) (ls' := [_, _, _]) dX6_goesOn_1 rfl (Nat.le_of_ble_eq_true rfl) rfl rfl ?_
  have key := c_goesOn0 w M hg N hN (N + 1) 0 (by omega) (by omega)
  have e : jm_sf M 19 (jm_n (p_on w 0)) = M := jm_sfid hM
  rw [e] at key
  exact key
def p_gn (w : Nat → Nat) : Nat → Nat
  | 0 => 0
  | n + 1 => p_gn w n ||| (w (17 + 4 * n + 3) * 2 ^ n)
def p_sm (w : Nat → Nat) : Nat → Nat
  | 0 => 0
  | n + 1 => p_sm w n + w (17 + 4 * n + 1)
theorem p_sm_le {w : Nat → Nat} (h : rG w) : ∀ n, n ≤ 7 → p_sm w n ≤ 60 * n
  | 0, _ => by show 0 ≤ 0; omega
  | n + 1, hn => by
    have := p_sm_le h n (by omega)
    have := (h.2.2.1 n (by omega)).2.1
    show p_sm w n + w (17 + 4 * n + 1) ≤ _
    omega
theorem p_2n {n : Nat} (h : n ≤ 12) : 2 ^ n ≤ 4096 := Nat.pow_le_pow_right (by decide) h
def p_wh (w : Nat → Nat) (k : Nat) : Int32 := if w (17 + 4 * k + 3) = 1 then -1000000 else nI (w (17 + 4 * k + 2))
theorem c_goneOf0 (i : Nat) (w : Nat → Nat) (M : jm_M) (hi : jm_ar i = some (0, 45)) (hM : M i = jm_n w) (hg : rG w) : ∀ (m : Nat) (n : Nat), n ≤ w 3 → w 3 - n < m → jm_J none YX6_goneOf 4 [some (.ref i), some (.int (nI (p_gn w n))), some (.int (nI n))] [] M (jm_is (some (.int (nI (p_gn w (w 3))))) M) := by
  intro m
  induction m with
  | zero => intros; omega
  | succ m ih =>
    intro n hn hm
    have hb := hg.hb
    have h3 := hg.1.2.2.2.1
    refine jm_ild_n (Y := YX6_goneOf) (pc := 4) (i := 2) dX6_goneOf_4 rfl rfl ?_
    refine jm_ald_n (Y := YX6_goneOf) (pc := 5) (i := 0) dX6_goneOf_5 rfl rfl ?_
    refine jm_icN (Y := YX6_goneOf) (pc := 6) 3 dX6_goneOf_6 rfl ?_
    refine jm_ialN (Y := YX6_goneOf) (pc := 7) dX6_goneOf_7 (by first | assumption | exact jm_arR1 ha | exact jm_arR2 ha | exact jm_arR3 ha | exact jm_arR1 hb | exact jm_arR2 hb | exact jm_arR3 hb | rfl) (by first | omega | exact jm_lt hb _) (by first | assumption | exact jm_rdN hM | rfl) ?_
    refine jm_icmp_geN (Y := YX6_goneOf) (pc := 8) dX6_goneOf_8 rfl (by first | omega | exact jm_lt hb _) (by first | omega | exact jm_lt hb _) (fun h_8 => ?_) (fun h_8 => ?_)
    · refine jm_ild_n (Y := YX6_goneOf) (pc := 32) (i := 1) dX6_goneOf_32 rfl rfl ?_
      refine jm_ret (Y := YX6_goneOf) (pc := 33) (st := []) dX6_goneOf_33 rfl rfl ?_
      have en : n = w 3 := by omega
      subst en
      exact ⟨rfl, rfl⟩
    · refine jm_ild_n (Y := YX6_goneOf) (pc := 11) (i := 1) dX6_goneOf_11 rfl rfl ?_
      refine jm_ald_n (Y := YX6_goneOf) (pc := 12) (i := 0) dX6_goneOf_12 rfl rfl ?_
      refine jm_bpN (Y := YX6_goneOf) (pc := 13) 17 dX6_goneOf_13 rfl ?_
      refine jm_icN (Y := YX6_goneOf) (pc := 15) 4 dX6_goneOf_15 rfl ?_
      refine jm_ild_n (Y := YX6_goneOf) (pc := 16) (i := 2) dX6_goneOf_16 rfl rfl ?_
      refine jm_mulN (Y := YX6_goneOf) (pc := 17) dX6_goneOf_17 ?_
      refine jm_addN (Y := YX6_goneOf) (pc := 18) dX6_goneOf_18 ?_
      refine jm_icN (Y := YX6_goneOf) (pc := 19) 3 dX6_goneOf_19 rfl ?_
      refine jm_addN (Y := YX6_goneOf) (pc := 20) dX6_goneOf_20 ?_
      refine jm_ialN (Y := YX6_goneOf) (pc := 21) dX6_goneOf_21 (by first | assumption | exact jm_arR1 ha | exact jm_arR2 ha | exact jm_arR3 ha | exact jm_arR1 hb | exact jm_arR2 hb | exact jm_arR3 hb | rfl) (by first | omega | exact jm_lt hb _) (by first | assumption | exact jm_rdN hM | rfl) ?_
      refine jm_ild_n (Y := YX6_goneOf) (pc := 22) (i := 2) dX6_goneOf_22 rfl rfl ?_
      have g1 := (hg.2.2.1 n (by omega)).2.2.2
      have g2 := p_2n (show n ≤ 12 by omega)
      have g3 : w (17 + 4 * n + 3) * 2 ^ n ≤ 1 * 4096 := Nat.mul_le_mul g1 g2
      refine jm_shlN (Y := YX6_goneOf) (pc := 23) dX6_goneOf_23 (by omega) (by omega) ?_
      refine jm_orN (Y := YX6_goneOf) (pc := 24) dX6_goneOf_24 ?_
      refine jm_ist_n (Y := YX6_goneOf) (pc := 25) (i := 1) (ls' := [_, _, _]) dX6_goneOf_25 rfl (Nat.le_of_ble_eq_true rfl) rfl rfl ?_
      refine jm_incN (Y := YX6_goneOf) (pc := 26) (m := 1) (ls' := [_, _, _]) dX6_goneOf_26 rfl rfl rfl rfl ?_
      refine jm_goto (Y := YX6_goneOf) (pc := 29) dX6_goneOf_29 rfl ?_
      exact ih (n + 1) (by omega) (by omega)
theorem c_goneOf (i : Nat) (w : Nat → Nat) (M : jm_M) (hi : jm_ar i = some (0, 45)) (hM : M i = jm_n w) (hg : rG w) : jm_J none YX6_goneOf 0 [some (.ref i), none, none] [] M (jm_is (some (.int (nI (p_gn w (w 3))))) M) := by
  refine jm_icN (Y := YX6_goneOf) (pc := 0) 0 dX6_goneOf_0 rfl ?_
  refine jm_ist_n (Y := YX6_goneOf) (pc := 1) (i := 1) (ls' := [_, _, _]) dX6_goneOf_1 rfl (Nat.le_of_ble_eq_true rfl) rfl rfl ?_
  refine jm_icN (Y := YX6_goneOf) (pc := 2) 0 dX6_goneOf_2 rfl ?_
  refine jm_ist_n (Y := YX6_goneOf) (pc := 3) (i := 2) (ls' := [_, _, _]) dX6_goneOf_3 rfl (Nat.le_of_ble_eq_true rfl) rfl rfl ?_
  exact c_goneOf0 i w M hi hM hg (w 3 + 1) 0 (by omega) (by omega)
theorem c_sizes0 (i : Nat) (w : Nat → Nat) (M : jm_M) (hi : jm_ar i = some (0, 45)) (hM : M i = jm_n w) (hg : rG w) : ∀ (m : Nat) (n : Nat), n ≤ w 3 → w 3 - n < m → jm_J none YX6_sizes 4 [some (.ref i), some (.int (nI (p_sm w n))), some (.int (nI n))] [] M (jm_is (some (.int (nI (p_sm w (w 3))))) M) := by
  intro m
  induction m with
  | zero => intros; omega
  | succ m ih =>
    intro n hn hm
    have hb := hg.hb
    have h3 := hg.1.2.2.2.1
    refine jm_ild_n (Y := YX6_sizes) (pc := 4) (i := 2) dX6_sizes_4 rfl rfl ?_
    refine jm_ald_n (Y := YX6_sizes) (pc := 5) (i := 0) dX6_sizes_5 rfl rfl ?_
    refine jm_icN (Y := YX6_sizes) (pc := 6) 3 dX6_sizes_6 rfl ?_
    refine jm_ialN (Y := YX6_sizes) (pc := 7) dX6_sizes_7 (by first | assumption | exact jm_arR1 ha | exact jm_arR2 ha | exact jm_arR3 ha | exact jm_arR1 hb | exact jm_arR2 hb | exact jm_arR3 hb | rfl) (by first | omega | exact jm_lt hb _) (by first | assumption | exact jm_rdN hM | rfl) ?_
    refine jm_icmp_geN (Y := YX6_sizes) (pc := 8) dX6_sizes_8 rfl (by first | omega | exact jm_lt hb _) (by first | omega | exact jm_lt hb _) (fun h_8 => ?_) (fun h_8 => ?_)
    · refine jm_ild_n (Y := YX6_sizes) (pc := 30) (i := 1) dX6_sizes_30 rfl rfl ?_
      refine jm_ret (Y := YX6_sizes) (pc := 31) (st := []) dX6_sizes_31 rfl rfl ?_
      have en : n = w 3 := by omega
      subst en
      exact ⟨rfl, rfl⟩
    · refine jm_ild_n (Y := YX6_sizes) (pc := 11) (i := 1) dX6_sizes_11 rfl rfl ?_
      refine jm_ald_n (Y := YX6_sizes) (pc := 12) (i := 0) dX6_sizes_12 rfl rfl ?_
      refine jm_bpN (Y := YX6_sizes) (pc := 13) 17 dX6_sizes_13 rfl ?_
      refine jm_icN (Y := YX6_sizes) (pc := 15) 4 dX6_sizes_15 rfl ?_
      refine jm_ild_n (Y := YX6_sizes) (pc := 16) (i := 2) dX6_sizes_16 rfl rfl ?_
      refine jm_mulN (Y := YX6_sizes) (pc := 17) dX6_sizes_17 ?_
      refine jm_addN (Y := YX6_sizes) (pc := 18) dX6_sizes_18 ?_
      refine jm_icN (Y := YX6_sizes) (pc := 19) 1 dX6_sizes_19 rfl ?_
      refine jm_addN (Y := YX6_sizes) (pc := 20) dX6_sizes_20 ?_
      refine jm_ialN (Y := YX6_sizes) (pc := 21) dX6_sizes_21 (by first | assumption | exact jm_arR1 ha | exact jm_arR2 ha | exact jm_arR3 ha | exact jm_arR1 hb | exact jm_arR2 hb | exact jm_arR3 hb | rfl) (by first | omega | exact jm_lt hb _) (by first | assumption | exact jm_rdN hM | rfl) ?_
      refine jm_addN (Y := YX6_sizes) (pc := 22) dX6_sizes_22 ?_
      refine jm_ist_n (Y := YX6_sizes) (pc := 23) (i := 1) (ls' := [_, _, _]) dX6_sizes_23 rfl (Nat.le_of_ble_eq_true rfl) rfl rfl ?_
      refine jm_incN (Y := YX6_sizes) (pc := 24) (m := 1) (ls' := [_, _, _]) dX6_sizes_24 rfl rfl rfl rfl ?_
      refine jm_goto (Y := YX6_sizes) (pc := 27) dX6_sizes_27 rfl ?_
      exact ih (n + 1) (by omega) (by omega)
theorem c_sizes (i : Nat) (w : Nat → Nat) (M : jm_M) (hi : jm_ar i = some (0, 45)) (hM : M i = jm_n w) (hg : rG w) : jm_J none YX6_sizes 0 [some (.ref i), none, none] [] M (jm_is (some (.int (nI (p_sm w (w 3))))) M) := by
  refine jm_icN (Y := YX6_sizes) (pc := 0) 0 dX6_sizes_0 rfl ?_
  refine jm_ist_n (Y := YX6_sizes) (pc := 1) (i := 1) (ls' := [_, _, _]) dX6_sizes_1 rfl (Nat.le_of_ble_eq_true rfl) rfl rfl ?_
  refine jm_icN (Y := YX6_sizes) (pc := 2) 0 dX6_sizes_2 rfl ?_
  refine jm_ist_n (Y := YX6_sizes) (pc := 3) (i := 2) (ls' := [_, _, _]) dX6_sizes_3 rfl (Nat.le_of_ble_eq_true rfl) rfl rfl ?_
  exact c_sizes0 i w M hi hM hg (w 3 + 1) 0 (by omega) (by omega)
theorem c_all (i : Nat) (w : Nat → Nat) (M : jm_M) (hi : jm_ar i = some (0, 45)) (hM : M i = jm_n w) (hg : rG w) : jm_J none YX6_all 0 [some (.ref i)] [] M (jm_is (some (.int (nI (2 ^ w 3 - 1)))) M) := by
  have h3 := hg.1.2.2.2.1
  have g2 := p_2n (show w 3 ≤ 12 by omega)
  have g1 : 1 ≤ 2 ^ w 3 := Nat.one_le_two_pow
  refine jm_icN (Y := YX6_all) (pc := 0) 1 dX6_all_0 rfl ?_
  refine jm_ald_n (Y := YX6_all) (pc := 1) (i := 0) dX6_all_1 rfl rfl ?_
  refine jm_icN (Y := YX6_all) (pc := 2) 3 dX6_all_2 rfl ?_
  refine jm_ialN (Y := YX6_all) (pc := 3) dX6_all_3 (by first | assumption | exact jm_arR1 ha | exact jm_arR2 ha | exact jm_arR3 ha | exact jm_arR1 hb | exact jm_arR2 hb | exact jm_arR3 hb | rfl) (by omega) (by first | assumption | exact jm_rdN hM | rfl) ?_
  refine jm_shlN (Y := YX6_all) (pc := 4) dX6_all_4 (by omega) (by omega) ?_
  rw [Nat.one_mul]
  refine jm_icN (Y := YX6_all) (pc := 5) 1 dX6_all_5 rfl ?_
  refine jm_subN (Y := YX6_all) (pc := 6) dX6_all_6 (by omega) ?_
  refine jm_ret (Y := YX6_all) (pc := 7) (st := []) dX6_all_7 rfl rfl ?_
  exact ⟨rfl, rfl⟩
theorem c_whereIs (i : Nat) (w : Nat → Nat) (M : jm_M) (hi : jm_ar i = some (0, 45)) (hM : M i = jm_n w) (hg : rG w) (k : Nat) (hk : k < 7) : jm_J none YX6_whereIs 0 [some (.ref i), some (.int (nI k))] [] M (jm_is (some (.int (p_wh w k))) M) := by
  have hb := hg.hb
  refine jm_ald_n (Y := YX6_whereIs) (pc := 0) (i := 0) dX6_whereIs_0 rfl rfl ?_
  refine jm_bpN (Y := YX6_whereIs) (pc := 1) 17 dX6_whereIs_1 rfl ?_
  refine jm_icN (Y := YX6_whereIs) (pc := 3) 4 dX6_whereIs_3 rfl ?_
  refine jm_ild_n (Y := YX6_whereIs) (pc := 4) (i := 1) dX6_whereIs_4 rfl rfl ?_
  refine jm_mulN (Y := YX6_whereIs) (pc := 5) dX6_whereIs_5 ?_
  refine jm_addN (Y := YX6_whereIs) (pc := 6) dX6_whereIs_6 ?_
  refine jm_icN (Y := YX6_whereIs) (pc := 7) 3 dX6_whereIs_7 rfl ?_
  refine jm_addN (Y := YX6_whereIs) (pc := 8) dX6_whereIs_8 ?_
  refine jm_ialN (Y := YX6_whereIs) (pc := 9) dX6_whereIs_9 (by first | assumption | exact jm_arR1 ha | exact jm_arR2 ha | exact jm_arR3 ha | exact jm_arR1 hb | exact jm_arR2 hb | exact jm_arR3 hb | rfl) (by first | omega | exact jm_lt hb _) (by first | assumption | exact jm_rdN hM | rfl) ?_
  refine jm_icN (Y := YX6_whereIs) (pc := 10) 1 dX6_whereIs_10 rfl ?_
  refine jm_icmp_neN (Y := YX6_whereIs) (pc := 11) dX6_whereIs_11 rfl (by first | omega | exact jm_lt hb _) (by first | omega | exact jm_lt hb _) (fun h_11 => ?_) (fun h_11 => ?_)
  · refine jm_ald_n (Y := YX6_whereIs) (pc := 19) (i := 0) dX6_whereIs_19 rfl rfl ?_
    refine jm_bpN (Y := YX6_whereIs) (pc := 20) 17 dX6_whereIs_20 rfl ?_
    refine jm_icN (Y := YX6_whereIs) (pc := 22) 4 dX6_whereIs_22 rfl ?_
    refine jm_ild_n (Y := YX6_whereIs) (pc := 23) (i := 1) dX6_whereIs_23 rfl rfl ?_
    refine jm_mulN (Y := YX6_whereIs) (pc := 24) dX6_whereIs_24 ?_
    refine jm_addN (Y := YX6_whereIs) (pc := 25) dX6_whereIs_25 ?_
    refine jm_icN (Y := YX6_whereIs) (pc := 26) 2 dX6_whereIs_26 rfl ?_
    refine jm_addN (Y := YX6_whereIs) (pc := 27) dX6_whereIs_27 ?_
    refine jm_ialN (Y := YX6_whereIs) (pc := 28) dX6_whereIs_28 (by first | assumption | exact jm_arR1 ha | exact jm_arR2 ha | exact jm_arR3 ha | exact jm_arR1 hb | exact jm_arR2 hb | exact jm_arR3 hb | rfl) (by first | omega | exact jm_lt hb _) (by first | assumption | exact jm_rdN hM | rfl) ?_
    refine jm_ret (Y := YX6_whereIs) (pc := 29) (st := []) dX6_whereIs_29 rfl rfl ?_
    unfold p_wh
    first | exact jm_eq (by rw [if_pos h_11]) | exact jm_eq (by rw [if_neg h_11]) | fail
  · refine jm_ldc (Y := YX6_whereIs) (pc := 14) (v := -1000000) dX6_whereIs_14 kc_RX6_47 ?_
    refine jm_goto (Y := YX6_whereIs) (pc := 16) dX6_whereIs_16 rfl ?_
    refine jm_ret (Y := YX6_whereIs) (pc := 29) (st := []) dX6_whereIs_29 rfl rfl ?_
    unfold p_wh
    first | exact jm_eq (by rw [if_pos h_11]) | exact jm_eq (by rw [if_neg h_11]) | fail
def p_says (w : Nat → Nat) (k b c : Nat) : Nat → Nat := wU (wU (wU w (17 + 4 * k + 1) b) (17 + 4 * k + 2) c) (17 + 4 * k + 3) 0
theorem c_says (i : Nat) (w : Nat → Nat) (k b c : Nat) (M : jm_M) (hi : jm_ar i = some (0, 45)) (hM : M i = jm_n w) (hk : k < 7) : jm_J none YX6_says 0 [some (.ref i), some (.int (nI k)), some (.int (nI b)), some (.int (nI c))] [] M (jm_is none (jm_sf M i (jm_n (p_says w k b c)))) := by
  have e : jm_sf M i (jm_n w) = M := jm_sfid hM
  rw [← e]
  refine jm_ald_n (Y := YX6_says) (pc := 0) (i := 0) dX6_says_0 rfl rfl ?_
  refine jm_bpN (Y := YX6_says) (pc := 1) 17 dX6_says_1 rfl ?_
  refine jm_icN (Y := YX6_says) (pc := 3) 4 dX6_says_3 rfl ?_
  refine jm_ild_n (Y := YX6_says) (pc := 4) (i := 1) dX6_says_4 rfl rfl ?_
  refine jm_mulN (Y := YX6_says) (pc := 5) dX6_says_5 ?_
  refine jm_addN (Y := YX6_says) (pc := 6) dX6_says_6 ?_
  refine jm_icN (Y := YX6_says) (pc := 7) 1 dX6_says_7 rfl ?_
  refine jm_addN (Y := YX6_says) (pc := 8) dX6_says_8 ?_
  refine jm_ild_n (Y := YX6_says) (pc := 9) (i := 2) dX6_says_9 rfl rfl ?_
  refine jm_iasW (Y := YX6_says) (pc := 10) (M0 := M) (w := w) dX6_says_10 hi rfl (by omega) ?_
  refine jm_ald_n (Y := YX6_says) (pc := 11) (i := 0) dX6_says_11 rfl rfl ?_
  refine jm_bpN (Y := YX6_says) (pc := 12) 17 dX6_says_12 rfl ?_
  refine jm_icN (Y := YX6_says) (pc := 14) 4 dX6_says_14 rfl ?_
  refine jm_ild_n (Y := YX6_says) (pc := 15) (i := 1) dX6_says_15 rfl rfl ?_
  refine jm_mulN (Y := YX6_says) (pc := 16) dX6_says_16 ?_
  refine jm_addN (Y := YX6_says) (pc := 17) dX6_says_17 ?_
  refine jm_icN (Y := YX6_says) (pc := 18) 2 dX6_says_18 rfl ?_
  refine jm_addN (Y := YX6_says) (pc := 19) dX6_says_19 ?_
  refine jm_ild_n (Y := YX6_says) (pc := 20) (i := 3) dX6_says_20 rfl rfl ?_
  refine jm_iasW (Y := YX6_says) (pc := 21) (M0 := M) (w := wU w (17 + 4 * k + 1) b) dX6_says_21 hi rfl (by omega) ?_
  refine jm_ald_n (Y := YX6_says) (pc := 22) (i := 0) dX6_says_22 rfl rfl ?_
  refine jm_bpN (Y := YX6_says) (pc := 23) 17 dX6_says_23 rfl ?_
  refine jm_icN (Y := YX6_says) (pc := 25) 4 dX6_says_25 rfl ?_
  refine jm_ild_n (Y := YX6_says) (pc := 26) (i := 1) dX6_says_26 rfl rfl ?_
  refine jm_mulN (Y := YX6_says) (pc := 27) dX6_says_27 ?_
  refine jm_addN (Y := YX6_says) (pc := 28) dX6_says_28 ?_
  refine jm_icN (Y := YX6_says) (pc := 29) 3 dX6_says_29 rfl ?_
  refine jm_addN (Y := YX6_says) (pc := 30) dX6_says_30 ?_
  refine jm_icN (Y := YX6_says) (pc := 31) 0 dX6_says_31 rfl ?_
  refine jm_iasW (Y := YX6_says) (pc := 32) (M0 := M) (w := wU (wU w (17 + 4 * k + 1) b) (17 + 4 * k + 2) c) dX6_says_32 hi rfl (by omega) ?_
  refine jm_retv (Y := YX6_says) (pc := 33) (st := []) dX6_says_33 rfl ?_
  exact ⟨rfl, by rw [jm_sfsf]; rfl⟩
theorem c_isRiver (w : Nat → Nat) (M : jm_M) (hM : M 17 = jm_n w) (hg : rG w) : jm_J none YX6_isRiver 0 [some (.ref 11)] [] M (jm_is (some (.int (jm_b (0 < w 2)))) M) := by
  have hb := hg.hb
  refine jm_ald_n (Y := YX6_isRiver) (pc := 0) (i := 0) dX6_isRiver_0 rfl rfl ?_
  refine jm_getR (Y := YX6_isRiver) (pc := 1) dX6_isRiver_1 fr_RX6_25 rfl (by decide) rfl ?_
  refine jm_icN (Y := YX6_isRiver) (pc := 4) 2 dX6_isRiver_4 rfl ?_
  refine jm_ialN (Y := YX6_isRiver) (pc := 5) dX6_isRiver_5 (by first | assumption | exact jm_arR1 ha | exact jm_arR2 ha | exact jm_arR3 ha | exact jm_arR1 hb | exact jm_arR2 hb | exact jm_arR3 hb | rfl) (by first | omega | exact jm_lt hb _) (by first | assumption | exact jm_rdN hM | rfl) ?_
  refine jm_if_leN (Y := YX6_isRiver) (pc := 6) dX6_isRiver_6 rfl (by first | omega | exact jm_lt hb _) (fun h_6 => ?_) (fun h_6 => ?_)
  · refine jm_icN (Y := YX6_isRiver) (pc := 13) 0 dX6_isRiver_13 rfl ?_
    refine jm_ret (Y := YX6_isRiver) (pc := 14) (st := []) dX6_isRiver_14 rfl rfl ?_
    first | exact jm_bf (by omega) | exact jm_bt (by omega) | fail
  · refine jm_icN (Y := YX6_isRiver) (pc := 9) 1 dX6_isRiver_9 rfl ?_
    refine jm_goto (Y := YX6_isRiver) (pc := 10) dX6_isRiver_10 rfl ?_
    refine jm_ret (Y := YX6_isRiver) (pc := 14) (st := []) dX6_isRiver_14 rfl rfl ?_
    first | exact jm_bf (by omega) | exact jm_bt (by omega) | fail
theorem c_isWord (w : Nat → Nat) (M : jm_M) (hM : M 17 = jm_n w) (hg : rG w) (v : Int32) : jm_J none YX6_isWord 0 [some (.ref 11), some (.int v)] [] M (jm_is (some (.int (jm_b (0 ≤ v.toInt ∧ v.toInt < w 3)))) M) := by
  have hb := hg.hb
  refine jm_ild_n (Y := YX6_isWord) (pc := 0) (i := 1) dX6_isWord_0 rfl rfl ?_
  refine jm_icN (Y := YX6_isWord) (pc := 1) 0 dX6_isWord_1 rfl ?_
  refine jm_ald_n (Y := YX6_isWord) (pc := 2) (i := 0) dX6_isWord_2 rfl rfl ?_
  refine jm_getR (Y := YX6_isWord) (pc := 3) dX6_isWord_3 fr_RX6_25 rfl (by decide) rfl ?_
  refine jm_icN (Y := YX6_isWord) (pc := 6) 3 dX6_isWord_6 rfl ?_
  refine jm_ialN (Y := YX6_isWord) (pc := 7) dX6_isWord_7 (by first | assumption | exact jm_arR1 ha | exact jm_arR2 ha | exact jm_arR3 ha | exact jm_arR1 hb | exact jm_arR2 hb | exact jm_arR3 hb | rfl) (by first | omega | exact jm_lt hb _) (by first | assumption | exact jm_rdN hM | rfl) ?_
  refine jm_icN (Y := YX6_isWord) (pc := 8) 1 dX6_isWord_8 rfl ?_
  refine jm_isub (Y := YX6_isWord) (pc := 9) dX6_isWord_9 ?_
  refine jm_S3ie (Y := YX6_isWord) (pc := 10) dX6_isWord_10 lk_RX6_53 ⟨_, rfl⟩ rfl rfl rfl (by decide) (Nat.le_of_ble_eq_true rfl) ⟨by decide, by decide⟩ (c_in _ _ _ _) ?_
  refine jm_ret (Y := YX6_isWord) (pc := 13) (st := []) dX6_isWord_13 rfl (jm_nb _) ?_
  exact jm_bc (jm_inI (jm_lt hb _))
theorem c_isCell (w : Nat → Nat) (M : jm_M) (hM : M 17 = jm_n w) (hg : rG w) (v : Int32) : jm_J none YX6_isCell 0 [some (.ref 11), some (.int v)] [] M (jm_is (some (.int (jm_b (0 ≤ v.toInt ∧ v.toInt < w 2)))) M) := by
  have hb := hg.hb
  refine jm_ild_n (Y := YX6_isCell) (pc := 0) (i := 1) dX6_isCell_0 rfl rfl ?_
  refine jm_icN (Y := YX6_isCell) (pc := 1) 0 dX6_isCell_1 rfl ?_
  refine jm_ald_n (Y := YX6_isCell) (pc := 2) (i := 0) dX6_isCell_2 rfl rfl ?_
  refine jm_getR (Y := YX6_isCell) (pc := 3) dX6_isCell_3 fr_RX6_25 rfl (by decide) rfl ?_
  refine jm_icN (Y := YX6_isCell) (pc := 6) 2 dX6_isCell_6 rfl ?_
  refine jm_ialN (Y := YX6_isCell) (pc := 7) dX6_isCell_7 (by first | assumption | exact jm_arR1 ha | exact jm_arR2 ha | exact jm_arR3 ha | exact jm_arR1 hb | exact jm_arR2 hb | exact jm_arR3 hb | rfl) (by first | omega | exact jm_lt hb _) (by first | assumption | exact jm_rdN hM | rfl) ?_
  refine jm_icN (Y := YX6_isCell) (pc := 8) 1 dX6_isCell_8 rfl ?_
  refine jm_isub (Y := YX6_isCell) (pc := 9) dX6_isCell_9 ?_
  refine jm_S3ie (Y := YX6_isCell) (pc := 10) dX6_isCell_10 lk_RX6_53 ⟨_, rfl⟩ rfl rfl rfl (by decide) (Nat.le_of_ble_eq_true rfl) ⟨by decide, by decide⟩ (c_in _ _ _ _) ?_
  refine jm_ret (Y := YX6_isCell) (pc := 13) (st := []) dX6_isCell_13 rfl (jm_nb _) ?_
  exact jm_bc (jm_inI (jm_lt hb _))
theorem c_isGone (w : Nat → Nat) (M : jm_M) (hM : M 17 = jm_n w) (hg : rG w) (k : Nat) (hk : k < 7) : jm_J none YX6_isGone 0 [some (.ref 11), some (.int (nI k))] [] M (jm_is (some (.int (jm_b (w (17 + 4 * k + 3) = 1)))) M) := by
  have hb := hg.hb
  refine jm_ald_n (Y := YX6_isGone) (pc := 0) (i := 0) dX6_isGone_0 rfl rfl ?_
  refine jm_getR (Y := YX6_isGone) (pc := 1) dX6_isGone_1 fr_RX6_25 rfl (by decide) rfl ?_
  refine jm_bpN (Y := YX6_isGone) (pc := 4) 17 dX6_isGone_4 rfl ?_
  refine jm_icN (Y := YX6_isGone) (pc := 6) 4 dX6_isGone_6 rfl ?_
  refine jm_ild_n (Y := YX6_isGone) (pc := 7) (i := 1) dX6_isGone_7 rfl rfl ?_
  refine jm_mulN (Y := YX6_isGone) (pc := 8) dX6_isGone_8 ?_
  refine jm_addN (Y := YX6_isGone) (pc := 9) dX6_isGone_9 ?_
  refine jm_icN (Y := YX6_isGone) (pc := 10) 3 dX6_isGone_10 rfl ?_
  refine jm_addN (Y := YX6_isGone) (pc := 11) dX6_isGone_11 ?_
  refine jm_ialN (Y := YX6_isGone) (pc := 12) dX6_isGone_12 (by first | assumption | exact jm_arR1 ha | exact jm_arR2 ha | exact jm_arR3 ha | exact jm_arR1 hb | exact jm_arR2 hb | exact jm_arR3 hb | rfl) (by first | omega | exact jm_lt hb _) (by first | assumption | exact jm_rdN hM | rfl) ?_
  refine jm_icN (Y := YX6_isGone) (pc := 13) 1 dX6_isGone_13 rfl ?_
  refine jm_icmp_neN (Y := YX6_isGone) (pc := 14) dX6_isGone_14 rfl (by first | omega | exact jm_lt hb _) (by first | omega | exact jm_lt hb _) (fun h_14 => ?_) (fun h_14 => ?_)
  · refine jm_icN (Y := YX6_isGone) (pc := 21) 0 dX6_isGone_21 rfl ?_
    refine jm_ret (Y := YX6_isGone) (pc := 22) (st := []) dX6_isGone_22 rfl rfl ?_
    first | exact jm_bf (by omega) | exact jm_bt (by omega) | fail
  · refine jm_icN (Y := YX6_isGone) (pc := 17) 1 dX6_isGone_17 rfl ?_
    refine jm_goto (Y := YX6_isGone) (pc := 18) dX6_isGone_18 rfl ?_
    refine jm_ret (Y := YX6_isGone) (pc := 22) (st := []) dX6_isGone_22 rfl rfl ?_
    first | exact jm_bf (by omega) | exact jm_bt (by omega) | fail
theorem c_kindIn (w : Nat → Nat) (M : jm_M) (hM : M 17 = jm_n w) (hg : rG w) (k : Nat) (hk : k < 7) : jm_J none YX6_kindIn 0 [some (.ref 11), some (.int (nI k))] [] M (jm_is (some (.int (nI (w (17 + 4 * k))))) M) := by
  have hb := hg.hb
  refine jm_ald_n (Y := YX6_kindIn) (pc := 0) (i := 0) dX6_kindIn_0 rfl rfl ?_
  refine jm_getR (Y := YX6_kindIn) (pc := 1) dX6_kindIn_1 fr_RX6_25 rfl (by decide) rfl ?_
  refine jm_bpN (Y := YX6_kindIn) (pc := 4) 17 dX6_kindIn_4 rfl ?_
  refine jm_icN (Y := YX6_kindIn) (pc := 6) 4 dX6_kindIn_6 rfl ?_
  refine jm_ild_n (Y := YX6_kindIn) (pc := 7) (i := 1) dX6_kindIn_7 rfl rfl ?_
  refine jm_mulN (Y := YX6_kindIn) (pc := 8) dX6_kindIn_8 ?_
  refine jm_addN (Y := YX6_kindIn) (pc := 9) dX6_kindIn_9 ?_
  refine jm_ialN (Y := YX6_kindIn) (pc := 10) dX6_kindIn_10 (by first | assumption | exact jm_arR1 ha | exact jm_arR2 ha | exact jm_arR3 ha | exact jm_arR1 hb | exact jm_arR2 hb | exact jm_arR3 hb | rfl) (by first | omega | exact jm_lt hb _) (by first | assumption | exact jm_rdN hM | rfl) ?_
  refine jm_ret (Y := YX6_kindIn) (pc := 11) (st := []) dX6_kindIn_11 rfl rfl ?_
  exact ⟨rfl, rfl⟩
