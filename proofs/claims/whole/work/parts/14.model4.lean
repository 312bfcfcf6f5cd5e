/-! the reference: what is foretold -/
theorem c_inN (v : Int32) (a b : Nat) (M : jm_M) (ha : a < 2147483648) (hb : b < 2147483648) : jm_J none YX6_in 0 [some (.int v), some (.int (nI a)), some (.int (nI b))] [] M (jm_is (some (.int (jm_b ((a : Int) ≤ v.toInt ∧ v.toInt ≤ b)))) M) := by
  have h := c_in v (nI a) (nI b) M
  rw [jm_b_c (jm_inJ ha hb)] at h
  exact h
theorem c_isRowN (v : Int32) (M : jm_M) : jm_J none YX6_isRow 0 [some (.int v)] [] M (jm_is (some (.int (jm_b (0 ≤ v.toInt ∧ v.toInt ≤ 7)))) M) := by
  have h := c_isRow v M
  rw [jm_b_c (jm_inJ (a := 0) (b := 7) (by decide) (by decide))] at h
  exact h
theorem c_isNearN (v : Int32) (M : jm_M) : jm_J none YX6_isNear 0 [some (.int v)] [] M (jm_is (some (.int (jm_b (1 ≤ v.toInt ∧ v.toInt ≤ 30)))) M) := by
  have h := c_isNear v M
  rw [jm_b_c (jm_inJ (a := 1) (b := 30) (by decide) (by decide))] at h
  exact h
theorem jm_ofL {v : Int32} {n : Nat} (h0 : 0 ≤ v.toInt) (h : v.toInt < (n : Int)) : ∃ k : Nat, k < n ∧ v = nI k ∧ (nI k).toInt = (k : Int) ∧ (nI k).toInt.toNat = k := by
  obtain ⟨k, hk, e⟩ := jm_of (n := v.toInt.toNat) h0 (by omega)
  have b := Int32.toInt_le v
  have h8 : Int32.maxValue.toInt = 2147483647 := by decide
  rw [h8] at b
  subst e
  have kk : k < 2147483648 := by omega
  have e2 := jm_tI kk
  exact ⟨k, by omega, rfl, e2, by omega⟩
def jm_q (M0 : jm_M) (r : Int32) : Option Value → jm_M → Prop := fun o M' => o = some (.int r) ∧ ∃ g', (∀ j, 45 ≤ j → g' j = 0) ∧ M' = jm_sf M0 19 (jm_n g')
theorem jm_qi {M0 : jm_M} {r r' : Int32} {g : Nat → Nat} (hz : ∀ j, 45 ≤ j → g j = 0) (h : r' = r) : jm_q M0 r (some (.int r')) (jm_sf M0 19 (jm_n g)) := ⟨by rw [h], g, hz, rfl⟩
theorem jm_17 {w g : Nat → Nat} {M0 : jm_M} (hM : M0 17 = jm_n w) : jm_sf M0 19 (jm_n g) 17 = jm_n w := by rw [jm_sf_n _ _ (by decide)]; exact hM
theorem rG.z {w : Nat → Nat} (h : rG w) : ∀ j, 45 ≤ j → w j = 0 := h.2.2.2.1
theorem c_cpT (w g : Nat → Nat) (M0 : jm_M) (hM : M0 17 = jm_n w) (hw : ∀ j, 45 ≤ j → w j = 0) (hz : ∀ j, 45 ≤ j → g j = 0) : jm_J none YX6_copies 0 [some (.ref 17), some (.int (nI 0)), some (.ref 19), some (.int (nI 0)), none] [] (jm_sf M0 19 (jm_n g)) (jm_is none (jm_sf M0 19 (jm_n w))) := by
  have h := c_copies 17 19 45 45 0 0 w g (jm_sf M0 19 (jm_n g)) rfl rfl (by decide) (jm_17 hM) jm_rdF (by decide) (by decide)
  rw [p_cp_whole hw hz, jm_sfsf] at h
  exact h
theorem c_goT (w : Nat → Nat) (N : Nat) (M0 : jm_M) (hg : rG w) (hN : w 4 + N ≤ 19000) : jm_J none YX6_goesOn 0 [some (.ref 11), some (.int (nI N)), none] [] (jm_sf M0 19 (jm_n w)) (jm_is none (jm_sf M0 19 (jm_n (p_on w N)))) := by
  have h := c_goesOn w N (jm_sf M0 19 (jm_n w)) jm_rdF hg hN
  rw [jm_sfsf] at h
  exact h
theorem c_paT (w : Nat → Nat) (M0 : jm_M) (hg : rG w) : jm_J none YX6_passes 0 [some (.ref 19), none] [] (jm_sf M0 19 (jm_n w)) (jm_is none (jm_sf M0 19 (jm_n (p_passes w)))) := by
  have h := c_passes 19 w (jm_sf M0 19 (jm_n w)) rfl jm_rdF hg
  rw [jm_sfsf] at h
  exact h
def q_word (w : Nat → Nat) (v a : Int32) : Int32 := if 0 ≤ v.toInt ∧ v.toInt < w 3 then (if a.toInt = 0 then nI (w (17 + 4 * v.toInt.toNat + 1)) else if a.toInt = 1 then p_wh w v.toInt.toNat else if a.toInt = 2 then nI (w (17 + 4 * v.toInt.toNat + 3)) else if a.toInt = 3 then nI (w (17 + 4 * v.toInt.toNat + 2)) else -1000001) else -1000001
theorem c_word (w g : Nat → Nat) (M0 : jm_M) (hM : M0 17 = jm_n w) (hg : rG w) (hz : ∀ j, 45 ≤ j → g j = 0) (hm : w 4 ≤ 9999) (v a : Int32) : jm_J none YX6_word 0 [some (.ref 11), some (.int v), some (.int a)] [] (jm_sf M0 19 (jm_n g)) (jm_q M0 (q_word w v a)) := by
  have hb := hg.hb
  have h3 := hg.1.2.2.2.1
  have h2 := hg.1.2.2.1
  refine jm_ald_n (Y := YX6_word) (pc := 0) (i := 0) dX6_word_0 rfl rfl ?_
  refine jm_ild_n (Y := YX6_word) (pc := 1) (i := 1) dX6_word_1 rfl rfl ?_
  refine jm_V1ie (Y := YX6_word) (pc := 2) dX6_word_2 lk_RX6_176 ⟨_, rfl⟩ rfl rfl (by decide) (Nat.le_of_ble_eq_true rfl) ⟨by decide, by decide⟩ (c_isWord w _ (jm_17 hM) hg _) ?_
  refine jm_if_neB (Y := YX6_word) (pc := 5) dX6_word_5 rfl (fun h_5 => ?_) (fun h_5 => ?_)
  · obtain ⟨k, h_k, rfl, t_k, n_k⟩ := jm_ofL (v := v) (n := w 3) (by omega) (by omega)
    refine jm_ild_n (Y := YX6_word) (pc := 11) (i := 2) dX6_word_11 rfl rfl ?_
    by_cases e_12_0 : Int32.toInt a = 0
    · refine jm_tin dX6_word_12 (by rw [e_12_0]; decide) (by rw [e_12_0]; decide) (by rw [e_12_0]; rfl) rfl ?_
      refine jm_ald_n (Y := YX6_word) (pc := 44) (i := 0) dX6_word_44 rfl rfl ?_
      refine jm_getR (Y := YX6_word) (pc := 45) dX6_word_45 fr_RX6_25 rfl (by decide) rfl ?_
      refine jm_bpN (Y := YX6_word) (pc := 48) 17 dX6_word_48 rfl ?_
      refine jm_icN (Y := YX6_word) (pc := 50) 4 dX6_word_50 rfl ?_
      refine jm_ild_n (Y := YX6_word) (pc := 51) (i := 1) dX6_word_51 rfl rfl ?_
      refine jm_mulN (Y := YX6_word) (pc := 52) dX6_word_52 ?_
      refine jm_addN (Y := YX6_word) (pc := 53) dX6_word_53 ?_
      refine jm_icN (Y := YX6_word) (pc := 54) 1 dX6_word_54 rfl ?_
      refine jm_addN (Y := YX6_word) (pc := 55) dX6_word_55 ?_
      refine jm_ialN (Y := YX6_word) (pc := 56) dX6_word_56 (by first | assumption | exact jm_arR1 ha | exact jm_arR2 ha | exact jm_arR3 ha | exact jm_arR1 hb | exact jm_arR2 hb | exact jm_arR3 hb | rfl) (by first | omega | exact jm_lt hb _) (by first | assumption | exact jm_rdW | exact jm_rdN (jm_17 hM) | rfl) ?_
      refine jm_ret (Y := YX6_word) (pc := 57) (st := []) dX6_word_57 rfl rfl ?_
      unfold q_word
      first | exact jm_qi hz (by rw [if_neg (by omega)]) | exact jm_qi hz (by rw [if_pos (by omega), if_pos (by omega), n_k]) | exact jm_qi hz (by rw [if_pos (by omega), if_neg (by omega), if_pos (by omega), n_k]) | exact jm_qi hz (by rw [if_pos (by omega), if_neg (by omega), if_neg (by omega), if_pos (by omega), n_k]) | exact jm_qi hz (by rw [if_pos (by omega), if_neg (by omega), if_neg (by omega), if_neg (by omega), if_pos (by omega), n_k]) | exact jm_qi hz (by rw [if_pos (by omega), if_neg (by omega), if_neg (by omega), if_neg (by omega), if_neg (by omega)]) | fail
    by_cases e_12_1 : Int32.toInt a = 1
    · refine jm_tin dX6_word_12 (by rw [e_12_1]; decide) (by rw [e_12_1]; decide) (by rw [e_12_1]; rfl) rfl ?_
      refine jm_ald_n (Y := YX6_word) (pc := 58) (i := 0) dX6_word_58 rfl rfl ?_
      refine jm_getR (Y := YX6_word) (pc := 59) dX6_word_59 fr_RX6_25 rfl (by decide) rfl ?_
      refine jm_ild_n (Y := YX6_word) (pc := 62) (i := 1) dX6_word_62 rfl rfl ?_
      refine jm_S2ie (Y := YX6_word) (pc := 63) dX6_word_63 lk_RX6_186 ⟨_, rfl⟩ rfl rfl (by decide) (Nat.le_of_ble_eq_true rfl) ⟨by decide, by decide⟩ (c_whereIs _ w _ rfl (jm_17 hM) hg _ (by omega)) ?_
      refine jm_ret (Y := YX6_word) (pc := 66) (st := []) dX6_word_66 rfl rfl ?_
      unfold q_word
      first | exact jm_qi hz (by rw [if_neg (by omega)]) | exact jm_qi hz (by rw [if_pos (by omega), if_pos (by omega), n_k]) | exact jm_qi hz (by rw [if_pos (by omega), if_neg (by omega), if_pos (by omega), n_k]) | exact jm_qi hz (by rw [if_pos (by omega), if_neg (by omega), if_neg (by omega), if_pos (by omega), n_k]) | exact jm_qi hz (by rw [if_pos (by omega), if_neg (by omega), if_neg (by omega), if_neg (by omega), if_pos (by omega), n_k]) | exact jm_qi hz (by rw [if_pos (by omega), if_neg (by omega), if_neg (by omega), if_neg (by omega), if_neg (by omega)]) | fail
    by_cases e_12_2 : Int32.toInt a = 2
    · refine jm_tin dX6_word_12 (by rw [e_12_2]; decide) (by rw [e_12_2]; decide) (by rw [e_12_2]; rfl) rfl ?_
      refine jm_ald_n (Y := YX6_word) (pc := 67) (i := 0) dX6_word_67 rfl rfl ?_
      refine jm_getR (Y := YX6_word) (pc := 68) dX6_word_68 fr_RX6_25 rfl (by decide) rfl ?_
      refine jm_bpN (Y := YX6_word) (pc := 71) 17 dX6_word_71 rfl ?_
      refine jm_icN (Y := YX6_word) (pc := 73) 4 dX6_word_73 rfl ?_
      refine jm_ild_n (Y := YX6_word) (pc := 74) (i := 1) dX6_word_74 rfl rfl ?_
      refine jm_mulN (Y := YX6_word) (pc := 75) dX6_word_75 ?_
      refine jm_addN (Y := YX6_word) (pc := 76) dX6_word_76 ?_
      refine jm_icN (Y := YX6_word) (pc := 77) 3 dX6_word_77 rfl ?_
      refine jm_addN (Y := YX6_word) (pc := 78) dX6_word_78 ?_
      refine jm_ialN (Y := YX6_word) (pc := 79) dX6_word_79 (by first | assumption | exact jm_arR1 ha | exact jm_arR2 ha | exact jm_arR3 ha | exact jm_arR1 hb | exact jm_arR2 hb | exact jm_arR3 hb | rfl) (by first | omega | exact jm_lt hb _) (by first | assumption | exact jm_rdW | exact jm_rdN (jm_17 hM) | rfl) ?_
      refine jm_ret (Y := YX6_word) (pc := 80) (st := []) dX6_word_80 rfl rfl ?_
      unfold q_word
      first | exact jm_qi hz (by rw [if_neg (by omega)]) | exact jm_qi hz (by rw [if_pos (by omega), if_pos (by omega), n_k]) | exact jm_qi hz (by rw [if_pos (by omega), if_neg (by omega), if_pos (by omega), n_k]) | exact jm_qi hz (by rw [if_pos (by omega), if_neg (by omega), if_neg (by omega), if_pos (by omega), n_k]) | exact jm_qi hz (by rw [if_pos (by omega), if_neg (by omega), if_neg (by omega), if_neg (by omega), if_pos (by omega), n_k]) | exact jm_qi hz (by rw [if_pos (by omega), if_neg (by omega), if_neg (by omega), if_neg (by omega), if_neg (by omega)]) | fail
    by_cases e_12_3 : Int32.toInt a = 3
    · refine jm_tin dX6_word_12 (by rw [e_12_3]; decide) (by rw [e_12_3]; decide) (by rw [e_12_3]; rfl) rfl ?_
      refine jm_ald_n (Y := YX6_word) (pc := 81) (i := 0) dX6_word_81 rfl rfl ?_
      refine jm_getR (Y := YX6_word) (pc := 82) dX6_word_82 fr_RX6_25 rfl (by decide) rfl ?_
      refine jm_bpN (Y := YX6_word) (pc := 85) 17 dX6_word_85 rfl ?_
      refine jm_icN (Y := YX6_word) (pc := 87) 4 dX6_word_87 rfl ?_
      refine jm_ild_n (Y := YX6_word) (pc := 88) (i := 1) dX6_word_88 rfl rfl ?_
      refine jm_mulN (Y := YX6_word) (pc := 89) dX6_word_89 ?_
      refine jm_addN (Y := YX6_word) (pc := 90) dX6_word_90 ?_
      refine jm_icN (Y := YX6_word) (pc := 91) 2 dX6_word_91 rfl ?_
      refine jm_addN (Y := YX6_word) (pc := 92) dX6_word_92 ?_
      refine jm_ialN (Y := YX6_word) (pc := 93) dX6_word_93 (by first | assumption | exact jm_arR1 ha | exact jm_arR2 ha | exact jm_arR3 ha | exact jm_arR1 hb | exact jm_arR2 hb | exact jm_arR3 hb | rfl) (by first | omega | exact jm_lt hb _) (by first | assumption | exact jm_rdW | exact jm_rdN (jm_17 hM) | rfl) ?_
      refine jm_ret (Y := YX6_word) (pc := 94) (st := []) dX6_word_94 rfl rfl ?_
      unfold q_word
      first | exact jm_qi hz (by rw [if_neg (by omega)]) | exact jm_qi hz (by rw [if_pos (by omega), if_pos (by omega), n_k]) | exact jm_qi hz (by rw [if_pos (by omega), if_neg (by omega), if_pos (by omega), n_k]) | exact jm_qi hz (by rw [if_pos (by omega), if_neg (by omega), if_neg (by omega), if_pos (by omega), n_k]) | exact jm_qi hz (by rw [if_pos (by omega), if_neg (by omega), if_neg (by omega), if_neg (by omega), if_pos (by omega), n_k]) | exact jm_qi hz (by rw [if_pos (by omega), if_neg (by omega), if_neg (by omega), if_neg (by omega), if_neg (by omega)]) | fail
    refine jm_tout (Y := YX6_word) (pc := 12) dX6_word_12 (by omega) rfl ?_
    refine jm_ldc (Y := YX6_word) (pc := 95) (v := -1000001) dX6_word_95 kc_RX6_61 ?_
    refine jm_ret (Y := YX6_word) (pc := 97) (st := []) dX6_word_97 rfl rfl ?_
    unfold q_word
    first | exact jm_qi hz (by rw [if_neg (by omega)]) | exact jm_qi hz (by rw [if_pos (by omega), if_pos (by omega), n_k]) | exact jm_qi hz (by rw [if_pos (by omega), if_neg (by omega), if_pos (by omega), n_k]) | exact jm_qi hz (by rw [if_pos (by omega), if_neg (by omega), if_neg (by omega), if_pos (by omega), n_k]) | exact jm_qi hz (by rw [if_pos (by omega), if_neg (by omega), if_neg (by omega), if_neg (by omega), if_pos (by omega), n_k]) | exact jm_qi hz (by rw [if_pos (by omega), if_neg (by omega), if_neg (by omega), if_neg (by omega), if_neg (by omega)]) | fail
  · refine jm_ldc (Y := YX6_word) (pc := 8) (v := -1000001) dX6_word_8 kc_RX6_61 ?_
    refine jm_ret (Y := YX6_word) (pc := 10) (st := []) dX6_word_10 rfl rfl ?_
    unfold q_word
    first | exact jm_qi hz (by rw [if_neg (by omega)]) | exact jm_qi hz (by rw [if_pos (by omega), if_pos (by omega), n_k]) | exact jm_qi hz (by rw [if_pos (by omega), if_neg (by omega), if_pos (by omega), n_k]) | exact jm_qi hz (by rw [if_pos (by omega), if_neg (by omega), if_neg (by omega), if_pos (by omega), n_k]) | exact jm_qi hz (by rw [if_pos (by omega), if_neg (by omega), if_neg (by omega), if_neg (by omega), if_pos (by omega), n_k]) | exact jm_qi hz (by rw [if_pos (by omega), if_neg (by omega), if_neg (by omega), if_neg (by omega), if_neg (by omega)]) | fail
def p_wi (w : Nat → Nat) (c : Nat) : Nat → Nat
  | 0 => 0
  | n + 1 => p_wi w c n ||| (if w (17 + 4 * n + 3) ≠ 1 ∧ w (17 + 4 * n + 2) = c then 2 ^ n else 0)
def q_cell (w : Nat → Nat) (v a : Int32) : Int32 := if 0 ≤ v.toInt ∧ v.toInt < w 2 then (if a.toInt = 0 then nI (w (5 + v.toInt.toNat)) else if a.toInt = 1 then nI (p_pace w v.toInt.toNat) else if a.toInt = 2 then nI (p_wi w v.toInt.toNat (w 3)) else -1000001) else -1000001
theorem p_wh_eq {w : Nat → Nat} (hb : ∀ j, w j ≤ 20000) (k c : Nat) (hc : c ≤ 20000) : p_wh w k = nI c ↔ (w (17 + 4 * k + 3) ≠ 1 ∧ w (17 + 4 * k + 2) = c) := by
  unfold p_wh
  by_cases h : w (17 + 4 * k + 3) = 1
  · rw [if_pos h]
    constructor
    · intro e
      have e2 := congrArg Int32.toInt e
      rw [jm_tI (by omega)] at e2
      have : (-1000000 : Int32).toInt = -1000000 := by decide
      omega
    · intro e
      exact absurd h e.1
  · rw [if_neg h, nI_eq (by have := hb (17 + 4 * k + 2); omega) (by omega)]
    constructor
    · intro e; exact ⟨h, e⟩
    · intro e; exact e.2
theorem c_wordsIn0 (w g : Nat → Nat) (M0 : jm_M) (hM : M0 17 = jm_n w) (hg : rG w) (hz : ∀ j, 45 ≤ j → g j = 0) (hm : w 4 ≤ 9999) (c : Nat) (hc : c ≤ 20000) : ∀ (m : Nat) (n : Nat), n ≤ w 3 → w 3 - n < m → jm_J none YX6_wordsIn 4 [some (.ref 11), some (.int (nI c)), some (.int (nI (p_wi w c n))), some (.int (nI n))] [] (jm_sf M0 19 (jm_n g)) (jm_is (some (.int (nI (p_wi w c (w 3))))) (jm_sf M0 19 (jm_n g))) := by
  intro m
  induction m with
  | zero => intros; omega
  | succ m ih =>
    intro n hn hmm
    have hb := hg.hb
    have h3 := hg.1.2.2.2.1
    have h2 := hg.1.2.2.1
    refine jm_ild_n (Y := YX6_wordsIn) (pc := 4) (i := 3) dX6_wordsIn_4 rfl rfl ?_
    refine jm_ald_n (Y := YX6_wordsIn) (pc := 5) (i := 0) dX6_wordsIn_5 rfl rfl ?_
    refine jm_getR (Y := YX6_wordsIn) (pc := 6) dX6_wordsIn_6 fr_RX6_25 rfl (by decide) rfl ?_
    refine jm_icN (Y := YX6_wordsIn) (pc := 9) 3 dX6_wordsIn_9 rfl ?_
    refine jm_ialN (Y := YX6_wordsIn) (pc := 10) dX6_wordsIn_10 (by first | assumption | exact jm_arR1 ha | exact jm_arR2 ha | exact jm_arR3 ha | exact jm_arR1 hb | exact jm_arR2 hb | exact jm_arR3 hb | rfl) (by first | omega | exact jm_lt hb _) (by first | assumption | exact jm_rdW | exact jm_rdN (jm_17 hM) | rfl) ?_
    refine jm_icmp_geN (Y := YX6_wordsIn) (pc := 11) dX6_wordsIn_11 rfl (by first | omega | exact jm_lt hb _) (by first | omega | exact jm_lt hb _) (fun h_11 => ?_) (fun h_11 => ?_)
    · refine jm_ild_n (Y := YX6_wordsIn) (pc := 42) (i := 2) dX6_wordsIn_42 rfl rfl ?_
      refine jm_ret (Y := YX6_wordsIn) (pc := 43) (st := []) dX6_wordsIn_43 rfl rfl ?_
      have en : n = w 3 := by omega
      subst en
      exact ⟨rfl, rfl⟩
    · refine jm_ild_n (Y := YX6_wordsIn) (pc := 14) (i := 2) dX6_wordsIn_14 rfl rfl ?_
      refine jm_ald_n (Y := YX6_wordsIn) (pc := 15) (i := 0) dX6_wordsIn_15 rfl rfl ?_
      refine jm_getR (Y := YX6_wordsIn) (pc := 16) dX6_wordsIn_16 fr_RX6_25 rfl (by decide) rfl ?_
      refine jm_ild_n (Y := YX6_wordsIn) (pc := 19) (i := 3) dX6_wordsIn_19 rfl rfl ?_
      refine jm_S2ie (Y := YX6_wordsIn) (pc := 20) dX6_wordsIn_20 lk_RX6_186 ⟨_, rfl⟩ rfl rfl (by decide) (Nat.le_of_ble_eq_true rfl) ⟨by decide, by decide⟩ (c_whereIs _ w _ rfl (jm_17 hM) hg _ (by omega)) ?_
      refine jm_ild_n (Y := YX6_wordsIn) (pc := 23) (i := 1) dX6_wordsIn_23 rfl rfl ?_
      refine jm_icmp_ne (Y := YX6_wordsIn) (pc := 24) dX6_wordsIn_24 rfl (fun h_24 => ?_) (fun h_24 => ?_)
      · refine jm_icN (Y := YX6_wordsIn) (pc := 33) 0 dX6_wordsIn_33 rfl ?_
        refine jm_orN (Y := YX6_wordsIn) (pc := 34) dX6_wordsIn_34 ?_
        refine jm_ist_n (Y := YX6_wordsIn) (pc := 35) (i := 2) (ls' := [_, _, _, _]) dX6_wordsIn_35 rfl (Nat.le_of_ble_eq_true rfl) rfl rfl ?_
        refine jm_incN (Y := YX6_wordsIn) (pc := 36) (m := 1) (ls' := [_, _, _, _]) dX6_wordsIn_36 rfl rfl rfl rfl ?_
        refine jm_goto (Y := YX6_wordsIn) (pc := 39) dX6_wordsIn_39 rfl ?_
        first | (have e : p_wi w c (n + 1) = p_wi w c n ||| 2 ^ n := by { show p_wi w c n ||| _ = _; rw [if_pos ((p_wh_eq hb n c hc).mp h_24)] }; rw [← e]; exact ih (n + 1) (by omega) (by omega)) | (have e : p_wi w c (n + 1) = p_wi w c n ||| 2 ^ n := by { show p_wi w c n ||| _ = _; rw [if_pos ((p_wh_eq hb n c hc).mp (Decidable.not_not.mp h_24))] }; rw [← e]; exact ih (n + 1) (by omega) (by omega)) | (have e : p_wi w c (n + 1) = p_wi w c n ||| 0 := by { show p_wi w c n ||| _ = _; rw [if_neg (fun z => h_24 ((p_wh_eq hb n c hc).mpr z))] }; rw [← e]; exact ih (n + 1) (by omega) (by omega)) | fail
      · refine jm_icN (Y := YX6_wordsIn) (pc := 27) 1 dX6_wordsIn_27 rfl ?_
        refine jm_ild_n (Y := YX6_wordsIn) (pc := 28) (i := 3) dX6_wordsIn_28 rfl rfl ?_
        have g2 := p_2n (show n ≤ 12 by omega)
        refine jm_shlN (Y := YX6_wordsIn) (pc := 29) dX6_wordsIn_29 (by omega) (by omega) ?_
        rw [Nat.one_mul]
        refine jm_goto (Y := YX6_wordsIn) (pc := 30) dX6_wordsIn_30 rfl ?_
        refine jm_orN (Y := YX6_wordsIn) (pc := 34) dX6_wordsIn_34 ?_
        refine jm_ist_n (Y := YX6_wordsIn) (pc := 35) (i := 2) (ls' := [_, _, _, _]) dX6_wordsIn_35 rfl (Nat.le_of_ble_eq_true rfl) rfl rfl ?_
        refine jm_incN (Y := YX6_wordsIn) (pc := 36) (m := 1) (ls' := [_, _, _, _]) dX6_wordsIn_36 rfl rfl rfl rfl ?_
        refine jm_goto (Y := YX6_wordsIn) (pc := 39) dX6_wordsIn_39 rfl ?_
        first | (have e : p_wi w c (n + 1) = p_wi w c n ||| 2 ^ n := by { show p_wi w c n ||| _ = _; rw [if_pos ((p_wh_eq hb n c hc).mp h_24)] }; rw [← e]; exact ih (n + 1) (by omega) (by omega)) | (have e : p_wi w c (n + 1) = p_wi w c n ||| 2 ^ n := by { show p_wi w c n ||| _ = _; rw [if_pos ((p_wh_eq hb n c hc).mp (Decidable.not_not.mp h_24))] }; rw [← e]; exact ih (n + 1) (by omega) (by omega)) | (have e : p_wi w c (n + 1) = p_wi w c n ||| 0 := by { show p_wi w c n ||| _ = _; rw [if_neg (fun z => h_24 ((p_wh_eq hb n c hc).mpr z))] }; rw [← e]; exact ih (n + 1) (by omega) (by omega)) | fail
theorem c_wordsIn (w g : Nat → Nat) (M0 : jm_M) (hM : M0 17 = jm_n w) (hg : rG w) (hz : ∀ j, 45 ≤ j → g j = 0) (hm : w 4 ≤ 9999) (c : Nat) (hc : c ≤ 20000) : jm_J none YX6_wordsIn 0 [some (.ref 11), some (.int (nI c)), none, none] [] (jm_sf M0 19 (jm_n g)) (jm_is (some (.int (nI (p_wi w c (w 3))))) (jm_sf M0 19 (jm_n g))) := by
  refine jm_icN (Y := YX6_wordsIn) (pc := 0) 0 dX6_wordsIn_0 rfl ?_
  refine jm_ist_n (Y := YX6_wordsIn) (pc := 1) (i := 2) (ls' := [_, _, _, _]) dX6_wordsIn_1 rfl (Nat.le_of_ble_eq_true rfl) rfl rfl ?_
  refine jm_icN (Y := YX6_wordsIn) (pc := 2) 0 dX6_wordsIn_2 rfl ?_
  refine jm_ist_n (Y := YX6_wordsIn) (pc := 3) (i := 3) (ls' := [_, _, _, _]) dX6_wordsIn_3 rfl (Nat.le_of_ble_eq_true rfl) rfl rfl ?_
  exact c_wordsIn0 w g M0 hM hg hz hm c hc (w 3 + 1) 0 (by omega) (by omega)
theorem c_cell (w g : Nat → Nat) (M0 : jm_M) (hM : M0 17 = jm_n w) (hg : rG w) (hz : ∀ j, 45 ≤ j → g j = 0) (hm : w 4 ≤ 9999) (v a : Int32) : jm_J none YX6_cell 0 [some (.ref 11), some (.int v), some (.int a)] [] (jm_sf M0 19 (jm_n g)) (jm_q M0 (q_cell w v a)) := by
  have hb := hg.hb
  have h3 := hg.1.2.2.2.1
  have h2 := hg.1.2.2.1
  refine jm_ald_n (Y := YX6_cell) (pc := 0) (i := 0) dX6_cell_0 rfl rfl ?_
  refine jm_ild_n (Y := YX6_cell) (pc := 1) (i := 1) dX6_cell_1 rfl rfl ?_
  refine jm_V1ie (Y := YX6_cell) (pc := 2) dX6_cell_2 lk_RX6_179 ⟨_, rfl⟩ rfl rfl (by decide) (Nat.le_of_ble_eq_true rfl) ⟨by decide, by decide⟩ (c_isCell w _ (jm_17 hM) hg _) ?_
  refine jm_if_neB (Y := YX6_cell) (pc := 5) dX6_cell_5 rfl (fun h_5 => ?_) (fun h_5 => ?_)
  · obtain ⟨k, h_k, rfl, t_k, n_k⟩ := jm_ofL (v := v) (n := w 2) (by omega) (by omega)
    refine jm_ild_n (Y := YX6_cell) (pc := 11) (i := 2) dX6_cell_11 rfl rfl ?_
    by_cases e_12_0 : Int32.toInt a = 0
    · refine jm_tin dX6_cell_12 (by rw [e_12_0]; decide) (by rw [e_12_0]; decide) (by rw [e_12_0]; rfl) rfl ?_
      refine jm_ald_n (Y := YX6_cell) (pc := 40) (i := 0) dX6_cell_40 rfl rfl ?_
      refine jm_getR (Y := YX6_cell) (pc := 41) dX6_cell_41 fr_RX6_25 rfl (by decide) rfl ?_
      refine jm_icN (Y := YX6_cell) (pc := 44) 5 dX6_cell_44 rfl ?_
      refine jm_ild_n (Y := YX6_cell) (pc := 45) (i := 1) dX6_cell_45 rfl rfl ?_
      refine jm_addN (Y := YX6_cell) (pc := 46) dX6_cell_46 ?_
      refine jm_ialN (Y := YX6_cell) (pc := 47) dX6_cell_47 (by first | assumption | exact jm_arR1 ha | exact jm_arR2 ha | exact jm_arR3 ha | exact jm_arR1 hb | exact jm_arR2 hb | exact jm_arR3 hb | rfl) (by first | omega | exact jm_lt hb _) (by first | assumption | exact jm_rdW | exact jm_rdN (jm_17 hM) | rfl) ?_
      refine jm_ret (Y := YX6_cell) (pc := 48) (st := []) dX6_cell_48 rfl rfl ?_
      unfold q_cell
      first | exact jm_qi hz (by rw [if_neg (by omega)]) | exact jm_qi hz (by rw [if_pos (by omega), if_pos (by omega), n_k]) | exact jm_qi hz (by rw [if_pos (by omega), if_neg (by omega), if_pos (by omega), n_k]) | exact jm_qi hz (by rw [if_pos (by omega), if_neg (by omega), if_neg (by omega), if_pos (by omega), n_k]) | exact jm_qi hz (by rw [if_pos (by omega), if_neg (by omega), if_neg (by omega), if_neg (by omega)]) | fail
    by_cases e_12_1 : Int32.toInt a = 1
    · refine jm_tin dX6_cell_12 (by rw [e_12_1]; decide) (by rw [e_12_1]; decide) (by rw [e_12_1]; rfl) rfl ?_
      refine jm_ald_n (Y := YX6_cell) (pc := 49) (i := 0) dX6_cell_49 rfl rfl ?_
      refine jm_getR (Y := YX6_cell) (pc := 50) dX6_cell_50 fr_RX6_25 rfl (by decide) rfl ?_
      refine jm_ild_n (Y := YX6_cell) (pc := 53) (i := 1) dX6_cell_53 rfl rfl ?_
      refine jm_S2ie (Y := YX6_cell) (pc := 54) dX6_cell_54 lk_RX6_146 ⟨_, rfl⟩ rfl rfl (by decide) (Nat.le_of_ble_eq_true rfl) ⟨by decide, by decide⟩ (c_pace _ w _ _ rfl (jm_17 hM) hb (by omega)) ?_
      refine jm_ret (Y := YX6_cell) (pc := 57) (st := []) dX6_cell_57 rfl rfl ?_
      unfold q_cell
      first | exact jm_qi hz (by rw [if_neg (by omega)]) | exact jm_qi hz (by rw [if_pos (by omega), if_pos (by omega), n_k]) | exact jm_qi hz (by rw [if_pos (by omega), if_neg (by omega), if_pos (by omega), n_k]) | exact jm_qi hz (by rw [if_pos (by omega), if_neg (by omega), if_neg (by omega), if_pos (by omega), n_k]) | exact jm_qi hz (by rw [if_pos (by omega), if_neg (by omega), if_neg (by omega), if_neg (by omega)]) | fail
    by_cases e_12_2 : Int32.toInt a = 2
    · refine jm_tin dX6_cell_12 (by rw [e_12_2]; decide) (by rw [e_12_2]; decide) (by rw [e_12_2]; rfl) rfl ?_
      refine jm_ald_n (Y := YX6_cell) (pc := 58) (i := 0) dX6_cell_58 rfl rfl ?_
      refine jm_ild_n (Y := YX6_cell) (pc := 59) (i := 1) dX6_cell_59 rfl rfl ?_
      refine jm_V1ie (Y := YX6_cell) (pc := 60) dX6_cell_60 lk_RX6_189 ⟨_, rfl⟩ rfl rfl (by decide) (Nat.le_of_ble_eq_true rfl) ⟨by decide, by decide⟩ (c_wordsIn w g M0 hM hg hz hm k (by omega)) ?_
      refine jm_ret (Y := YX6_cell) (pc := 63) (st := []) dX6_cell_63 rfl rfl ?_
      unfold q_cell
      first | exact jm_qi hz (by rw [if_neg (by omega)]) | exact jm_qi hz (by rw [if_pos (by omega), if_pos (by omega), n_k]) | exact jm_qi hz (by rw [if_pos (by omega), if_neg (by omega), if_pos (by omega), n_k]) | exact jm_qi hz (by rw [if_pos (by omega), if_neg (by omega), if_neg (by omega), if_pos (by omega), n_k]) | exact jm_qi hz (by rw [if_pos (by omega), if_neg (by omega), if_neg (by omega), if_neg (by omega)]) | fail
    refine jm_tout (Y := YX6_cell) (pc := 12) dX6_cell_12 (by omega) rfl ?_
    refine jm_ldc (Y := YX6_cell) (pc := 64) (v := -1000001) dX6_cell_64 kc_RX6_61 ?_
    refine jm_ret (Y := YX6_cell) (pc := 66) (st := []) dX6_cell_66 rfl rfl ?_
    unfold q_cell
    first | exact jm_qi hz (by rw [if_neg (by omega)]) | exact jm_qi hz (by rw [if_pos (by omega), if_pos (by omega), n_k]) | exact jm_qi hz (by rw [if_pos (by omega), if_neg (by omega), if_pos (by omega), n_k]) | exact jm_qi hz (by rw [if_pos (by omega), if_neg (by omega), if_neg (by omega), if_pos (by omega), n_k]) | exact jm_qi hz (by rw [if_pos (by omega), if_neg (by omega), if_neg (by omega), if_neg (by omega)]) | fail
  · refine jm_ldc (Y := YX6_cell) (pc := 8) (v := -1000001) dX6_cell_8 kc_RX6_61 ?_
    refine jm_ret (Y := YX6_cell) (pc := 10) (st := []) dX6_cell_10 rfl rfl ?_
    unfold q_cell
    first | exact jm_qi hz (by rw [if_neg (by omega)]) | exact jm_qi hz (by rw [if_pos (by omega), if_pos (by omega), n_k]) | exact jm_qi hz (by rw [if_pos (by omega), if_neg (by omega), if_pos (by omega), n_k]) | exact jm_qi hz (by rw [if_pos (by omega), if_neg (by omega), if_neg (by omega), if_pos (by omega), n_k]) | exact jm_qi hz (by rw [if_pos (by omega), if_neg (by omega), if_neg (by omega), if_neg (by omega)]) | fail
def q_ahead (w : Nat → Nat) (v d a : Int32) : Int32 := if 0 ≤ v.toInt ∧ v.toInt < w 3 ∧ 0 ≤ d.toInt ∧ d.toInt ≤ 60 ∧ 0 ≤ a.toInt ∧ a.toInt ≤ 1 then (if a.toInt = 0 then p_wh (p_on w d.toInt.toNat) v.toInt.toNat else nI (p_on w d.toInt.toNat (17 + 4 * v.toInt.toNat + 1))) else -1000001
theorem c_ahead (w g : Nat → Nat) (M0 : jm_M) (hM : M0 17 = jm_n w) (hg : rG w) (hz : ∀ j, 45 ≤ j → g j = 0) (hm : w 4 ≤ 9999) (v d a : Int32) : jm_J none YX6_ahead 0 [some (.ref 11), some (.int v), some (.int d), some (.int a)] [] (jm_sf M0 19 (jm_n g)) (jm_q M0 (q_ahead w v d a)) := by
  have hb := hg.hb
  have h3 := hg.1.2.2.2.1
  have h2 := hg.1.2.2.1
  refine jm_ald_n (Y := YX6_ahead) (pc := 0) (i := 0) dX6_ahead_0 rfl rfl ?_
  refine jm_ild_n (Y := YX6_ahead) (pc := 1) (i := 1) dX6_ahead_1 rfl rfl ?_
  refine jm_V1ie (Y := YX6_ahead) (pc := 2) dX6_ahead_2 lk_RX6_176 ⟨_, rfl⟩ rfl rfl (by decide) (Nat.le_of_ble_eq_true rfl) ⟨by decide, by decide⟩ (c_isWord w _ (jm_17 hM) hg _) ?_
  refine jm_if_eqB (Y := YX6_ahead) (pc := 5) dX6_ahead_5 rfl (fun h_5 => ?_) (fun h_5 => ?_)
  · refine jm_ldc (Y := YX6_ahead) (pc := 27) (v := -1000001) dX6_ahead_27 kc_RX6_61 ?_
    refine jm_ret (Y := YX6_ahead) (pc := 29) (st := []) dX6_ahead_29 rfl rfl ?_
    unfold q_ahead
    first | exact jm_qi hz (by rw [if_neg (by omega)]) | exact jm_qi (p_on_rG hg _ (by omega)).z (by rw [if_pos (by omega), if_pos (by omega), n_k, n_n]) | exact jm_qi (p_on_rG hg _ (by omega)).z (by rw [if_pos (by omega), if_neg (by omega), n_k, n_n]) | fail
  · refine jm_ild_n (Y := YX6_ahead) (pc := 8) (i := 2) dX6_ahead_8 rfl rfl ?_
    refine jm_icN (Y := YX6_ahead) (pc := 9) 0 dX6_ahead_9 rfl ?_
    refine jm_bpN (Y := YX6_ahead) (pc := 10) 60 dX6_ahead_10 rfl ?_
    refine jm_S3ie (Y := YX6_ahead) (pc := 12) dX6_ahead_12 lk_RX6_53 ⟨_, rfl⟩ rfl rfl rfl (by decide) (Nat.le_of_ble_eq_true rfl) ⟨by decide, by decide⟩ (c_inN _ _ _ _ (by decide) (by decide)) ?_
    refine jm_if_eqB (Y := YX6_ahead) (pc := 15) dX6_ahead_15 rfl (fun h_15 => ?_) (fun h_15 => ?_)
    · refine jm_ldc (Y := YX6_ahead) (pc := 27) (v := -1000001) dX6_ahead_27 kc_RX6_61 ?_
      refine jm_ret (Y := YX6_ahead) (pc := 29) (st := []) dX6_ahead_29 rfl rfl ?_
      unfold q_ahead
      first | exact jm_qi hz (by rw [if_neg (by omega)]) | exact jm_qi (p_on_rG hg _ (by omega)).z (by rw [if_pos (by omega), if_pos (by omega), n_k, n_n]) | exact jm_qi (p_on_rG hg _ (by omega)).z (by rw [if_pos (by omega), if_neg (by omega), n_k, n_n]) | fail
    · refine jm_ild_n (Y := YX6_ahead) (pc := 18) (i := 3) dX6_ahead_18 rfl rfl ?_
      refine jm_icN (Y := YX6_ahead) (pc := 19) 0 dX6_ahead_19 rfl ?_
      refine jm_icN (Y := YX6_ahead) (pc := 20) 1 dX6_ahead_20 rfl ?_
      refine jm_S3ie (Y := YX6_ahead) (pc := 21) dX6_ahead_21 lk_RX6_53 ⟨_, rfl⟩ rfl rfl rfl (by decide) (Nat.le_of_ble_eq_true rfl) ⟨by decide, by decide⟩ (c_inN _ _ _ _ (by decide) (by decide)) ?_
      refine jm_if_neB (Y := YX6_ahead) (pc := 24) dX6_ahead_24 rfl (fun h_24 => ?_) (fun h_24 => ?_)
      · obtain ⟨k, h_k, rfl, t_k, n_k⟩ := jm_ofL (v := v) (n := w 3) (by omega) (by omega)
        obtain ⟨n, h_n, rfl, t_n, n_n⟩ := jm_ofL (v := d) (n := 61) (by omega) (by omega)
        obtain ⟨b, h_b, rfl, t_b, n_b⟩ := jm_ofL (v := a) (n := 2) (by omega) (by omega)
        refine jm_ald_n (Y := YX6_ahead) (pc := 30) (i := 0) dX6_ahead_30 rfl rfl ?_
        refine jm_getR (Y := YX6_ahead) (pc := 31) dX6_ahead_31 fr_RX6_25 rfl (by decide) rfl ?_
        refine jm_icN (Y := YX6_ahead) (pc := 34) 0 dX6_ahead_34 rfl ?_
        refine jm_ald_n (Y := YX6_ahead) (pc := 35) (i := 0) dX6_ahead_35 rfl rfl ?_
        refine jm_getR (Y := YX6_ahead) (pc := 36) dX6_ahead_36 fr_RX6_31 rfl (by decide) rfl ?_
        refine jm_icN (Y := YX6_ahead) (pc := 39) 0 dX6_ahead_39 rfl ?_
        refine jm_S4ve (Y := YX6_ahead) (pc := 40) dX6_ahead_40 lk_RX6_135 rfl rfl rfl rfl rfl (by decide) (Nat.le_of_ble_eq_true rfl) ⟨by decide, by decide⟩ (c_cpT w _ M0 hM hg.z (by assumption)) ?_
        refine jm_ald_n (Y := YX6_ahead) (pc := 43) (i := 0) dX6_ahead_43 rfl rfl ?_
        refine jm_ild_n (Y := YX6_ahead) (pc := 44) (i := 2) dX6_ahead_44 rfl rfl ?_
        refine jm_V1ve (Y := YX6_ahead) (pc := 45) dX6_ahead_45 lk_RX6_192 rfl rfl rfl (by decide) (Nat.le_of_ble_eq_true rfl) ⟨by decide, by decide⟩ (c_goT w _ M0 hg (by omega)) ?_
        refine jm_ild_n (Y := YX6_ahead) (pc := 48) (i := 3) dX6_ahead_48 rfl rfl ?_
        refine jm_if_neN (Y := YX6_ahead) (pc := 49) dX6_ahead_49 rfl (by first | omega | exact jm_lt hb _) (fun h_49 => ?_) (fun h_49 => ?_)
        · refine jm_ald_n (Y := YX6_ahead) (pc := 63) (i := 0) dX6_ahead_63 rfl rfl ?_
          refine jm_getR (Y := YX6_ahead) (pc := 64) dX6_ahead_64 fr_RX6_31 rfl (by decide) rfl ?_
          refine jm_bpN (Y := YX6_ahead) (pc := 67) 17 dX6_ahead_67 rfl ?_
          refine jm_icN (Y := YX6_ahead) (pc := 69) 4 dX6_ahead_69 rfl ?_
          refine jm_ild_n (Y := YX6_ahead) (pc := 70) (i := 1) dX6_ahead_70 rfl rfl ?_
          refine jm_mulN (Y := YX6_ahead) (pc := 71) dX6_ahead_71 ?_
          refine jm_addN (Y := YX6_ahead) (pc := 72) dX6_ahead_72 ?_
          refine jm_icN (Y := YX6_ahead) (pc := 73) 1 dX6_ahead_73 rfl ?_
          refine jm_addN (Y := YX6_ahead) (pc := 74) dX6_ahead_74 ?_
          refine jm_ialN (Y := YX6_ahead) (pc := 75) dX6_ahead_75 (by first | assumption | exact jm_arR1 ha | exact jm_arR2 ha | exact jm_arR3 ha | exact jm_arR1 hb | exact jm_arR2 hb | exact jm_arR3 hb | rfl) (by first | omega | exact jm_lt hb _) (by first | assumption | exact jm_rdW | exact jm_rdN (jm_17 hM) | rfl) ?_
          refine jm_ret (Y := YX6_ahead) (pc := 76) (st := []) dX6_ahead_76 rfl rfl ?_
          unfold q_ahead
          first | exact jm_qi hz (by rw [if_neg (by omega)]) | exact jm_qi (p_on_rG hg _ (by omega)).z (by rw [if_pos (by omega), if_pos (by omega), n_k, n_n]) | exact jm_qi (p_on_rG hg _ (by omega)).z (by rw [if_pos (by omega), if_neg (by omega), n_k, n_n]) | fail
        · refine jm_ald_n (Y := YX6_ahead) (pc := 52) (i := 0) dX6_ahead_52 rfl rfl ?_
          refine jm_getR (Y := YX6_ahead) (pc := 53) dX6_ahead_53 fr_RX6_31 rfl (by decide) rfl ?_
          refine jm_ild_n (Y := YX6_ahead) (pc := 56) (i := 1) dX6_ahead_56 rfl rfl ?_
          refine jm_S2ie (Y := YX6_ahead) (pc := 57) dX6_ahead_57 lk_RX6_186 ⟨_, rfl⟩ rfl rfl (by decide) (Nat.le_of_ble_eq_true rfl) ⟨by decide, by decide⟩ (c_whereIs _ (p_on w n) _ rfl jm_rdF (p_on_rG hg _ (by omega)) _ (by omega)) ?_
          refine jm_goto (Y := YX6_ahead) (pc := 60) dX6_ahead_60 rfl ?_
          refine jm_ret (Y := YX6_ahead) (pc := 76) (st := []) dX6_ahead_76 rfl rfl ?_
          unfold q_ahead
          first | exact jm_qi hz (by rw [if_neg (by omega)]) | exact jm_qi (p_on_rG hg _ (by omega)).z (by rw [if_pos (by omega), if_pos (by omega), n_k, n_n]) | exact jm_qi (p_on_rG hg _ (by omega)).z (by rw [if_pos (by omega), if_neg (by omega), n_k, n_n]) | fail
      · refine jm_ldc (Y := YX6_ahead) (pc := 27) (v := -1000001) dX6_ahead_27 kc_RX6_61 ?_
        refine jm_ret (Y := YX6_ahead) (pc := 29) (st := []) dX6_ahead_29 rfl rfl ?_
        unfold q_ahead
        first | exact jm_qi hz (by rw [if_neg (by omega)]) | exact jm_qi (p_on_rG hg _ (by omega)).z (by rw [if_pos (by omega), if_pos (by omega), n_k, n_n]) | exact jm_qi (p_on_rG hg _ (by omega)).z (by rw [if_pos (by omega), if_neg (by omega), n_k, n_n]) | fail
def q_quarrel (w : Nat → Nat) (d : Int32) : Int32 := if w 2 = 0 then -1000002 else if 0 ≤ d.toInt ∧ d.toInt ≤ 60 then nI (p_sm (p_on w d.toInt.toNat) (w 3)) else -1000001
theorem c_quarrel (w g : Nat → Nat) (M0 : jm_M) (hM : M0 17 = jm_n w) (hg : rG w) (hz : ∀ j, 45 ≤ j → g j = 0) (hm : w 4 ≤ 9999) (d : Int32) : jm_J none YX6_quarrel 0 [some (.ref 11), some (.int d)] [] (jm_sf M0 19 (jm_n g)) (jm_q M0 (q_quarrel w d)) := by
  have hb := hg.hb
  have h3 := hg.1.2.2.2.1
  have h2 := hg.1.2.2.1
  refine jm_ald_n (Y := YX6_quarrel) (pc := 0) (i := 0) dX6_quarrel_0 rfl rfl ?_
  refine jm_V0ie (Y := YX6_quarrel) (pc := 1) dX6_quarrel_1 lk_RX6_161 ⟨_, rfl⟩ rfl (by decide) (Nat.le_of_ble_eq_true rfl) ⟨by decide, by decide⟩ (c_isRiver w _ (jm_17 hM) hg) ?_
  refine jm_if_neB (Y := YX6_quarrel) (pc := 4) dX6_quarrel_4 rfl (fun h_4 => ?_) (fun h_4 => ?_)
  · refine jm_ild_n (Y := YX6_quarrel) (pc := 10) (i := 1) dX6_quarrel_10 rfl rfl ?_
    refine jm_icN (Y := YX6_quarrel) (pc := 11) 0 dX6_quarrel_11 rfl ?_
    refine jm_bpN (Y := YX6_quarrel) (pc := 12) 60 dX6_quarrel_12 rfl ?_
    refine jm_S3ie (Y := YX6_quarrel) (pc := 14) dX6_quarrel_14 lk_RX6_53 ⟨_, rfl⟩ rfl rfl rfl (by decide) (Nat.le_of_ble_eq_true rfl) ⟨by decide, by decide⟩ (c_inN _ _ _ _ (by decide) (by decide)) ?_
    refine jm_if_neB (Y := YX6_quarrel) (pc := 17) dX6_quarrel_17 rfl (fun h_17 => ?_) (fun h_17 => ?_)
    · obtain ⟨n, h_n, rfl, t_n, n_n⟩ := jm_ofL (v := d) (n := 61) (by omega) (by omega)
      refine jm_ald_n (Y := YX6_quarrel) (pc := 23) (i := 0) dX6_quarrel_23 rfl rfl ?_
      refine jm_getR (Y := YX6_quarrel) (pc := 24) dX6_quarrel_24 fr_RX6_25 rfl (by decide) rfl ?_
      refine jm_icN (Y := YX6_quarrel) (pc := 27) 0 dX6_quarrel_27 rfl ?_
      refine jm_ald_n (Y := YX6_quarrel) (pc := 28) (i := 0) dX6_quarrel_28 rfl rfl ?_
      refine jm_getR (Y := YX6_quarrel) (pc := 29) dX6_quarrel_29 fr_RX6_31 rfl (by decide) rfl ?_
      refine jm_icN (Y := YX6_quarrel) (pc := 32) 0 dX6_quarrel_32 rfl ?_
      refine jm_S4ve (Y := YX6_quarrel) (pc := 33) dX6_quarrel_33 lk_RX6_135 rfl rfl rfl rfl rfl (by decide) (Nat.le_of_ble_eq_true rfl) ⟨by decide, by decide⟩ (c_cpT w _ M0 hM hg.z (by assumption)) ?_
      refine jm_ald_n (Y := YX6_quarrel) (pc := 36) (i := 0) dX6_quarrel_36 rfl rfl ?_
      refine jm_ild_n (Y := YX6_quarrel) (pc := 37) (i := 1) dX6_quarrel_37 rfl rfl ?_
      refine jm_V1ve (Y := YX6_quarrel) (pc := 38) dX6_quarrel_38 lk_RX6_192 rfl rfl rfl (by decide) (Nat.le_of_ble_eq_true rfl) ⟨by decide, by decide⟩ (c_goT w _ M0 hg (by omega)) ?_
      refine jm_ald_n (Y := YX6_quarrel) (pc := 41) (i := 0) dX6_quarrel_41 rfl rfl ?_
      refine jm_getR (Y := YX6_quarrel) (pc := 42) dX6_quarrel_42 fr_RX6_31 rfl (by decide) rfl ?_
      refine jm_S1ie (Y := YX6_quarrel) (pc := 45) dX6_quarrel_45 lk_RX6_196 ⟨_, rfl⟩ rfl (by decide) (Nat.le_of_ble_eq_true rfl) ⟨by decide, by decide⟩ (c_sizes _ (p_on w n) _ rfl jm_rdF (p_on_rG hg _ (by omega))) ?_
      refine jm_ret (Y := YX6_quarrel) (pc := 48) (st := []) dX6_quarrel_48 rfl rfl ?_
      unfold q_quarrel
      first | exact jm_qi hz (by rw [if_pos (by omega)]) | exact jm_qi hz (by rw [if_neg (by omega), if_neg (by omega)]) | exact jm_qi (p_on_rG hg _ (by omega)).z (by rw [if_neg (by omega), if_pos (by omega), n_n, p_on_hd w (by decide) (by decide)]) | fail
    · refine jm_ldc (Y := YX6_quarrel) (pc := 20) (v := -1000001) dX6_quarrel_20 kc_RX6_61 ?_
      refine jm_ret (Y := YX6_quarrel) (pc := 22) (st := []) dX6_quarrel_22 rfl rfl ?_
      unfold q_quarrel
      first | exact jm_qi hz (by rw [if_pos (by omega)]) | exact jm_qi hz (by rw [if_neg (by omega), if_neg (by omega)]) | exact jm_qi (p_on_rG hg _ (by omega)).z (by rw [if_neg (by omega), if_pos (by omega), n_n, p_on_hd w (by decide) (by decide)]) | fail
  · refine jm_ldc (Y := YX6_quarrel) (pc := 7) (v := -1000002) dX6_quarrel_7 kc_RX6_164 ?_
    refine jm_ret (Y := YX6_quarrel) (pc := 9) (st := []) dX6_quarrel_9 rfl rfl ?_
    unfold q_quarrel
    first | exact jm_qi hz (by rw [if_pos (by omega)]) | exact jm_qi hz (by rw [if_neg (by omega), if_neg (by omega)]) | exact jm_qi (p_on_rG hg _ (by omega)).z (by rw [if_neg (by omega), if_pos (by omega), n_n, p_on_hd w (by decide) (by decide)]) | fail
def p_ov (w : Nat → Nat) (k : Nat) : Nat → Nat → Int32
  | 0, _ => -1000000
  | m + 1, n => if p_on w n (17 + 4 * k + 3) = 1 then nI n else p_ov w k m (n + 1)
theorem c_over0 (w : Nat → Nat) (M0 : jm_M) (hM : M0 17 = jm_n w) (hg : rG w) (hm : w 4 ≤ 9999) (k : Nat) (hk : k < w 3) : ∀ (m : Nat) (n : Nat), n ≤ 61 → 61 - n < m → jm_J none YX6_over 26 [some (.ref 11), some (.int (nI k)), some (.int (nI n))] [] (jm_sf M0 19 (jm_n (p_on w n))) (jm_q M0 (p_ov w k (61 - n) n)) := by
  intro m
  induction m with
  | zero => intros; omega
  | succ m ih =>
    intro n hn hmm
    have h3 := hg.1.2.2.2.1
    have hG := p_on_rG hg n (by omega)
    have hb := hG.hb
    refine jm_ild_n (Y := YX6_over) (pc := 26) (i := 2) dX6_over_26 rfl rfl ?_
    refine jm_bpN (Y := YX6_over) (pc := 27) 61 dX6_over_27 rfl ?_
    refine jm_icmp_geN (Y := YX6_over) (pc := 29) dX6_over_29 rfl (by first | omega | exact jm_lt hb _) (by first | omega | exact jm_lt hb _) (fun h_29 => ?_) (fun h_29 => ?_)
    · refine jm_ldc (Y := YX6_over) (pc := 64) (v := -1000000) dX6_over_64 kc_RX6_47 ?_
      refine jm_ret (Y := YX6_over) (pc := 66) (st := []) dX6_over_66 rfl rfl ?_
      exact jm_qi hG.z (by rw [show 61 - n = 0 by omega]; rfl)
    · refine jm_ald_n (Y := YX6_over) (pc := 32) (i := 0) dX6_over_32 rfl rfl ?_
      refine jm_getR (Y := YX6_over) (pc := 33) dX6_over_33 fr_RX6_31 rfl (by decide) rfl ?_
      refine jm_bpN (Y := YX6_over) (pc := 36) 17 dX6_over_36 rfl ?_
      refine jm_icN (Y := YX6_over) (pc := 38) 4 dX6_over_38 rfl ?_
      refine jm_ild_n (Y := YX6_over) (pc := 39) (i := 1) dX6_over_39 rfl rfl ?_
      refine jm_mulN (Y := YX6_over) (pc := 40) dX6_over_40 ?_
      refine jm_addN (Y := YX6_over) (pc := 41) dX6_over_41 ?_
      refine jm_icN (Y := YX6_over) (pc := 42) 3 dX6_over_42 rfl ?_
      refine jm_addN (Y := YX6_over) (pc := 43) dX6_over_43 ?_
      refine jm_ialN (Y := YX6_over) (pc := 44) dX6_over_44 (by first | assumption | exact jm_arR1 ha | exact jm_arR2 ha | exact jm_arR3 ha | exact jm_arR1 hb | exact jm_arR2 hb | exact jm_arR3 hb | rfl) (by first | omega | exact jm_lt hb _) (by first | assumption | exact jm_rdW | exact jm_rdN (jm_17 hM) | rfl) ?_
      refine jm_icN (Y := YX6_over) (pc := 45) 1 dX6_over_45 rfl ?_
      refine jm_icmp_neN (Y := YX6_over) (pc := 46) dX6_over_46 rfl (by first | omega | exact jm_lt hb _) (by first | omega | exact jm_lt hb _) (fun h_46 => ?_) (fun h_46 => ?_)
      · refine jm_ald_n (Y := YX6_over) (pc := 51) (i := 0) dX6_over_51 rfl rfl ?_
        refine jm_getR (Y := YX6_over) (pc := 52) dX6_over_52 fr_RX6_31 rfl (by decide) rfl ?_
        refine jm_S1ve (Y := YX6_over) (pc := 55) dX6_over_55 lk_RX6_168 rfl rfl (by decide) (Nat.le_of_ble_eq_true rfl) ⟨by decide, by decide⟩ (c_paT (p_on w n) M0 hG) ?_
        refine jm_incN (Y := YX6_over) (pc := 58) (m := 1) (ls' := [_, _, _]) dX6_over_58 rfl rfl rfl rfl ?_
        refine jm_goto (Y := YX6_over) (pc := 61) dX6_over_61 rfl ?_
        have e : p_ov w k (61 - n) n = p_ov w k (61 - (n + 1)) (n + 1) := by { rw [show 61 - n = (61 - (n + 1)) + 1 by omega]; show (if _ then _ else _) = _; rw [if_neg h_46] }
        rw [e]
        exact ih (n + 1) (by omega) (by omega)
      · refine jm_ild_n (Y := YX6_over) (pc := 49) (i := 2) dX6_over_49 rfl rfl ?_
        refine jm_ret (Y := YX6_over) (pc := 50) (st := []) dX6_over_50 rfl rfl ?_
        exact jm_qi hG.z (by rw [show 61 - n = (61 - (n + 1)) + 1 by omega]; show _ = (if _ then _ else _); rw [if_pos (by first | assumption | exact Decidable.not_not.mp h_46)])
def q_over (w : Nat → Nat) (v : Int32) : Int32 := if 0 ≤ v.toInt ∧ v.toInt < w 3 then p_ov w v.toInt.toNat 61 0 else -1000001
theorem c_over (w g : Nat → Nat) (M0 : jm_M) (hM : M0 17 = jm_n w) (hg : rG w) (hz : ∀ j, 45 ≤ j → g j = 0) (hm : w 4 ≤ 9999) (v : Int32) : jm_J none YX6_over 0 [some (.ref 11), some (.int v), none] [] (jm_sf M0 19 (jm_n g)) (jm_q M0 (q_over w v)) := by
  have hb := hg.hb
  have h3 := hg.1.2.2.2.1
  have h2 := hg.1.2.2.1
  refine jm_ald_n (Y := YX6_over) (pc := 0) (i := 0) dX6_over_0 rfl rfl ?_
  refine jm_ild_n (Y := YX6_over) (pc := 1) (i := 1) dX6_over_1 rfl rfl ?_
  refine jm_V1ie (Y := YX6_over) (pc := 2) dX6_over_2 lk_RX6_176 ⟨_, rfl⟩ rfl rfl (by decide) (Nat.le_of_ble_eq_true rfl) ⟨by decide, by decide⟩ (c_isWord w _ (jm_17 hM) hg _) ?_
  refine jm_if_neB (Y := YX6_over) (pc := 5) dX6_over_5 rfl (fun h_5 => ?_) (fun h_5 => ?_)
  · obtain ⟨k, h_k, rfl, t_k, n_k⟩ := jm_ofL (v := v) (n := w 3) (by omega) (by omega)
    refine jm_ald_n (Y := YX6_over) (pc := 11) (i := 0) dX6_over_11 rfl rfl ?_
    refine jm_getR (Y := YX6_over) (pc := 12) dX6_over_12 fr_RX6_25 rfl (by decide) rfl ?_
    refine jm_icN (Y := YX6_over) (pc := 15) 0 dX6_over_15 rfl ?_
    refine jm_ald_n (Y := YX6_over) (pc := 16) (i := 0) dX6_over_16 rfl rfl ?_
    refine jm_getR (Y := YX6_over) (pc := 17) dX6_over_17 fr_RX6_31 rfl (by decide) rfl ?_
    refine jm_icN (Y := YX6_over) (pc := 20) 0 dX6_over_20 rfl ?_
    refine jm_S4ve (Y := YX6_over) (pc := 21) dX6_over_21 lk_RX6_135 rfl rfl rfl rfl rfl (by decide) (Nat.le_of_ble_eq_true rfl) ⟨by decide, by decide⟩ (c_cpT w _ M0 hM hg.z (by assumption)) ?_
    refine jm_icN (Y := YX6_over) (pc := 24) 0 dX6_over_24 rfl ?_
    refine jm_ist_n (Y := YX6_over) (pc := 25) (i := 2) (ls' := [_, _, _]) dX6_over_25 rfl (Nat.le_of_ble_eq_true rfl) rfl rfl ?_
    have e : q_over w (nI k) = p_ov w k 61 0 := by { unfold q_over; rw [if_pos (by omega), n_k] }
    rw [e]
    exact c_over0 w M0 hM hg hm k (by omega) 62 0 (by omega) (by omega)
  · refine jm_ldc (Y := YX6_over) (pc := 8) (v := -1000001) dX6_over_8 kc_RX6_61 ?_
    refine jm_ret (Y := YX6_over) (pc := 10) (st := []) dX6_over_10 rfl rfl ?_
    unfold q_over
    exact jm_qi hz (by rw [if_neg (by omega)])
def q_kept (w : Nat → Nat) : Int32 := if w 2 = 0 then -1000002 else nI (2 ^ w 3 - 1) &&& (nI (p_gn (p_on w 60) (w 3)) ^^^ -1)
theorem c_kept (w g : Nat → Nat) (M0 : jm_M) (hM : M0 17 = jm_n w) (hg : rG w) (hz : ∀ j, 45 ≤ j → g j = 0) (hm : w 4 ≤ 9999)  : jm_J none YX6_kept 0 [some (.ref 11)] [] (jm_sf M0 19 (jm_n g)) (jm_q M0 (q_kept w)) := by
  have hb := hg.hb
  have h3 := hg.1.2.2.2.1
  have h2 := hg.1.2.2.1
  refine jm_ald_n (Y := YX6_kept) (pc := 0) (i := 0) dX6_kept_0 rfl rfl ?_
  refine jm_V0ie (Y := YX6_kept) (pc := 1) dX6_kept_1 lk_RX6_161 ⟨_, rfl⟩ rfl (by decide) (Nat.le_of_ble_eq_true rfl) ⟨by decide, by decide⟩ (c_isRiver w _ (jm_17 hM) hg) ?_
  refine jm_if_neB (Y := YX6_kept) (pc := 4) dX6_kept_4 rfl (fun h_4 => ?_) (fun h_4 => ?_)
  · refine jm_ald_n (Y := YX6_kept) (pc := 10) (i := 0) dX6_kept_10 rfl rfl ?_
    refine jm_getR (Y := YX6_kept) (pc := 11) dX6_kept_11 fr_RX6_25 rfl (by decide) rfl ?_
    refine jm_icN (Y := YX6_kept) (pc := 14) 0 dX6_kept_14 rfl ?_
    refine jm_ald_n (Y := YX6_kept) (pc := 15) (i := 0) dX6_kept_15 rfl rfl ?_
    refine jm_getR (Y := YX6_kept) (pc := 16) dX6_kept_16 fr_RX6_31 rfl (by decide) rfl ?_
    refine jm_icN (Y := YX6_kept) (pc := 19) 0 dX6_kept_19 rfl ?_
    refine jm_S4ve (Y := YX6_kept) (pc := 20) dX6_kept_20 lk_RX6_135 rfl rfl rfl rfl rfl (by decide) (Nat.le_of_ble_eq_true rfl) ⟨by decide, by decide⟩ (c_cpT w _ M0 hM hg.z (by assumption)) ?_
    refine jm_ald_n (Y := YX6_kept) (pc := 23) (i := 0) dX6_kept_23 rfl rfl ?_
    refine jm_bpN (Y := YX6_kept) (pc := 24) 60 dX6_kept_24 rfl ?_
    refine jm_V1ve (Y := YX6_kept) (pc := 26) dX6_kept_26 lk_RX6_192 rfl rfl rfl (by decide) (Nat.le_of_ble_eq_true rfl) ⟨by decide, by decide⟩ (c_goT w _ M0 hg (by omega)) ?_
    refine jm_ald_n (Y := YX6_kept) (pc := 29) (i := 0) dX6_kept_29 rfl rfl ?_
    refine jm_getR (Y := YX6_kept) (pc := 30) dX6_kept_30 fr_RX6_25 rfl (by decide) rfl ?_
    refine jm_S1ie (Y := YX6_kept) (pc := 33) dX6_kept_33 lk_RX6_199 ⟨_, rfl⟩ rfl (by decide) (Nat.le_of_ble_eq_true rfl) ⟨by decide, by decide⟩ (c_all _ w _ rfl (jm_17 hM) hg) ?_
    refine jm_ald_n (Y := YX6_kept) (pc := 36) (i := 0) dX6_kept_36 rfl rfl ?_
    refine jm_getR (Y := YX6_kept) (pc := 37) dX6_kept_37 fr_RX6_31 rfl (by decide) rfl ?_
    refine jm_S1ie (Y := YX6_kept) (pc := 40) dX6_kept_40 lk_RX6_172 ⟨_, rfl⟩ rfl (by decide) (Nat.le_of_ble_eq_true rfl) ⟨by decide, by decide⟩ (c_goneOf _ (p_on w 60) _ rfl jm_rdF (p_on_rG hg _ (by omega))) ?_
    refine jm_iconst (Y := YX6_kept) (pc := 43) (v := -1) dX6_kept_43 rfl ?_
    refine jm_ixor (Y := YX6_kept) (pc := 44) dX6_kept_44 ?_
    refine jm_iand (Y := YX6_kept) (pc := 45) dX6_kept_45 ?_
    refine jm_ret (Y := YX6_kept) (pc := 46) (st := []) dX6_kept_46 rfl rfl ?_
    unfold q_kept
    first | exact jm_qi hz (by rw [if_pos (by omega)]) | exact jm_qi (p_on_rG hg _ (by omega)).z (by rw [if_neg (by omega), p_on_hd w (by decide) (by decide)]) | fail
  · refine jm_ldc (Y := YX6_kept) (pc := 7) (v := -1000002) dX6_kept_7 kc_RX6_164 ?_
    refine jm_ret (Y := YX6_kept) (pc := 9) (st := []) dX6_kept_9 rfl rfl ?_
    unfold q_kept
    first | exact jm_qi hz (by rw [if_pos (by omega)]) | exact jm_qi (p_on_rG hg _ (by omega)).z (by rw [if_neg (by omega), p_on_hd w (by decide) (by decide)]) | fail
