/-! the class: what fits -/
def f_bits (ok : Nat → Bool) : Nat → Nat → Nat
  | 0, _ => 0
  | n + 1, v => (if ok v = true then 2 ^ v else 0) ||| f_bits ok n (v + 1)
def f_cnt (ok : Nat → Bool) : Nat → Nat → Nat
  | 0, _ => 0
  | n + 1, v => (if ok v = true then 1 else 0) + f_cnt ok n (v + 1)
def f_lst (ok : Nat → Bool) : Nat → Nat → Option Nat
  | 0, _ => none
  | n + 1, v => if ok v = true then some v else f_lst ok n (v + 1)
theorem f_all {ok : Nat → Bool} {b hi : Nat} (hb : b < 3) : ∀ m, m ≤ hi + 1 → (p_fs ok b hi m).1 = f_bits ok m (hi + 1 - m)
  | 0, _ => rfl
  | m + 1, h => by
    have e : hi + 1 - (m + 1) = hi - m := by omega
    have e1 : hi - m + 1 = hi + 1 - m := by omega
    have i1 := f_all (ok := ok) (hi := hi) hb m (by omega)
    have d1 : p_fs ok b hi (m + 1) = if ok (hi - m) = true then ((p_fs ok b hi m).1 ||| (if b < 3 then 2 ^ (hi - m) else 0), (p_fs ok b hi m).2.1 + 1, some (hi - m)) else p_fs ok b hi m := rfl
    have d2 : f_bits ok (m + 1) (hi - m) = (if ok (hi - m) = true then 2 ^ (hi - m) else 0) ||| f_bits ok m (hi - m + 1) := rfl
    rw [e, d1, d2, e1, ← i1]
    by_cases z : ok (hi - m) = true
    · rw [if_pos z, if_pos z, if_pos hb]; exact Nat.or_comm _ _
    · rw [if_neg z, if_neg z]; exact (Nat.zero_or _).symm
theorem f_all2 {ok : Nat → Bool} {b hi : Nat} : ∀ m, m ≤ hi + 1 → (p_fs ok b hi m).2.1 = f_cnt ok m (hi + 1 - m) ∧ (p_fs ok b hi m).2.2 = f_lst ok m (hi + 1 - m)
  | 0, _ => ⟨rfl, rfl⟩
  | m + 1, h => by
    have e : hi + 1 - (m + 1) = hi - m := by omega
    have e1 : hi - m + 1 = hi + 1 - m := by omega
    obtain ⟨i1, i2⟩ := f_all2 (ok := ok) (b := b) (hi := hi) m (by omega)
    have d1 : p_fs ok b hi (m + 1) = if ok (hi - m) = true then ((p_fs ok b hi m).1 ||| (if b < 3 then 2 ^ (hi - m) else 0), (p_fs ok b hi m).2.1 + 1, some (hi - m)) else p_fs ok b hi m := rfl
    have d2 : f_cnt ok (m + 1) (hi - m) = (if ok (hi - m) = true then 1 else 0) + f_cnt ok m (hi - m + 1) := rfl
    have d3 : f_lst ok (m + 1) (hi - m) = if ok (hi - m) = true then some (hi - m) else f_lst ok m (hi - m + 1) := rfl
    rw [e, d1, d2, d3, e1, ← i1, ← i2]
    by_cases z : ok (hi - m) = true
    · rw [if_pos z, if_pos z, if_pos z]; exact ⟨Nat.add_comm _ _, rfl⟩
    · rw [if_neg z, if_neg z, if_neg z]; exact ⟨(Nat.zero_add _).symm, rfl⟩
theorem f_bits_c {ok ok' : Nat → Bool} : ∀ n v, (∀ x, v ≤ x → x < v + n → ok x = ok' x) → f_bits ok n v = f_bits ok' n v
  | 0, _, _ => rfl
  | n + 1, v, h => by
    have d : ∀ ok, f_bits ok (n + 1) v = (if ok v = true then 2 ^ v else 0) ||| f_bits ok n (v + 1) := fun _ => rfl
    rw [d, d, h v (Nat.le_refl _) (by omega), f_bits_c n (v + 1) (fun x a b => h x (by omega) (by omega))]
theorem f_cnt_c {ok ok' : Nat → Bool} : ∀ n v, (∀ x, v ≤ x → x < v + n → ok x = ok' x) → f_cnt ok n v = f_cnt ok' n v
  | 0, _, _ => rfl
  | n + 1, v, h => by
    have d : ∀ ok, f_cnt ok (n + 1) v = (if ok v = true then 1 else 0) + f_cnt ok n (v + 1) := fun _ => rfl
    rw [d, d, h v (Nat.le_refl _) (by omega), f_cnt_c n (v + 1) (fun x a b => h x (by omega) (by omega))]
theorem f_lst_c {ok ok' : Nat → Bool} : ∀ n v, (∀ x, v ≤ x → x < v + n → ok x = ok' x) → f_lst ok n v = f_lst ok' n v
  | 0, _, _ => rfl
  | n + 1, v, h => by
    have d : ∀ ok, f_lst ok (n + 1) v = if ok v = true then some v else f_lst ok n (v + 1) := fun _ => rfl
    rw [d, d, h v (Nat.le_refl _) (by omega), f_lst_c n (v + 1) (fun x a b => h x (by omega) (by omega))]
theorem f_st {ok : Nat → Bool} {v n b T : Nat} (h : ok v = true) (e : b ||| f_bits ok (n + 1) v = T) : (b ||| 1 * 2 ^ v) ||| f_bits ok n (v + 1) = T := by
  have d : f_bits ok (n + 1) v = (if ok v = true then 2 ^ v else 0) ||| f_bits ok n (v + 1) := rfl
  rw [d, if_pos h] at e
  rw [Nat.one_mul, Nat.or_assoc]; exact e
theorem f_sf {ok : Nat → Bool} {v n b T : Nat} (h : ¬ ok v = true) (e : b ||| f_bits ok (n + 1) v = T) : b ||| f_bits ok n (v + 1) = T := by
  have d : f_bits ok (n + 1) v = (if ok v = true then 2 ^ v else 0) ||| f_bits ok n (v + 1) := rfl
  rw [d, if_neg h, Nat.zero_or] at e
  exact e
theorem f_ct {ok : Nat → Bool} {v n b T : Nat} (h : ok v = true) (e : b + f_cnt ok (n + 1) v = T) : (b + 1) + f_cnt ok n (v + 1) = T := by
  have d : f_cnt ok (n + 1) v = (if ok v = true then 1 else 0) + f_cnt ok n (v + 1) := rfl
  rw [d, if_pos h] at e
  omega
theorem f_cf {ok : Nat → Bool} {v n b T : Nat} (h : ¬ ok v = true) (e : b + f_cnt ok (n + 1) v = T) : b + f_cnt ok n (v + 1) = T := by
  have d : f_cnt ok (n + 1) v = (if ok v = true then 1 else 0) + f_cnt ok n (v + 1) := rfl
  rw [d, if_neg h] at e
  omega
theorem m_sn_it {w : Nat → Nat} {kd : Nat} {s : Nat × Nat} {A B : Nat → Int32} {f g : Nat} : ∀ n, (∀ j, j < n → A (f + j) = B (g + j)) → m_sn w kd s A f n = m_sn w kd s B g n
  | 0, _ => rfl
  | n + 1, h => by
    have d : ∀ (A : Nat → Int32) f, m_sn w kd s A f (n + 1) = (m_sn w kd s A f n && decide (m_tl (m_hy w kd s (n + 1)) = A (f + n))) := fun _ _ => rfl
    rw [d, d, m_sn_it n (fun j hj => h j (by omega)), h n (by omega)]
theorem w_sorts0 (w : Nat → Nat) (M : jm_M) (hR : RV M 0 w) (hg : rG w) (hm : w 4 ≤ 9999) (k T i N : Nat) (hk : k < w 3) (hT : jm_ar T = some (0, 40)) (hT2 : T < 32) (hf : i + N ≤ 40) (hN : N ≤ 12) : ∀ (m : Nat) (b v : Nat), 1 ≤ v → v ≤ 1 + 5 → b ||| f_bits (fun x => m_sn w x (m_st w k) (M T) i N) (1 + 5 - v) v = f_bits (fun x => m_sn w x (m_st w k) (M T) i N) 5 1 → 1 + 5 - v < m → jm_J none YX5_fittingSorts 6 [some (.ref 0), some (.int (nI k)), some (.ref T), some (.int (nI i)), some (.int (nI N)), some (.int (nI b)), some (.int (nI v))] [] M (jm_is (some (.int (nI (f_bits (fun x => m_sn w x (m_st w k) (M T) i N) 5 1)))) M) := by
  intro m
  induction m with
  | zero => intros; omega
  | succ m ih =>
    intro b v hv1 hv2 hI hmm
    have hb := hg.hb
    have g0 := hg.1.1
    have g1 := hg.1.2.1
    have g2 := hg.1.2.2.1
    have g3 := hg.1.2.2.2.1
    have g4 := hg.1.2.2.2.2
    have q0 := hg.2.2.1 k (by omega)
    have q1 := hg.2.2.2.2 k (by omega)
    have q2 : (m_st w k).1 ≤ 60 ∧ (m_st w k).2 < w 2 := ⟨q0.2.1, q1.2.1⟩
    refine jm_iload (Y := YX5_fittingSorts) (pc := 6) dX5_fittingSorts_6 rfl ?_
    refine jm_icN (Y := YX5_fittingSorts) (pc := 8) 5 dX5_fittingSorts_8 rfl ?_
    refine jm_icmp_gtN (Y := YX5_fittingSorts) (pc := 9) dX5_fittingSorts_9 rfl (by first | omega | exact jm_lt hb _) (by first | omega | exact jm_lt hb _) (fun h_9 => ?_) (fun h_9 => ?_)
    · refine jm_iload (Y := YX5_fittingSorts) (pc := 52) dX5_fittingSorts_52 rfl ?_
      refine jm_ret (Y := YX5_fittingSorts) (pc := 54) (st := []) dX5_fittingSorts_54 rfl rfl ?_
      have ev : 1 + 5 - v = 0 := by omega
      rw [ev] at hI
      exact jm_eqN ((Nat.or_zero b).symm.trans hI)
    · refine jm_ald_n (Y := YX5_fittingSorts) (pc := 12) (i := 0) dX5_fittingSorts_12 rfl rfl ?_
      refine jm_getR (Y := YX5_fittingSorts) (pc := 13) dX5_fittingSorts_13 fr_RX5_33 rfl (by decide) rfl ?_
      refine jm_iload (Y := YX5_fittingSorts) (pc := 16) dX5_fittingSorts_16 rfl ?_
      refine jm_ald_n (Y := YX5_fittingSorts) (pc := 18) (i := 0) dX5_fittingSorts_18 rfl rfl ?_
      refine jm_getR (Y := YX5_fittingSorts) (pc := 19) dX5_fittingSorts_19 fr_RX5_33 rfl (by decide) rfl ?_
      refine jm_getR (Y := YX5_fittingSorts) (pc := 22) dX5_fittingSorts_22 fr_RX5_159 (by first | exact jm_obR ha | exact jm_obR hb | rfl) (by decide) (by first | exact jm_rf7 | rfl) ?_
      refine jm_ild_n (Y := YX5_fittingSorts) (pc := 25) (i := 1) dX5_fittingSorts_25 rfl rfl ?_
      refine jm_ialN (Y := YX5_fittingSorts) (pc := 26) dX5_fittingSorts_26 (by first | assumption | exact jm_arR1 ha | exact jm_arR2 ha | exact jm_arR3 ha | exact jm_arR1 hb | exact jm_arR2 hb | exact jm_arR3 hb | rfl) (by first | omega | exact jm_lt hb _) (by first | assumption | exact hR.1.1 | exact hR.1.2.1 | exact hR.1.2.2.1 | exact hR.1.2.2.2.1 | exact hR.1.2.2.2.2 | exact hR.2.1 _ (by omega) | exact (hR.2.2 _ (by omega)).1 | exact (hR.2.2 _ (by omega)).2 | rfl) ?_
      refine jm_ald_n (Y := YX5_fittingSorts) (pc := 27) (i := 2) dX5_fittingSorts_27 rfl rfl ?_
      refine jm_ild_n (Y := YX5_fittingSorts) (pc := 28) (i := 3) dX5_fittingSorts_28 rfl rfl ?_
      refine jm_iload (Y := YX5_fittingSorts) (pc := 29) dX5_fittingSorts_29 rfl ?_
      refine jm_V5ie (Y := YX5_fittingSorts) (pc := 31) dX5_fittingSorts_31 lk_RX5_303 ⟨_, rfl⟩ (by first | exact jm_obR ha | exact jm_obR hb | rfl) rfl rfl rfl rfl rfl (by decide) (Nat.le_of_ble_eq_true rfl) ⟨by decide, by decide⟩ (m_told 0 (by decide) w _ hR hg (v) (m_st w k) (by omega) (by omega) (by first | omega | (show _ ≤ 60; omega)) (by first | omega | (show _ < w 2; omega)) T i N hT hf hm) ?_
      refine jm_if_eqB (Y := YX5_fittingSorts) (pc := 34) dX5_fittingSorts_34 rfl (fun h_34 => ?_) (fun h_34 => ?_)
      · refine jm_incN (Y := YX5_fittingSorts) (pc := 46) (m := 1) (ls' := [_, _, _, _, _, _, _]) dX5_fittingSorts_46 rfl rfl rfl rfl ?_
        refine jm_goto (Y := YX5_fittingSorts) (pc := 49) dX5_fittingSorts_49 rfl ?_
        have ev : 1 + 5 - v = 1 + 5 - (v + 1) + 1 := by omega
        rw [ev] at hI
        first
          | exact ih _ (v + 1) (by omega) (by omega) (f_st h_34 hI) (by omega)
          | exact ih _ (v + 1) (by omega) (by omega) (f_sf h_34 hI) (by omega)
          | fail
      · refine jm_iload (Y := YX5_fittingSorts) (pc := 37) dX5_fittingSorts_37 rfl ?_
        refine jm_icN (Y := YX5_fittingSorts) (pc := 39) 1 dX5_fittingSorts_39 rfl ?_
        refine jm_iload (Y := YX5_fittingSorts) (pc := 40) dX5_fittingSorts_40 rfl ?_
        refine jm_shlN (Y := YX5_fittingSorts) (pc := 42) dX5_fittingSorts_42 (by omega) (by rw [Nat.one_mul]; exact Nat.lt_of_le_of_lt (Nat.pow_le_pow_right (by decide) (show v ≤ 12 by omega)) (by decide)) ?_
        refine jm_orN (Y := YX5_fittingSorts) (pc := 43) dX5_fittingSorts_43 ?_
        refine jm_ist (Y := YX5_fittingSorts) (pc := 44) (ls' := [_, _, _, _, _, _, _]) dX5_fittingSorts_44 (Nat.le_of_ble_eq_true rfl) rfl rfl ?_
        refine jm_incN (Y := YX5_fittingSorts) (pc := 46) (m := 1) (ls' := [_, _, _, _, _, _, _]) dX5_fittingSorts_46 rfl rfl rfl rfl ?_
        refine jm_goto (Y := YX5_fittingSorts) (pc := 49) dX5_fittingSorts_49 rfl ?_
        have ev : 1 + 5 - v = 1 + 5 - (v + 1) + 1 := by omega
        rw [ev] at hI
        first
          | exact ih _ (v + 1) (by omega) (by omega) (f_st h_34 hI) (by omega)
          | exact ih _ (v + 1) (by omega) (by omega) (f_sf h_34 hI) (by omega)
          | fail
theorem w_sorts (w : Nat → Nat) (M : jm_M) (hR : RV M 0 w) (hg : rG w) (hm : w 4 ≤ 9999) (k T i N : Nat) (hk : k < w 3) (hT : jm_ar T = some (0, 40)) (hT2 : T < 32) (hf : i + N ≤ 40) (hN : N ≤ 12) : jm_J none YX5_fittingSorts 0 [some (.ref 0), some (.int (nI k)), some (.ref T), some (.int (nI i)), some (.int (nI N)), none, none] [] M (jm_is (some (.int (nI (f_bits (fun x => m_sn w x (m_st w k) (M T) i N) 5 1)))) M) := by
  refine jm_icN (Y := YX5_fittingSorts) (pc := 0) 0 dX5_fittingSorts_0 rfl ?_
  refine jm_ist (Y := YX5_fittingSorts) (pc := 1) (ls' := [_, _, _, _, _, _, _]) dX5_fittingSorts_1 (Nat.le_of_ble_eq_true rfl) rfl rfl ?_
  refine jm_icN (Y := YX5_fittingSorts) (pc := 3) 1 dX5_fittingSorts_3 rfl ?_
  refine jm_ist (Y := YX5_fittingSorts) (pc := 4) (ls' := [_, _, _, _, _, _, _]) dX5_fittingSorts_4 (Nat.le_of_ble_eq_true rfl) rfl rfl ?_
  exact w_sorts0 w M hR hg hm k T i N hk hT hT2 hf hN (5 + 1) 0 1 (by omega) (by omega) (by rw [show 1 + 5 - 1 = 5 by omega]; exact Nat.zero_or _) (by omega)
theorem w_starts0 (w : Nat → Nat) (M : jm_M) (hR : RV M 0 w) (hg : rG w) (hm : w 4 ≤ 9999) (k T i N : Nat) (hk : k < w 3) (hT : jm_ar T = some (0, 40)) (hT2 : T < 32) (hf : i + N ≤ 40) (hN : N ≤ 12) : ∀ (m : Nat) (b v : Nat) (l7 : Option Value), 0 ≤ v → v ≤ 0 + (w 2) → b ||| f_bits (fun x => m_sn w (w (17 + 4 * k)) (w (17 + 4 * k + 1), x) (M T) i N) (0 + (w 2) - v) v = f_bits (fun x => m_sn w (w (17 + 4 * k)) (w (17 + 4 * k + 1), x) (M T) i N) (w 2) 0 → 0 + (w 2) - v < m → jm_J none YX5_fittingStarts 6 [some (.ref 0), some (.int (nI k)), some (.ref T), some (.int (nI i)), some (.int (nI N)), some (.int (nI b)), some (.int (nI v)), l7] [] M (jm_is (some (.int (nI (f_bits (fun x => m_sn w (w (17 + 4 * k)) (w (17 + 4 * k + 1), x) (M T) i N) (w 2) 0)))) M) := by
  intro m
  induction m with
  | zero => intros; omega
  | succ m ih =>
    intro b v l7 hv1 hv2 hI hmm
    have hb := hg.hb
    have g0 := hg.1.1
    have g1 := hg.1.2.1
    have g2 := hg.1.2.2.1
    have g3 := hg.1.2.2.2.1
    have g4 := hg.1.2.2.2.2
    have q0 := hg.2.2.1 k (by omega)
    have q1 := hg.2.2.2.2 k (by omega)
    have q2 : (m_st w k).1 ≤ 60 ∧ (m_st w k).2 < w 2 := ⟨q0.2.1, q1.2.1⟩
    refine jm_iload (Y := YX5_fittingStarts) (pc := 6) dX5_fittingStarts_6 rfl ?_
    refine jm_ald_n (Y := YX5_fittingStarts) (pc := 8) (i := 0) dX5_fittingStarts_8 rfl rfl ?_
    refine jm_getR (Y := YX5_fittingStarts) (pc := 9) dX5_fittingStarts_9 fr_RX5_33 rfl (by decide) rfl ?_
    first | refine jm_getE (Y := YX5_fittingStarts) (pc := 12) dX5_fittingStarts_12 fw_RX5_127 (by first | exact jm_obR ha | exact jm_obR hb | rfl) (by decide) (by first | exact jm_rf0 | rfl) (by assumption) ?_ | refine jm_getE (Y := YX5_fittingStarts) (pc := 12) dX5_fittingStarts_12 fw_RX5_127 (by first | exact jm_obR ha | exact jm_obR hb | rfl) (by decide) (by first | exact jm_rf0 | rfl) (by exact hR.1.1) ?_ | refine jm_getE (Y := YX5_fittingStarts) (pc := 12) dX5_fittingStarts_12 fw_RX5_127 (by first | exact jm_obR ha | exact jm_obR hb | rfl) (by decide) (by first | exact jm_rf0 | rfl) (by exact hR.1.2.1) ?_ | refine jm_getE (Y := YX5_fittingStarts) (pc := 12) dX5_fittingStarts_12 fw_RX5_127 (by first | exact jm_obR ha | exact jm_obR hb | rfl) (by decide) (by first | exact jm_rf0 | rfl) (by exact hR.1.2.2.1) ?_ | refine jm_getE (Y := YX5_fittingStarts) (pc := 12) dX5_fittingStarts_12 fw_RX5_127 (by first | exact jm_obR ha | exact jm_obR hb | rfl) (by decide) (by first | exact jm_rf0 | rfl) (by exact hR.1.2.2.2.1) ?_ | refine jm_getE (Y := YX5_fittingStarts) (pc := 12) dX5_fittingStarts_12 fw_RX5_127 (by first | exact jm_obR ha | exact jm_obR hb | rfl) (by decide) (by first | exact jm_rf0 | rfl) (by exact hR.1.2.2.2.2) ?_ | refine jm_getE (Y := YX5_fittingStarts) (pc := 12) dX5_fittingStarts_12 fw_RX5_127 (by first | exact jm_obR ha | exact jm_obR hb | rfl) (by decide) (by first | exact jm_rf0 | rfl) (by exact hR.2.1 _ (by omega)) ?_ | refine jm_getE (Y := YX5_fittingStarts) (pc := 12) dX5_fittingStarts_12 fw_RX5_127 (by first | exact jm_obR ha | exact jm_obR hb | rfl) (by decide) (by first | exact jm_rf0 | rfl) (by exact (hR.2.2 _ (by omega)).1) ?_ | refine jm_getE (Y := YX5_fittingStarts) (pc := 12) dX5_fittingStarts_12 fw_RX5_127 (by first | exact jm_obR ha | exact jm_obR hb | rfl) (by decide) (by first | exact jm_rf0 | rfl) (by exact (hR.2.2 _ (by omega)).2) ?_ | refine jm_getI (Y := YX5_fittingStarts) (pc := 12) dX5_fittingStarts_12 fw_RX5_127.F (by first | exact jm_obR ha | exact jm_obR hb | rfl) (by decide) (by first | exact jm_rf0 | rfl) ?_ | fail
    refine jm_icmp_geN (Y := YX5_fittingStarts) (pc := 15) dX5_fittingStarts_15 rfl (by first | omega | exact jm_lt hb _) (by first | omega | exact jm_lt hb _) (fun h_15 => ?_) (fun h_15 => ?_)
    · refine jm_iload (Y := YX5_fittingStarts) (pc := 73) dX5_fittingStarts_73 rfl ?_
      refine jm_ret (Y := YX5_fittingStarts) (pc := 75) (st := []) dX5_fittingStarts_75 rfl rfl ?_
      have ev : 0 + (w 2) - v = 0 := by omega
      rw [ev] at hI
      exact jm_eqN ((Nat.or_zero b).symm.trans hI)
    · refine jm_ald_n (Y := YX5_fittingStarts) (pc := 18) (i := 0) dX5_fittingStarts_18 rfl rfl ?_
      refine jm_getR (Y := YX5_fittingStarts) (pc := 19) dX5_fittingStarts_19 fr_RX5_33 rfl (by decide) rfl ?_
      refine jm_ild_n (Y := YX5_fittingStarts) (pc := 22) (i := 1) dX5_fittingStarts_22 rfl rfl ?_
      refine jm_V1ie (Y := YX5_fittingStarts) (pc := 23) dX5_fittingStarts_23 lk_RX5_156 ⟨_, rfl⟩ (by first | exact jm_obR ha | exact jm_obR hb | rfl) rfl (by decide) (Nat.le_of_ble_eq_true rfl) ⟨by decide, by decide⟩ (m_sizeOf 0 (by decide) w _ hR hg _ (by omega)) ?_
      refine jm_iload (Y := YX5_fittingStarts) (pc := 26) dX5_fittingStarts_26 rfl ?_
      refine jm_S2ie (Y := YX5_fittingStarts) (pc := 28) dX5_fittingStarts_28 lk_RX5_163 ⟨_, rfl⟩ rfl rfl (by decide) (Nat.le_of_ble_eq_true rfl) ⟨by decide, by decide⟩ (m_packed _ _ _ (by omega) (by omega)) ?_
      refine jm_ist (Y := YX5_fittingStarts) (pc := 31) (ls' := [_, _, _, _, _, _, _, _]) dX5_fittingStarts_31 (Nat.le_of_ble_eq_true rfl) rfl rfl ?_
      refine jm_ald_n (Y := YX5_fittingStarts) (pc := 33) (i := 0) dX5_fittingStarts_33 rfl rfl ?_
      refine jm_getR (Y := YX5_fittingStarts) (pc := 34) dX5_fittingStarts_34 fr_RX5_33 rfl (by decide) rfl ?_
      refine jm_ald_n (Y := YX5_fittingStarts) (pc := 37) (i := 0) dX5_fittingStarts_37 rfl rfl ?_
      refine jm_getR (Y := YX5_fittingStarts) (pc := 38) dX5_fittingStarts_38 fr_RX5_33 rfl (by decide) rfl ?_
      refine jm_getR (Y := YX5_fittingStarts) (pc := 41) dX5_fittingStarts_41 fr_RX5_255 (by first | exact jm_obR ha | exact jm_obR hb | rfl) (by decide) (by first | exact jm_rf6 | rfl) ?_
      refine jm_ild_n (Y := YX5_fittingStarts) (pc := 44) (i := 1) dX5_fittingStarts_44 rfl rfl ?_
      refine jm_ialN (Y := YX5_fittingStarts) (pc := 45) dX5_fittingStarts_45 (by first | assumption | exact jm_arR1 ha | exact jm_arR2 ha | exact jm_arR3 ha | exact jm_arR1 hb | exact jm_arR2 hb | exact jm_arR3 hb | rfl) (by first | omega | exact jm_lt hb _) (by first | assumption | exact hR.1.1 | exact hR.1.2.1 | exact hR.1.2.2.1 | exact hR.1.2.2.2.1 | exact hR.1.2.2.2.2 | exact hR.2.1 _ (by omega) | exact (hR.2.2 _ (by omega)).1 | exact (hR.2.2 _ (by omega)).2 | rfl) ?_
      refine jm_iload (Y := YX5_fittingStarts) (pc := 46) dX5_fittingStarts_46 rfl ?_
      refine jm_ald_n (Y := YX5_fittingStarts) (pc := 48) (i := 2) dX5_fittingStarts_48 rfl rfl ?_
      refine jm_ild_n (Y := YX5_fittingStarts) (pc := 49) (i := 3) dX5_fittingStarts_49 rfl rfl ?_
      refine jm_iload (Y := YX5_fittingStarts) (pc := 50) dX5_fittingStarts_50 rfl ?_
      refine jm_V5ie (Y := YX5_fittingStarts) (pc := 52) dX5_fittingStarts_52 lk_RX5_303 ⟨_, rfl⟩ (by first | exact jm_obR ha | exact jm_obR hb | rfl) rfl rfl rfl rfl rfl (by decide) (Nat.le_of_ble_eq_true rfl) ⟨by decide, by decide⟩ (m_told 0 (by decide) w _ hR hg (w (17 + 4 * k)) ((w (17 + 4 * k + 1), v)) (by omega) (by omega) (by first | omega | (show _ ≤ 60; omega)) (by first | omega | (show _ < w 2; omega)) T i N hT hf hm) ?_
      refine jm_if_eqB (Y := YX5_fittingStarts) (pc := 55) dX5_fittingStarts_55 rfl (fun h_55 => ?_) (fun h_55 => ?_)
      · refine jm_incN (Y := YX5_fittingStarts) (pc := 67) (m := 1) (ls' := [_, _, _, _, _, _, _, _]) dX5_fittingStarts_67 rfl rfl rfl rfl ?_
        refine jm_goto (Y := YX5_fittingStarts) (pc := 70) dX5_fittingStarts_70 rfl ?_
        have ev : 0 + (w 2) - v = 0 + (w 2) - (v + 1) + 1 := by omega
        rw [ev] at hI
        first
          | exact ih _ (v + 1) _ (by omega) (by omega) (f_st h_55 hI) (by omega)
          | exact ih _ (v + 1) _ (by omega) (by omega) (f_sf h_55 hI) (by omega)
          | fail
      · refine jm_iload (Y := YX5_fittingStarts) (pc := 58) dX5_fittingStarts_58 rfl ?_
        refine jm_icN (Y := YX5_fittingStarts) (pc := 60) 1 dX5_fittingStarts_60 rfl ?_
        refine jm_iload (Y := YX5_fittingStarts) (pc := 61) dX5_fittingStarts_61 rfl ?_
        refine jm_shlN (Y := YX5_fittingStarts) (pc := 63) dX5_fittingStarts_63 (by omega) (by rw [Nat.one_mul]; exact Nat.lt_of_le_of_lt (Nat.pow_le_pow_right (by decide) (show v ≤ 12 by omega)) (by decide)) ?_
        refine jm_orN (Y := YX5_fittingStarts) (pc := 64) dX5_fittingStarts_64 ?_
        refine jm_ist (Y := YX5_fittingStarts) (pc := 65) (ls' := [_, _, _, _, _, _, _, _]) dX5_fittingStarts_65 (Nat.le_of_ble_eq_true rfl) rfl rfl ?_
        refine jm_incN (Y := YX5_fittingStarts) (pc := 67) (m := 1) (ls' := [_, _, _, _, _, _, _, _]) dX5_fittingStarts_67 rfl rfl rfl rfl ?_
        refine jm_goto (Y := YX5_fittingStarts) (pc := 70) dX5_fittingStarts_70 rfl ?_
        have ev : 0 + (w 2) - v = 0 + (w 2) - (v + 1) + 1 := by omega
        rw [ev] at hI
        first
          | exact ih _ (v + 1) _ (by omega) (by omega) (f_st h_55 hI) (by omega)
          | exact ih _ (v + 1) _ (by omega) (by omega) (f_sf h_55 hI) (by omega)
          | fail
theorem w_starts (w : Nat → Nat) (M : jm_M) (hR : RV M 0 w) (hg : rG w) (hm : w 4 ≤ 9999) (k T i N : Nat) (hk : k < w 3) (hT : jm_ar T = some (0, 40)) (hT2 : T < 32) (hf : i + N ≤ 40) (hN : N ≤ 12) : jm_J none YX5_fittingStarts 0 [some (.ref 0), some (.int (nI k)), some (.ref T), some (.int (nI i)), some (.int (nI N)), none, none, none] [] M (jm_is (some (.int (nI (f_bits (fun x => m_sn w (w (17 + 4 * k)) (w (17 + 4 * k + 1), x) (M T) i N) (w 2) 0)))) M) := by
  refine jm_icN (Y := YX5_fittingStarts) (pc := 0) 0 dX5_fittingStarts_0 rfl ?_
  refine jm_ist (Y := YX5_fittingStarts) (pc := 1) (ls' := [_, _, _, _, _, _, _, _]) dX5_fittingStarts_1 (Nat.le_of_ble_eq_true rfl) rfl rfl ?_
  refine jm_icN (Y := YX5_fittingStarts) (pc := 3) 0 dX5_fittingStarts_3 rfl ?_
  refine jm_ist (Y := YX5_fittingStarts) (pc := 4) (ls' := [_, _, _, _, _, _, _, _]) dX5_fittingStarts_4 (Nat.le_of_ble_eq_true rfl) rfl rfl ?_
  exact w_starts0 w M hR hg hm k T i N hk hT hT2 hf hN ((w 2) + 1) 0 0 none (by omega) (by omega) (by rw [show 0 + (w 2) - 0 = (w 2) by omega]; exact Nat.zero_or _) (by omega)
theorem w_fitsSize (w : Nat → Nat) (M : jm_M) (hR : RV M 0 w) (hg : rG w) (hm : w 4 ≤ 9999) (k T i N : Nat) (hk : k < w 3) (hT : jm_ar T = some (0, 40)) (hT2 : T < 32) (hf : i + N ≤ 40) (hN : N ≤ 12) (x : Nat) (hx : x ≤ 60) : jm_J none YX5_fitsSize 0 [some (.ref 0), some (.int (nI k)), some (.int (nI x)), some (.ref T), some (.int (nI i)), some (.int (nI N)), none] [] M (jm_is (some (.int (jm_b ((fun x => m_sn w (w (17 + 4 * k)) (x, w (17 + 4 * k + 2)) (M T) i N) x = true)))) M) := by
  have hb := hg.hb
  have g0 := hg.1.1
  have g1 := hg.1.2.1
  have g2 := hg.1.2.2.1
  have g3 := hg.1.2.2.2.1
  have g4 := hg.1.2.2.2.2
  have q0 := hg.2.2.1 k (by omega)
  have q1 := hg.2.2.2.2 k (by omega)
  have q2 : (m_st w k).1 ≤ 60 ∧ (m_st w k).2 < w 2 := ⟨q0.2.1, q1.2.1⟩
  refine jm_ild_n (Y := YX5_fitsSize) (pc := 0) (i := 2) dX5_fitsSize_0 rfl rfl ?_
  refine jm_ald_n (Y := YX5_fitsSize) (pc := 1) (i := 0) dX5_fitsSize_1 rfl rfl ?_
  refine jm_getR (Y := YX5_fitsSize) (pc := 2) dX5_fitsSize_2 fr_RX5_33 rfl (by decide) rfl ?_
  refine jm_getR (Y := YX5_fitsSize) (pc := 5) dX5_fitsSize_5 fr_RX5_159 (by first | exact jm_obR ha | exact jm_obR hb | rfl) (by decide) (by first | exact jm_rf7 | rfl) ?_
  refine jm_ild_n (Y := YX5_fitsSize) (pc := 8) (i := 1) dX5_fitsSize_8 rfl rfl ?_
  refine jm_ialN (Y := YX5_fitsSize) (pc := 9) dX5_fitsSize_9 (by first | assumption | exact jm_arR1 ha | exact jm_arR2 ha | exact jm_arR3 ha | exact jm_arR1 hb | exact jm_arR2 hb | exact jm_arR3 hb | rfl) (by first | omega | exact jm_lt hb _) (by first | assumption | exact hR.1.1 | exact hR.1.2.1 | exact hR.1.2.2.1 | exact hR.1.2.2.2.1 | exact hR.1.2.2.2.2 | exact hR.2.1 _ (by omega) | exact (hR.2.2 _ (by omega)).1 | exact (hR.2.2 _ (by omega)).2 | rfl) ?_
  refine jm_S1ie (Y := YX5_fitsSize) (pc := 10) dX5_fitsSize_10 lk_RX5_182 ⟨_, rfl⟩ rfl (by decide) (Nat.le_of_ble_eq_true rfl) ⟨by decide, by decide⟩ (m_cellIn _ _ _ (by omega) (by omega)) ?_
  refine jm_S2ie (Y := YX5_fitsSize) (pc := 13) dX5_fitsSize_13 lk_RX5_163 ⟨_, rfl⟩ rfl rfl (by decide) (Nat.le_of_ble_eq_true rfl) ⟨by decide, by decide⟩ (m_packed _ _ _ (by omega) (by omega)) ?_
  refine jm_ist (Y := YX5_fitsSize) (pc := 16) (ls' := [_, _, _, _, _, _, _]) dX5_fitsSize_16 (Nat.le_of_ble_eq_true rfl) rfl rfl ?_
  refine jm_ald_n (Y := YX5_fitsSize) (pc := 18) (i := 0) dX5_fitsSize_18 rfl rfl ?_
  refine jm_getR (Y := YX5_fitsSize) (pc := 19) dX5_fitsSize_19 fr_RX5_33 rfl (by decide) rfl ?_
  refine jm_ald_n (Y := YX5_fitsSize) (pc := 22) (i := 0) dX5_fitsSize_22 rfl rfl ?_
  refine jm_getR (Y := YX5_fitsSize) (pc := 23) dX5_fitsSize_23 fr_RX5_33 rfl (by decide) rfl ?_
  refine jm_getR (Y := YX5_fitsSize) (pc := 26) dX5_fitsSize_26 fr_RX5_255 (by first | exact jm_obR ha | exact jm_obR hb | rfl) (by decide) (by first | exact jm_rf6 | rfl) ?_
  refine jm_ild_n (Y := YX5_fitsSize) (pc := 29) (i := 1) dX5_fitsSize_29 rfl rfl ?_
  refine jm_ialN (Y := YX5_fitsSize) (pc := 30) dX5_fitsSize_30 (by first | assumption | exact jm_arR1 ha | exact jm_arR2 ha | exact jm_arR3 ha | exact jm_arR1 hb | exact jm_arR2 hb | exact jm_arR3 hb | rfl) (by first | omega | exact jm_lt hb _) (by first | assumption | exact hR.1.1 | exact hR.1.2.1 | exact hR.1.2.2.1 | exact hR.1.2.2.2.1 | exact hR.1.2.2.2.2 | exact hR.2.1 _ (by omega) | exact (hR.2.2 _ (by omega)).1 | exact (hR.2.2 _ (by omega)).2 | rfl) ?_
  refine jm_iload (Y := YX5_fitsSize) (pc := 31) dX5_fitsSize_31 rfl ?_
  refine jm_ald_n (Y := YX5_fitsSize) (pc := 33) (i := 3) dX5_fitsSize_33 rfl rfl ?_
  refine jm_iload (Y := YX5_fitsSize) (pc := 34) dX5_fitsSize_34 rfl ?_
  refine jm_iload (Y := YX5_fitsSize) (pc := 36) dX5_fitsSize_36 rfl ?_
  refine jm_V5ie (Y := YX5_fitsSize) (pc := 38) dX5_fitsSize_38 lk_RX5_303 ⟨_, rfl⟩ (by first | exact jm_obR ha | exact jm_obR hb | rfl) rfl rfl rfl rfl rfl (by decide) (Nat.le_of_ble_eq_true rfl) ⟨by decide, by decide⟩ (m_told 0 (by decide) w _ hR hg (w (17 + 4 * k)) ((x, w (17 + 4 * k + 2))) (by omega) (by omega) (by first | omega | (show _ ≤ 60; omega)) (by first | omega | (show _ < w 2; omega)) T i N hT hf hm) ?_
  refine jm_ret (Y := YX5_fitsSize) (pc := 41) (st := []) dX5_fitsSize_41 rfl (jm_nb _) ?_
  exact ⟨rfl, rfl⟩
theorem w_sizes0 (w : Nat → Nat) (M : jm_M) (hR : RV M 0 w) (hg : rG w) (hm : w 4 ≤ 9999) (k T i N : Nat) (hk : k < w 3) (hT : jm_ar T = some (0, 40)) (hT2 : T < 32) (hf : i + N ≤ 40) (hN : N ≤ 12) : ∀ (m : Nat) (b v : Nat), 1 ≤ v → v ≤ 61 → b + f_cnt (fun x => m_sn w (w (17 + 4 * k)) (x, w (17 + 4 * k + 2)) (M T) i N) (61 - v) v = f_cnt (fun x => m_sn w (w (17 + 4 * k)) (x, w (17 + 4 * k + 2)) (M T) i N) 60 1 → 61 - v < m → jm_J none YX5_fittingSizes 6 [some (.ref 0), some (.int (nI k)), some (.ref T), some (.int (nI i)), some (.int (nI N)), some (.int (nI b)), some (.int (nI v))] [] M (jm_is (some (.int (nI (f_cnt (fun x => m_sn w (w (17 + 4 * k)) (x, w (17 + 4 * k + 2)) (M T) i N) 60 1)))) M) := by
  intro m
  induction m with
  | zero => intros; omega
  | succ m ih =>
    intro b v hv1 hv2 hI hmm
    refine jm_iload (Y := YX5_fittingSizes) (pc := 6) dX5_fittingSizes_6 rfl ?_
    refine jm_bpN (Y := YX5_fittingSizes) (pc := 8) 60 dX5_fittingSizes_8 rfl ?_
    refine jm_icmp_gtN (Y := YX5_fittingSizes) (pc := 10) dX5_fittingSizes_10 rfl (by omega) (by omega) (fun h_10 => ?_) (fun h_10 => ?_)
    · refine jm_iload (Y := YX5_fittingSizes) (pc := 36) dX5_fittingSizes_36 rfl ?_
      refine jm_ret (Y := YX5_fittingSizes) (pc := 38) (st := []) dX5_fittingSizes_38 rfl rfl ?_
      have ev : 61 - v = 0 := by omega
      rw [ev] at hI
      exact jm_eqN hI
    · refine jm_ald_n (Y := YX5_fittingSizes) (pc := 13) (i := 0) dX5_fittingSizes_13 rfl rfl ?_
      refine jm_ild_n (Y := YX5_fittingSizes) (pc := 14) (i := 1) dX5_fittingSizes_14 rfl rfl ?_
      refine jm_iload (Y := YX5_fittingSizes) (pc := 15) dX5_fittingSizes_15 rfl ?_
      refine jm_ald_n (Y := YX5_fittingSizes) (pc := 17) (i := 2) dX5_fittingSizes_17 rfl rfl ?_
      refine jm_ild_n (Y := YX5_fittingSizes) (pc := 18) (i := 3) dX5_fittingSizes_18 rfl rfl ?_
      refine jm_iload (Y := YX5_fittingSizes) (pc := 19) dX5_fittingSizes_19 rfl ?_
      refine jm_V5ie (Y := YX5_fittingSizes) (pc := 21) dX5_fittingSizes_21 lk_RX5_307 ⟨_, rfl⟩ rfl rfl rfl rfl rfl rfl (by decide) (Nat.le_of_ble_eq_true rfl) ⟨by decide, by decide⟩ (w_fitsSize w M hR hg hm k T i N hk hT hT2 hf hN v (by omega)) ?_
      refine jm_if_eqB (Y := YX5_fittingSizes) (pc := 24) dX5_fittingSizes_24 rfl (fun h_24 => ?_) (fun h_24 => ?_)
      · refine jm_incN (Y := YX5_fittingSizes) (pc := 30) (m := 1) (ls' := [_, _, _, _, _, _, _]) dX5_fittingSizes_30 rfl rfl rfl rfl ?_
        refine jm_goto (Y := YX5_fittingSizes) (pc := 33) dX5_fittingSizes_33 rfl ?_
        have ev : 61 - v = 61 - (v + 1) + 1 := by omega
        rw [ev] at hI
        first
          | exact ih _ (v + 1) (by omega) (by omega) (f_ct h_24 hI) (by omega)
          | exact ih _ (v + 1) (by omega) (by omega) (f_cf h_24 hI) (by omega)
          | fail
      · refine jm_incN (Y := YX5_fittingSizes) (pc := 27) (m := 1) (ls' := [_, _, _, _, _, _, _]) dX5_fittingSizes_27 rfl rfl rfl rfl ?_
        refine jm_incN (Y := YX5_fittingSizes) (pc := 30) (m := 1) (ls' := [_, _, _, _, _, _, _]) dX5_fittingSizes_30 rfl rfl rfl rfl ?_
        refine jm_goto (Y := YX5_fittingSizes) (pc := 33) dX5_fittingSizes_33 rfl ?_
        have ev : 61 - v = 61 - (v + 1) + 1 := by omega
        rw [ev] at hI
        first
          | exact ih _ (v + 1) (by omega) (by omega) (f_ct h_24 hI) (by omega)
          | exact ih _ (v + 1) (by omega) (by omega) (f_cf h_24 hI) (by omega)
          | fail
theorem w_sizes (w : Nat → Nat) (M : jm_M) (hR : RV M 0 w) (hg : rG w) (hm : w 4 ≤ 9999) (k T i N : Nat) (hk : k < w 3) (hT : jm_ar T = some (0, 40)) (hT2 : T < 32) (hf : i + N ≤ 40) (hN : N ≤ 12) : jm_J none YX5_fittingSizes 0 [some (.ref 0), some (.int (nI k)), some (.ref T), some (.int (nI i)), some (.int (nI N)), none, none] [] M (jm_is (some (.int (nI (f_cnt (fun x => m_sn w (w (17 + 4 * k)) (x, w (17 + 4 * k + 2)) (M T) i N) 60 1)))) M) := by
  refine jm_icN (Y := YX5_fittingSizes) (pc := 0) 0 dX5_fittingSizes_0 rfl ?_
  refine jm_ist (Y := YX5_fittingSizes) (pc := 1) (ls' := [_, _, _, _, _, _, _]) dX5_fittingSizes_1 (Nat.le_of_ble_eq_true rfl) rfl rfl ?_
  refine jm_icN (Y := YX5_fittingSizes) (pc := 3) 1 dX5_fittingSizes_3 rfl ?_
  refine jm_ist (Y := YX5_fittingSizes) (pc := 4) (ls' := [_, _, _, _, _, _, _]) dX5_fittingSizes_4 (Nat.le_of_ble_eq_true rfl) rfl rfl ?_
  exact w_sizes0 w M hR hg hm k T i N hk hT hT2 hf hN 61 0 1 (by omega) (by omega) (Nat.zero_add _) (by omega)
theorem w_least0 (w : Nat → Nat) (M : jm_M) (hR : RV M 0 w) (hg : rG w) (hm : w 4 ≤ 9999) (k T i N : Nat) (hk : k < w 3) (hT : jm_ar T = some (0, 40)) (hT2 : T < 32) (hf : i + N ≤ 40) (hN : N ≤ 12) : ∀ (m : Nat) (v : Nat), 1 ≤ v → v ≤ 61 → 61 - v < m → jm_J none YX5_leastFittingSize 3 [some (.ref 0), some (.int (nI k)), some (.ref T), some (.int (nI i)), some (.int (nI N)), some (.int (nI v))] [] M (jm_is (some (.int (jm_o (f_lst (fun x => m_sn w (w (17 + 4 * k)) (x, w (17 + 4 * k + 2)) (M T) i N) (61 - v) v)))) M) := by
  intro m
  induction m with
  | zero => intros; omega
  | succ m ih =>
    intro v hv1 hv2 hmm
    refine jm_iload (Y := YX5_leastFittingSize) (pc := 3) dX5_leastFittingSize_3 rfl ?_
    refine jm_bpN (Y := YX5_leastFittingSize) (pc := 5) 60 dX5_leastFittingSize_5 rfl ?_
    refine jm_icmp_gtN (Y := YX5_leastFittingSize) (pc := 7) dX5_leastFittingSize_7 rfl (by omega) (by omega) (fun h_7 => ?_) (fun h_7 => ?_)
    · refine jm_ldc (Y := YX5_leastFittingSize) (pc := 33) (v := -1000000) dX5_leastFittingSize_33 kc_RX5_210 ?_
      refine jm_ret (Y := YX5_leastFittingSize) (pc := 35) (st := []) dX5_leastFittingSize_35 rfl rfl ?_
      first | (rw [ev, d, if_pos h_21]; exact ⟨rfl, rfl⟩) | (have ev : 61 - v = 0 := (by omega); rw [ev]; exact ⟨rfl, rfl⟩) | fail
    · have ev : 61 - v = 61 - (v + 1) + 1 := (by omega)
      have d : f_lst (fun x => m_sn w (w (17 + 4 * k)) (x, w (17 + 4 * k + 2)) (M T) i N) (61 - (v + 1) + 1) v = if (fun x => m_sn w (w (17 + 4 * k)) (x, w (17 + 4 * k + 2)) (M T) i N) v = true then some v else f_lst (fun x => m_sn w (w (17 + 4 * k)) (x, w (17 + 4 * k + 2)) (M T) i N) (61 - (v + 1)) (v + 1) := rfl
      refine jm_ald_n (Y := YX5_leastFittingSize) (pc := 10) (i := 0) dX5_leastFittingSize_10 rfl rfl ?_
      refine jm_ild_n (Y := YX5_leastFittingSize) (pc := 11) (i := 1) dX5_leastFittingSize_11 rfl rfl ?_
      refine jm_iload (Y := YX5_leastFittingSize) (pc := 12) dX5_leastFittingSize_12 rfl ?_
      refine jm_ald_n (Y := YX5_leastFittingSize) (pc := 14) (i := 2) dX5_leastFittingSize_14 rfl rfl ?_
      refine jm_ild_n (Y := YX5_leastFittingSize) (pc := 15) (i := 3) dX5_leastFittingSize_15 rfl rfl ?_
      refine jm_iload (Y := YX5_leastFittingSize) (pc := 16) dX5_leastFittingSize_16 rfl ?_
      refine jm_V5ie (Y := YX5_leastFittingSize) (pc := 18) dX5_leastFittingSize_18 lk_RX5_307 ⟨_, rfl⟩ rfl rfl rfl rfl rfl rfl (by decide) (Nat.le_of_ble_eq_true rfl) ⟨by decide, by decide⟩ (w_fitsSize w M hR hg hm k T i N hk hT hT2 hf hN v (by omega)) ?_
      refine jm_if_eqB (Y := YX5_leastFittingSize) (pc := 21) dX5_leastFittingSize_21 rfl (fun h_21 => ?_) (fun h_21 => ?_)
      · refine jm_incN (Y := YX5_leastFittingSize) (pc := 27) (m := 1) (ls' := [_, _, _, _, _, _]) dX5_leastFittingSize_27 rfl rfl rfl rfl ?_
        refine jm_goto (Y := YX5_leastFittingSize) (pc := 30) dX5_leastFittingSize_30 rfl ?_
        rw [ev, d, if_neg h_21]
        exact ih (v + 1) (by omega) (by omega) (by omega)
      · refine jm_iload (Y := YX5_leastFittingSize) (pc := 24) dX5_leastFittingSize_24 rfl ?_
        refine jm_ret (Y := YX5_leastFittingSize) (pc := 26) (st := []) dX5_leastFittingSize_26 rfl rfl ?_
        first | (rw [ev, d, if_pos h_21]; exact ⟨rfl, rfl⟩) | (have ev : 61 - v = 0 := (by omega); rw [ev]; exact ⟨rfl, rfl⟩) | fail
theorem w_least (w : Nat → Nat) (M : jm_M) (hR : RV M 0 w) (hg : rG w) (hm : w 4 ≤ 9999) (k T i N : Nat) (hk : k < w 3) (hT : jm_ar T = some (0, 40)) (hT2 : T < 32) (hf : i + N ≤ 40) (hN : N ≤ 12) : jm_J none YX5_leastFittingSize 0 [some (.ref 0), some (.int (nI k)), some (.ref T), some (.int (nI i)), some (.int (nI N)), none] [] M (jm_is (some (.int (jm_o (f_lst (fun x => m_sn w (w (17 + 4 * k)) (x, w (17 + 4 * k + 2)) (M T) i N) 60 1)))) M) := by
  refine jm_icN (Y := YX5_leastFittingSize) (pc := 0) 1 dX5_leastFittingSize_0 rfl ?_
  refine jm_ist (Y := YX5_leastFittingSize) (pc := 1) (ls' := [_, _, _, _, _, _]) dX5_leastFittingSize_1 (Nat.le_of_ble_eq_true rfl) rfl rfl ?_
  exact w_least0 w M hR hg hm k T i N hk hT hT2 hf hN 61 1 (by omega) (by omega) (by omega)
theorem w_rains0 (w : Nat → Nat) (M0 : jm_M) (hR0 : RV M0 0 w) (hg : rG w) (hm : w 4 ≤ 9999) (k T i N : Nat) (hk : k < w 3) (hT : jm_ar T = some (0, 40)) (hT2 : T < 32) (hf : i + N ≤ 40) (hN : N ≤ 12) : ∀ (m : Nat) (b v x : Nat) (M : jm_M), v ≤ 16 → RV M 1 (wU w 0 x) → RF 1 M0 M → b ||| f_bits (fun x => m_sn (wU w 0 x) (wU w 0 x (17 + 4 * k)) (m_st (wU w 0 x) k) (M0 T) i N) (16 - v) v = f_bits (fun x => m_sn (wU w 0 x) (wU w 0 x (17 + 4 * k)) (m_st (wU w 0 x) k) (M0 T) i N) 16 0 → 16 - v < m → jm_J none YX5_fittingRains 17 [some (.ref 0), some (.int (nI k)), some (.ref T), some (.int (nI i)), some (.int (nI N)), some (.int (nI b)), some (.int (nI v))] [] M (jm_t M0 (nI (f_bits (fun x => m_sn (wU w 0 x) (wU w 0 x (17 + 4 * k)) (m_st (wU w 0 x) k) (M0 T) i N) 16 0))) := by
  intro m
  induction m with
  | zero => intros; omega
  | succ m ih =>
    intro b v x M hv hT1 hF hI hmm
    have hb := hg.hb
    have g0 := hg.1.1
    have g1 := hg.1.2.1
    have g2 := hg.1.2.2.1
    have g3 := hg.1.2.2.2.1
    have g4 := hg.1.2.2.2.2
    have q0 := hg.2.2.1 k (by omega)
    have q1 := hg.2.2.2.2 k (by omega)
    have q2 : (m_st w k).1 ≤ 60 ∧ (m_st w k).2 < w 2 := ⟨q0.2.1, q1.2.1⟩
    refine jm_iload (Y := YX5_fittingRains) (pc := 17) dX5_fittingRains_17 rfl ?_
    refine jm_bpN (Y := YX5_fittingRains) (pc := 19) 15 dX5_fittingRains_19 rfl ?_
    refine jm_icmp_gtN (Y := YX5_fittingRains) (pc := 21) dX5_fittingRains_21 rfl (by first | omega | exact jm_lt hb _) (by first | omega | exact jm_lt hb _) (fun h_21 => ?_) (fun h_21 => ?_)
    · refine jm_iload (Y := YX5_fittingRains) (pc := 80) dX5_fittingRains_80 rfl ?_
      refine jm_ret (Y := YX5_fittingRains) (pc := 82) (st := []) dX5_fittingRains_82 rfl rfl ?_
      have ev : 16 - v = 0 := by omega
      rw [ev] at hI
      exact jm_ti (congrArg nI ((Nat.or_zero b).symm.trans hI)) hF
    · refine jm_ald_n (Y := YX5_fittingRains) (pc := 24) (i := 0) dX5_fittingRains_24 rfl rfl ?_
      refine jm_getR (Y := YX5_fittingRains) (pc := 25) dX5_fittingRains_25 fr_RX5_37 rfl (by decide) rfl ?_
      refine jm_iload (Y := YX5_fittingRains) (pc := 28) dX5_fittingRains_28 rfl ?_
      refine jm_put (Y := YX5_fittingRains) (pc := 30) dX5_fittingRains_30 fw_RX5_170 rfl (by decide) rfl ?_
      have hT3 : RV (jm_sf M 36 (upd (M 36) 3 (nI v))) 1 (wU w 0 v) := by
        have h9 := RV_0 hT1 v
        rw [wU_wU] at h9
        exact h9
      have hG := hg.up0 (v := v) (by omega)
      have u3 : wU w 0 v 3 = w 3 := wU_n _ _ (by omega)
      have u4 : wU w 0 v 4 = w 4 := wU_n _ _ (by omega)
      have k0 := hG.2.2.1 k (by omega)
      have k1 := hG.2.2.2.2 k (by omega)
      have k2 : (m_st (wU w 0 v) k).1 ≤ 60 ∧ (m_st (wU w 0 v) k).2 < wU w 0 v 2 := ⟨k0.2.1, k1.2.1⟩
      have eT : jm_sf M 36 (upd (M 36) 3 (nI v)) T = M0 T := (jm_sf_n _ _ (by omega)).trans (hF T (by omega))
      refine jm_ald_n (Y := YX5_fittingRains) (pc := 33) (i := 0) dX5_fittingRains_33 rfl rfl ?_
      refine jm_getR (Y := YX5_fittingRains) (pc := 34) dX5_fittingRains_34 fr_RX5_37 rfl (by decide) rfl ?_
      refine jm_ald_n (Y := YX5_fittingRains) (pc := 37) (i := 0) dX5_fittingRains_37 rfl rfl ?_
      refine jm_getR (Y := YX5_fittingRains) (pc := 38) dX5_fittingRains_38 fr_RX5_37 rfl (by decide) rfl ?_
      refine jm_getR (Y := YX5_fittingRains) (pc := 41) dX5_fittingRains_41 fr_RX5_255 (by first | exact jm_obR ha | exact jm_obR hb | rfl) (by decide) (by first | exact jm_rf6 | rfl) ?_
      refine jm_ild_n (Y := YX5_fittingRains) (pc := 44) (i := 1) dX5_fittingRains_44 rfl rfl ?_
      refine jm_ialN (Y := YX5_fittingRains) (pc := 45) dX5_fittingRains_45 (by first | assumption | exact jm_arR1 ha | exact jm_arR2 ha | exact jm_arR3 ha | exact jm_arR1 hb | exact jm_arR2 hb | exact jm_arR3 hb | rfl) (by first | omega | exact jm_lt hb _) (((hT3.2.2 k (by omega)).1)) ?_
      refine jm_ald_n (Y := YX5_fittingRains) (pc := 46) (i := 0) dX5_fittingRains_46 rfl rfl ?_
      refine jm_getR (Y := YX5_fittingRains) (pc := 47) dX5_fittingRains_47 fr_RX5_37 rfl (by decide) rfl ?_
      refine jm_getR (Y := YX5_fittingRains) (pc := 50) dX5_fittingRains_50 fr_RX5_159 (by first | exact jm_obR ha | exact jm_obR hb | rfl) (by decide) (by first | exact jm_rf7 | rfl) ?_
      refine jm_ild_n (Y := YX5_fittingRains) (pc := 53) (i := 1) dX5_fittingRains_53 rfl rfl ?_
      refine jm_ialN (Y := YX5_fittingRains) (pc := 54) dX5_fittingRains_54 (by first | assumption | exact jm_arR1 ha | exact jm_arR2 ha | exact jm_arR3 ha | exact jm_arR1 hb | exact jm_arR2 hb | exact jm_arR3 hb | rfl) (by first | omega | exact jm_lt hb _) (((hT3.2.2 k (by omega)).2)) ?_
      refine jm_ald_n (Y := YX5_fittingRains) (pc := 55) (i := 2) dX5_fittingRains_55 rfl rfl ?_
      refine jm_ild_n (Y := YX5_fittingRains) (pc := 56) (i := 3) dX5_fittingRains_56 rfl rfl ?_
      refine jm_iload (Y := YX5_fittingRains) (pc := 57) dX5_fittingRains_57 rfl ?_
      refine jm_V5ie (Y := YX5_fittingRains) (pc := 59) dX5_fittingRains_59 lk_RX5_303 ⟨_, rfl⟩ (by first | exact jm_obR ha | exact jm_obR hb | rfl) rfl rfl rfl rfl rfl (by decide) (Nat.le_of_ble_eq_true rfl) ⟨by decide, by decide⟩ ((by have h9 := m_told 1 (by decide) (wU w 0 v) _ hT3 hG (wU w 0 v (17 + 4 * k)) (m_st (wU w 0 v) k) (by omega) (by omega) (by omega) (by omega) T i N hT hf (by omega); rw [eT] at h9; exact h9)) ?_
      refine jm_if_eqB (Y := YX5_fittingRains) (pc := 62) dX5_fittingRains_62 rfl (fun h_62 => ?_) (fun h_62 => ?_)
      · refine jm_incN (Y := YX5_fittingRains) (pc := 74) (m := 1) (ls' := [_, _, _, _, _, _, _]) dX5_fittingRains_74 rfl rfl rfl rfl ?_
        refine jm_goto (Y := YX5_fittingRains) (pc := 77) dX5_fittingRains_77 rfl ?_
        have ev : 16 - v = 16 - (v + 1) + 1 := by omega
        rw [ev] at hI
        have hF2 := RF_sf hF (upd (M 36) 3 (nI v)) (i := 36) (by omega)
        first
          | exact ih _ (v + 1) v _ (by omega) hT3 hF2 (f_st h_62 hI) (by omega)
          | exact ih _ (v + 1) v _ (by omega) hT3 hF2 (f_sf h_62 hI) (by omega)
          | fail
      · refine jm_iload (Y := YX5_fittingRains) (pc := 65) dX5_fittingRains_65 rfl ?_
        refine jm_icN (Y := YX5_fittingRains) (pc := 67) 1 dX5_fittingRains_67 rfl ?_
        refine jm_iload (Y := YX5_fittingRains) (pc := 68) dX5_fittingRains_68 rfl ?_
        refine jm_shlN (Y := YX5_fittingRains) (pc := 70) dX5_fittingRains_70 (by omega) (by rw [Nat.one_mul]; exact Nat.lt_of_le_of_lt (Nat.pow_le_pow_right (by decide) (show v ≤ 16 by omega)) (by decide)) ?_
        refine jm_orN (Y := YX5_fittingRains) (pc := 71) dX5_fittingRains_71 ?_
        refine jm_ist (Y := YX5_fittingRains) (pc := 72) (ls' := [_, _, _, _, _, _, _]) dX5_fittingRains_72 (Nat.le_of_ble_eq_true rfl) rfl rfl ?_
        refine jm_incN (Y := YX5_fittingRains) (pc := 74) (m := 1) (ls' := [_, _, _, _, _, _, _]) dX5_fittingRains_74 rfl rfl rfl rfl ?_
        refine jm_goto (Y := YX5_fittingRains) (pc := 77) dX5_fittingRains_77 rfl ?_
        have ev : 16 - v = 16 - (v + 1) + 1 := by omega
        rw [ev] at hI
        have hF2 := RF_sf hF (upd (M 36) 3 (nI v)) (i := 36) (by omega)
        first
          | exact ih _ (v + 1) v _ (by omega) hT3 hF2 (f_st h_62 hI) (by omega)
          | exact ih _ (v + 1) v _ (by omega) hT3 hF2 (f_sf h_62 hI) (by omega)
          | fail
theorem w_rains (w : Nat → Nat) (M : jm_M) (hR : RV M 0 w) (hg : rG w) (hm : w 4 ≤ 9999) (k T i N : Nat) (hk : k < w 3) (hT : jm_ar T = some (0, 40)) (hT2 : T < 32) (hf : i + N ≤ 40) (hN : N ≤ 12) : jm_J none YX5_fittingRains 0 [some (.ref 0), some (.int (nI k)), some (.ref T), some (.int (nI i)), some (.int (nI N)), none, none] [] M (jm_t M (nI (f_bits (fun x => m_sn (wU w 0 x) (wU w 0 x (17 + 4 * k)) (m_st (wU w 0 x) k) (M T) i N) 16 0))) := by
  have hb := hg.hb
  have g0 := hg.1.1
  have g1 := hg.1.2.1
  have g2 := hg.1.2.2.1
  have g3 := hg.1.2.2.2.1
  have g4 := hg.1.2.2.2.2
  refine jm_ald_n (Y := YX5_fittingRains) (pc := 0) (i := 0) dX5_fittingRains_0 rfl rfl ?_
  refine jm_getR (Y := YX5_fittingRains) (pc := 1) dX5_fittingRains_1 fr_RX5_37 rfl (by decide) rfl ?_
  refine jm_ald_n (Y := YX5_fittingRains) (pc := 4) (i := 0) dX5_fittingRains_4 rfl rfl ?_
  refine jm_getR (Y := YX5_fittingRains) (pc := 5) dX5_fittingRains_5 fr_RX5_33 rfl (by decide) rfl ?_
  refine jm_V1v (Y := YX5_fittingRains) (pc := 8) dX5_fittingRains_8 lk_RX5_120 rfl (by first | exact jm_obR ha | exact jm_obR hb | rfl) rfl (by decide) (Nat.le_of_ble_eq_true rfl) ⟨by decide, by decide⟩ (m_become 1 0 (by decide) (by decide) (by decide) w M hR (by omega) (by omega)) (fun M_8 q_8 => ?_)
  refine jm_icN (Y := YX5_fittingRains) (pc := 11) 0 dX5_fittingRains_11 rfl ?_
  refine jm_ist (Y := YX5_fittingRains) (pc := 12) (ls' := [_, _, _, _, _, _, _]) dX5_fittingRains_12 (Nat.le_of_ble_eq_true rfl) rfl rfl ?_
  refine jm_icN (Y := YX5_fittingRains) (pc := 14) 0 dX5_fittingRains_14 rfl ?_
  refine jm_ist (Y := YX5_fittingRains) (pc := 15) (ls' := [_, _, _, _, _, _, _]) dX5_fittingRains_15 (Nat.le_of_ble_eq_true rfl) rfl rfl ?_
  obtain ⟨-, hV, hF⟩ := q_8
  exact w_rains0 w M hR hg hm k T i N hk hT hT2 hf hN 17 0 0 (w 0) M_8 (by omega) (by rw [wU_bk]; exact hV) hF (Nat.zero_or _) (by omega)
theorem p_fr_e {w : Nat → Nat} (hg : rG w) (hm : w 4 ≤ 9999) {k b r i N : Nat} {it A : Nat → Int32} (hk : k < w 3) (hb : b < 5) (hn : w (17 + 4 * k + 3) = 0) (hi : i + N ≤ 40) (hN : N ≤ 12) (hA : ∀ j, j < 40 → A j = it (40 * r + j)) {v : Nat} (h1 : p_lo b ≤ v) (h2 : v ≤ p_hi w b) : p_sn (wU w (p_pl b k) v) k it (40 * r + i) N = m_sn (wU w (p_pl b k) v) (wU w (p_pl b k) v (17 + 4 * k)) (m_st (wU w (p_pl b k) v) k) A i N := by
  have hG := hg.put hk hb hn h1 h2
  have hp : p_pl b k ≠ 3 ∧ p_pl b k ≠ 4 := by unfold p_pl; (repeat' split) <;> omega
  rw [m_sn_p hG (by rw [wU_n _ _ hp.1.symm]; exact hk) it (40 * r + i) N (by rw [wU_n _ _ hp.2.symm]; omega)]
  exact m_sn_it N (fun j hj => by rw [hA (i + j) (by omega)]; congr 1; omega)
theorem p_fr_h {w : Nat → Nat} (hg : rG w) {k b v kd : Nat} {s : Nat × Nat} {A : Nat → Int32} {i N : Nat} (h2 : b ≠ 2) (hs : s.2 < w 2) : m_sn (wU w (p_pl b k) v) kd s A i N = m_sn w kd s A i N := by
  have hp : 17 ≤ p_pl b k := by unfold p_pl; (repeat' split) <;> omega
  exact m_sn_hd (w' := wU w (p_pl b k) v) (fun j hj => wU_n w v (show j ≠ p_pl b k by omega)) hs hg.1.2.2.1 kd A i N
theorem p_fr_0 {w : Nat → Nat} (hg : rG w) (hm : w 4 ≤ 9999) {k r i N : Nat} {it A : Nat → Int32} (hk : k < w 3) (hn : w (17 + 4 * k + 3) = 0) (hi : i + N ≤ 40) (hN : N ≤ 12) (hA : ∀ j, j < 40 → A j = it (40 * r + j)) : p_fr w k 0 (40 * r + i) N it = nI (f_bits (fun x => m_sn w x (m_st w k) A i N) 5 1) := by
  have q0 := hg.2.2.1 k (by have := hg.1.2.2.2.1; omega)
  have q1 := hg.2.2.2.2 k hk
  have g2 := hg.1.2.2.1
  have e : p_fr w k 0 (40 * r + i) N it = nI (p_fs (fun v => p_sn (wU w (p_pl 0 k) v) k it (40 * r + i) N) 0 5 5).1 := rfl
  rw [e, f_all (by decide) 5 (by decide)]
  refine congrArg nI (f_bits_c 5 1 (fun x a b => ?_))
  show p_sn (wU w (p_pl 0 k) x) k it (40 * r + i) N = _
  rw [p_fr_e hg hm hk (by decide) hn hi hN hA (show p_lo 0 ≤ x from a) (show x ≤ p_hi w 0 from (by show x ≤ 5; omega))]
  have k1 : wU w (p_pl 0 k) x (17 + 4 * k) = x := wU_s _ _ _
  have k2 : m_st (wU w (p_pl 0 k) x) k = m_st w k := by
    unfold m_st
    rw [show p_pl 0 k = 17 + 4 * k from rfl, wU_n _ _ (by omega), wU_n _ _ (by omega)]
  rw [k1, k2, p_fr_h hg (by decide) (show (m_st w k).2 < w 2 from q1.2.1)]
theorem p_fr_1 {w : Nat → Nat} (hg : rG w) (hm : w 4 ≤ 9999) {k r i N : Nat} {it A : Nat → Int32} (hk : k < w 3) (hn : w (17 + 4 * k + 3) = 0) (hi : i + N ≤ 40) (hN : N ≤ 12) (hA : ∀ j, j < 40 → A j = it (40 * r + j)) : p_fr w k 1 (40 * r + i) N it = nI (f_bits (fun x => m_sn w (w (17 + 4 * k)) (w (17 + 4 * k + 1), x) A i N) (w 2) 0) := by
  have q0 := hg.2.2.1 k (by have := hg.1.2.2.2.1; omega)
  have q1 := hg.2.2.2.2 k hk
  have g2 := hg.1.2.2.1
  have e : p_fr w k 1 (40 * r + i) N it = nI (p_fs (fun v => p_sn (wU w (p_pl 1 k) v) k it (40 * r + i) N) 1 (w 2 - 1) (w 2 - 1 + 1 - 0)).1 := rfl
  have e2 : w 2 - 1 + 1 - 0 = w 2 := by omega
  rw [e, e2, f_all (by decide) (w 2) (by omega), show w 2 - 1 + 1 - w 2 = 0 by omega]
  refine congrArg nI (f_bits_c (w 2) 0 (fun x a b => ?_))
  show p_sn (wU w (p_pl 1 k) x) k it (40 * r + i) N = _
  rw [p_fr_e hg hm hk (by decide) hn hi hN hA (show p_lo 1 ≤ x from a) (show x ≤ p_hi w 1 from (by show x ≤ w 2 - 1; omega))]
  have k1 : wU w (p_pl 1 k) x (17 + 4 * k) = w (17 + 4 * k) := wU_n _ _ (by show 17 + 4 * k ≠ 17 + 4 * k + 2; omega)
  have k2 : m_st (wU w (p_pl 1 k) x) k = (w (17 + 4 * k + 1), x) := by
    unfold m_st
    rw [show p_pl 1 k = 17 + 4 * k + 2 from rfl, wU_n _ _ (by omega), wU_s]
  rw [k1, k2, p_fr_h hg (by decide) (show x < w 2 by omega)]
theorem p_fr_2 {w : Nat → Nat} (hg : rG w) (hm : w 4 ≤ 9999) {k r i N : Nat} {it A : Nat → Int32} (hk : k < w 3) (hn : w (17 + 4 * k + 3) = 0) (hi : i + N ≤ 40) (hN : N ≤ 12) (hA : ∀ j, j < 40 → A j = it (40 * r + j)) : p_fr w k 2 (40 * r + i) N it = nI (f_bits (fun x => m_sn (wU w 0 x) (wU w 0 x (17 + 4 * k)) (m_st (wU w 0 x) k) A i N) 16 0) := by
  have q0 := hg.2.2.1 k (by have := hg.1.2.2.2.1; omega)
  have q1 := hg.2.2.2.2 k hk
  have g2 := hg.1.2.2.1
  have e : p_fr w k 2 (40 * r + i) N it = nI (p_fs (fun v => p_sn (wU w (p_pl 2 k) v) k it (40 * r + i) N) 2 15 16).1 := rfl
  rw [e, f_all (by decide) 16 (by decide)]
  refine congrArg nI (f_bits_c 16 0 (fun x a b => ?_))
  show p_sn (wU w (p_pl 2 k) x) k it (40 * r + i) N = _
  rw [p_fr_e hg hm hk (by decide) hn hi hN hA (show p_lo 2 ≤ x from a) (show x ≤ p_hi w 2 from (by show x ≤ 15; omega))]
  rfl
theorem p_fr_3 {w : Nat → Nat} (hg : rG w) (hm : w 4 ≤ 9999) {k r i N : Nat} {it A : Nat → Int32} (hk : k < w 3) (hn : w (17 + 4 * k + 3) = 0) (hi : i + N ≤ 40) (hN : N ≤ 12) (hA : ∀ j, j < 40 → A j = it (40 * r + j)) : p_fr w k 3 (40 * r + i) N it = nI (f_cnt (fun x => m_sn w (w (17 + 4 * k)) (x, w (17 + 4 * k + 2)) A i N) 60 1) := by
  have q0 := hg.2.2.1 k (by have := hg.1.2.2.2.1; omega)
  have q1 := hg.2.2.2.2 k hk
  have g2 := hg.1.2.2.1
  have e : p_fr w k 3 (40 * r + i) N it = nI (p_fs (fun v => p_sn (wU w (p_pl 3 k) v) k it (40 * r + i) N) 3 60 60).2.1 := rfl
  rw [e, (f_all2 60 (by decide)).1]
  refine congrArg nI (f_cnt_c 60 1 (fun x a b => ?_))
  show p_sn (wU w (p_pl 3 k) x) k it (40 * r + i) N = _
  rw [p_fr_e hg hm hk (by decide) hn hi hN hA (show p_lo 3 ≤ x from a) (show x ≤ p_hi w 3 from (by show x ≤ 60; omega))]
  have k1 : wU w (p_pl 3 k) x (17 + 4 * k) = w (17 + 4 * k) := wU_n _ _ (by show 17 + 4 * k ≠ 17 + 4 * k + 1; omega)
  have k2 : m_st (wU w (p_pl 3 k) x) k = (x, w (17 + 4 * k + 2)) := by
    unfold m_st
    rw [show p_pl 3 k = 17 + 4 * k + 1 from rfl, wU_s, wU_n _ _ (by omega)]
  rw [k1, k2, p_fr_h hg (by decide) (show w (17 + 4 * k + 2) < w 2 from q1.2.1)]
theorem p_fr_4 {w : Nat → Nat} (hg : rG w) (hm : w 4 ≤ 9999) {k r i N : Nat} {it A : Nat → Int32} (hk : k < w 3) (hn : w (17 + 4 * k + 3) = 0) (hi : i + N ≤ 40) (hN : N ≤ 12) (hA : ∀ j, j < 40 → A j = it (40 * r + j)) : p_fr w k 4 (40 * r + i) N it = jm_o (f_lst (fun x => m_sn w (w (17 + 4 * k)) (x, w (17 + 4 * k + 2)) A i N) 60 1) := by
  have q0 := hg.2.2.1 k (by have := hg.1.2.2.2.1; omega)
  have q1 := hg.2.2.2.2 k hk
  have g2 := hg.1.2.2.1
  have e : p_fr w k 4 (40 * r + i) N it = jm_o (p_fs (fun v => p_sn (wU w (p_pl 4 k) v) k it (40 * r + i) N) 4 60 60).2.2 := rfl
  rw [e, (f_all2 60 (by decide)).2]
  refine congrArg jm_o (f_lst_c 60 1 (fun x a b => ?_))
  show p_sn (wU w (p_pl 4 k) x) k it (40 * r + i) N = _
  rw [p_fr_e hg hm hk (by decide) hn hi hN hA (show p_lo 4 ≤ x from a) (show x ≤ p_hi w 4 from (by show x ≤ 60; omega))]
  have k1 : wU w (p_pl 4 k) x (17 + 4 * k) = w (17 + 4 * k) := wU_n _ _ (by show 17 + 4 * k ≠ 17 + 4 * k + 1; omega)
  have k2 : m_st (wU w (p_pl 4 k) x) k = (x, w (17 + 4 * k + 2)) := by
    unfold m_st
    rw [show p_pl 4 k = 17 + 4 * k + 1 from rfl, wU_s, wU_n _ _ (by omega)]
  rw [k1, k2, p_fr_h hg (by decide) (show w (17 + 4 * k + 2) < w 2 from q1.2.1)]
def RW (M : jm_M) (ln : Nat → Int32) (mn : Nat → Nat) (it : Nat → Int32) : Prop := ∀ r, r < 8 → mn r ≤ 40 ∧ ((M 6 r = -1 ∧ ln r = -1000000) ∨ (M 6 r = nI (mn r) ∧ ¬ ln r = -1000000 ∧ M 5 r = ln r ∧ ∀ j, j < 40 → M (24 + r) j = it (40 * r + j)))
theorem RW_m {M : jm_M} {ln : Nat → Int32} {mn : Nat → Nat} {it : Nat → Int32} (h : RW M ln mn it) {r : Nat} (hr : r < 8) : M 6 r = -1 ↔ ln r = -1000000 := by
  obtain ⟨h40, h⟩ := h r hr
  rcases h with ⟨a, b⟩ | ⟨a, b, -⟩
  · exact ⟨fun _ => b, fun _ => a⟩
  · refine ⟨fun z => ?_, fun z => absurd z b⟩
    rw [a] at z
    have e := jm_tI (show mn r < 2147483648 by omega)
    rw [z] at e
    have e2 : (-1 : Int32).toInt = -1 := by decide
    omega
theorem RW_n {M : jm_M} {ln : Nat → Int32} {mn : Nat → Nat} {it : Nat → Int32} (h : RW M ln mn it) {r : Nat} (hr : r < 8) (hm : ¬ M 6 r = -1) : M 6 r = nI (mn r) ∧ ¬ ln r = -1000000 ∧ M 5 r = ln r ∧ ∀ j, j < 40 → M (24 + r) j = it (40 * r + j) := by
  rcases (h r hr).2 with ⟨a, b⟩ | q
  · exact absurd a hm
  · exact q
def jm_t2 (M : jm_M) (q : Int32 × Option Int32) : Option Value → jm_M → Prop := fun o M1 => o = some (.int q.1) ∧ ∃ M2, RF 1 M M2 ∧ M1 = match q.2 with | none => M2 | some z => jm_sf M2 0 (upd (M2 0) 9 z)
theorem q_fits_bad {w : Nat → Nat} {ln : Nat → Int32} {mn : Nat → Nat} {it : Nat → Int32} {v r i n a : Int32} (h : ¬ (0 ≤ v.toInt ∧ v.toInt < w 3 ∧ 0 ≤ r.toInt ∧ r.toInt ≤ 7 ∧ 1 ≤ n.toInt ∧ n.toInt ≤ 12 ∧ 0 ≤ a.toInt ∧ a.toInt ≤ 4)) : q_fits w ln mn it v r i n a = (-1000001, none) := if_neg h
theorem q_fits_ok {w : Nat → Nat} {ln : Nat → Int32} {mn : Nat → Nat} {it : Nat → Int32} {v r i n a : Int32} (h : 0 ≤ v.toInt ∧ v.toInt < w 3 ∧ 0 ≤ r.toInt ∧ r.toInt ≤ 7 ∧ 1 ≤ n.toInt ∧ n.toInt ≤ 12 ∧ 0 ≤ a.toInt ∧ a.toInt ≤ 4) : q_fits w ln mn it v r i n a = (if w (17 + 4 * v.toInt.toNat + 3) = 1 then (-1000002, none)
     else if ln r.toInt.toNat = -1000000 then (-1000011, some 1)
     else if 0 ≤ i.toInt ∧ 0 ≤ n.toInt ∧ i.toInt + n.toInt ≤ mn r.toInt.toNat then (p_fr w v.toInt.toNat a.toInt.toNat (40 * r.toInt.toNat + i.toInt.toNat) n.toInt.toNat it, some 0)
     else (-1000012, some 2)) := if_pos h
theorem jm_t2i {M M2 : jm_M} {q : Int32 × Option Int32} {v z : Int32} (h : q = (v, some z)) (hF : RF 1 M M2) : jm_t2 M q (some (.int v)) (jm_sf M2 0 (upd (M2 0) 9 z)) := by
  subst h
  exact ⟨rfl, M2, hF, rfl⟩
theorem jm_t2n {M : jm_M} {q : Int32 × Option Int32} {v : Int32} (h : q = (v, none)) : jm_t2 M q (some (.int v)) M := by
  subst h
  exact ⟨rfl, M, RF_0 1 M, rfl⟩
theorem w_fits_0 (w : Nat → Nat) (M : jm_M) (hR : RV M 0 w) (hg : rG w) (hm : w 4 ≤ 9999) (k rr N : Nat) (h_k : k < w 3) (h_rr : rr < 8) (h1N : 1 ≤ N) (hN : N ≤ 12) (ii : Nat) (hf : ii + N ≤ 40) (hn0 : w (17 + 4 * k + 3) = 0) (it : Nat → Int32) (hit : ∀ j, j < 40 → M (24 + rr) j = it (40 * rr + j)) (a : Int32) : jm_J none YX5_fits 136 [some (.ref 0), some (.int (nI k)), some (.int (nI rr)), some (.int (nI ii)), some (.int (nI N)), some (.int a), some (.ref (24 + rr))] [] M ((fun o M1 => o = some (.int (p_fr w k 0 (40 * rr + ii) N it)) ∧ ∃ M2, RF 1 M M2 ∧ M1 = jm_sf M2 0 (upd (M2 0) 9 (nI 0)))) := by
  refine jm_ald_n (Y := YX5_fits) (pc := 136) (i := 0) dX5_fits_136 rfl rfl ?_
  refine jm_ald_n (Y := YX5_fits) (pc := 137) (i := 0) dX5_fits_137 rfl rfl ?_
  refine jm_ild_n (Y := YX5_fits) (pc := 138) (i := 1) dX5_fits_138 rfl rfl ?_
  refine jm_aload (Y := YX5_fits) (pc := 139) dX5_fits_139 rfl ?_
  refine jm_ild_n (Y := YX5_fits) (pc := 141) (i := 3) dX5_fits_141 rfl rfl ?_
  refine jm_iload (Y := YX5_fits) (pc := 142) dX5_fits_142 rfl ?_
  refine jm_V4ie (Y := YX5_fits) (pc := 144) dX5_fits_144 lk_RX5_220 ⟨_, rfl⟩ rfl rfl rfl rfl rfl (by decide) (Nat.le_of_ble_eq_true rfl) ⟨by decide, by decide⟩ (w_sorts w M hR hg hm k (24 + rr) ii N h_k (jm_arI h_rr) (by omega) hf hN) ?_
  refine jm_V1ie (Y := YX5_fits) (pc := 147) dX5_fits_147 lk_RX5_73 ⟨_, rfl⟩ rfl rfl (by decide) (Nat.le_of_ble_eq_true rfl) ⟨by decide, by decide⟩ (w_unfound _ _) ?_
  refine jm_ret (Y := YX5_fits) (pc := 150) (st := []) dX5_fits_150 rfl rfl ?_
  rw [p_fr_0 hg hm h_k hn0 hf hN hit]
  exact ⟨rfl, M, RF_0 1 M, rfl⟩
theorem w_fits_1 (w : Nat → Nat) (M : jm_M) (hR : RV M 0 w) (hg : rG w) (hm : w 4 ≤ 9999) (k rr N : Nat) (h_k : k < w 3) (h_rr : rr < 8) (h1N : 1 ≤ N) (hN : N ≤ 12) (ii : Nat) (hf : ii + N ≤ 40) (hn0 : w (17 + 4 * k + 3) = 0) (it : Nat → Int32) (hit : ∀ j, j < 40 → M (24 + rr) j = it (40 * rr + j)) (a : Int32) : jm_J none YX5_fits 151 [some (.ref 0), some (.int (nI k)), some (.int (nI rr)), some (.int (nI ii)), some (.int (nI N)), some (.int a), some (.ref (24 + rr))] [] M ((fun o M1 => o = some (.int (p_fr w k 1 (40 * rr + ii) N it)) ∧ ∃ M2, RF 1 M M2 ∧ M1 = jm_sf M2 0 (upd (M2 0) 9 (nI 0)))) := by
  refine jm_ald_n (Y := YX5_fits) (pc := 151) (i := 0) dX5_fits_151 rfl rfl ?_
  refine jm_ald_n (Y := YX5_fits) (pc := 152) (i := 0) dX5_fits_152 rfl rfl ?_
  refine jm_ild_n (Y := YX5_fits) (pc := 153) (i := 1) dX5_fits_153 rfl rfl ?_
  refine jm_aload (Y := YX5_fits) (pc := 154) dX5_fits_154 rfl ?_
  refine jm_ild_n (Y := YX5_fits) (pc := 156) (i := 3) dX5_fits_156 rfl rfl ?_
  refine jm_iload (Y := YX5_fits) (pc := 157) dX5_fits_157 rfl ?_
  refine jm_V4ie (Y := YX5_fits) (pc := 159) dX5_fits_159 lk_RX5_224 ⟨_, rfl⟩ rfl rfl rfl rfl rfl (by decide) (Nat.le_of_ble_eq_true rfl) ⟨by decide, by decide⟩ (w_starts w M hR hg hm k (24 + rr) ii N h_k (jm_arI h_rr) (by omega) hf hN) ?_
  refine jm_V1ie (Y := YX5_fits) (pc := 162) dX5_fits_162 lk_RX5_73 ⟨_, rfl⟩ rfl rfl (by decide) (Nat.le_of_ble_eq_true rfl) ⟨by decide, by decide⟩ (w_unfound _ _) ?_
  refine jm_ret (Y := YX5_fits) (pc := 165) (st := []) dX5_fits_165 rfl rfl ?_
  rw [p_fr_1 hg hm h_k hn0 hf hN hit]
  exact ⟨rfl, M, RF_0 1 M, rfl⟩
theorem w_fits_2 (w : Nat → Nat) (M : jm_M) (hR : RV M 0 w) (hg : rG w) (hm : w 4 ≤ 9999) (k rr N : Nat) (h_k : k < w 3) (h_rr : rr < 8) (h1N : 1 ≤ N) (hN : N ≤ 12) (ii : Nat) (hf : ii + N ≤ 40) (hn0 : w (17 + 4 * k + 3) = 0) (it : Nat → Int32) (hit : ∀ j, j < 40 → M (24 + rr) j = it (40 * rr + j)) (a : Int32) : jm_J none YX5_fits 166 [some (.ref 0), some (.int (nI k)), some (.int (nI rr)), some (.int (nI ii)), some (.int (nI N)), some (.int a), some (.ref (24 + rr))] [] M ((fun o M1 => o = some (.int (p_fr w k 2 (40 * rr + ii) N it)) ∧ ∃ M2, RF 1 M M2 ∧ M1 = jm_sf M2 0 (upd (M2 0) 9 (nI 0)))) := by
  refine jm_ald_n (Y := YX5_fits) (pc := 166) (i := 0) dX5_fits_166 rfl rfl ?_
  refine jm_ald_n (Y := YX5_fits) (pc := 167) (i := 0) dX5_fits_167 rfl rfl ?_
  refine jm_ild_n (Y := YX5_fits) (pc := 168) (i := 1) dX5_fits_168 rfl rfl ?_
  refine jm_aload (Y := YX5_fits) (pc := 169) dX5_fits_169 rfl ?_
  refine jm_ild_n (Y := YX5_fits) (pc := 171) (i := 3) dX5_fits_171 rfl rfl ?_
  refine jm_iload (Y := YX5_fits) (pc := 172) dX5_fits_172 rfl ?_
  refine jm_V4i (Y := YX5_fits) (pc := 174) dX5_fits_174 lk_RX5_227 ⟨_, rfl⟩ rfl rfl rfl rfl rfl (by decide) (Nat.le_of_ble_eq_true rfl) ⟨by decide, by decide⟩ (w_rains w M hR hg hm k (24 + rr) ii N h_k (jm_arI h_rr) (by omega) hf hN) (fun r_174 M_174 q_174 => ?_)
  refine jm_V1ie (Y := YX5_fits) (pc := 177) dX5_fits_177 lk_RX5_73 ⟨_, rfl⟩ rfl rfl (by decide) (Nat.le_of_ble_eq_true rfl) ⟨by decide, by decide⟩ (w_unfound _ _) ?_
  refine jm_ret (Y := YX5_fits) (pc := 180) (st := []) dX5_fits_180 rfl rfl ?_
  rw [p_fr_2 hg hm h_k hn0 hf hN hit]
  obtain ⟨e9, hF9⟩ := q_174
  cases e9
  exact ⟨rfl, _, hF9, rfl⟩
theorem w_fits_3 (w : Nat → Nat) (M : jm_M) (hR : RV M 0 w) (hg : rG w) (hm : w 4 ≤ 9999) (k rr N : Nat) (h_k : k < w 3) (h_rr : rr < 8) (h1N : 1 ≤ N) (hN : N ≤ 12) (ii : Nat) (hf : ii + N ≤ 40) (hn0 : w (17 + 4 * k + 3) = 0) (it : Nat → Int32) (hit : ∀ j, j < 40 → M (24 + rr) j = it (40 * rr + j)) (a : Int32) : jm_J none YX5_fits 181 [some (.ref 0), some (.int (nI k)), some (.int (nI rr)), some (.int (nI ii)), some (.int (nI N)), some (.int a), some (.ref (24 + rr))] [] M ((fun o M1 => o = some (.int (p_fr w k 3 (40 * rr + ii) N it)) ∧ ∃ M2, RF 1 M M2 ∧ M1 = jm_sf M2 0 (upd (M2 0) 9 (nI 0)))) := by
  refine jm_ald_n (Y := YX5_fits) (pc := 181) (i := 0) dX5_fits_181 rfl rfl ?_
  refine jm_ald_n (Y := YX5_fits) (pc := 182) (i := 0) dX5_fits_182 rfl rfl ?_
  refine jm_ild_n (Y := YX5_fits) (pc := 183) (i := 1) dX5_fits_183 rfl rfl ?_
  refine jm_aload (Y := YX5_fits) (pc := 184) dX5_fits_184 rfl ?_
  refine jm_ild_n (Y := YX5_fits) (pc := 186) (i := 3) dX5_fits_186 rfl rfl ?_
  refine jm_iload (Y := YX5_fits) (pc := 187) dX5_fits_187 rfl ?_
  refine jm_V4ie (Y := YX5_fits) (pc := 189) dX5_fits_189 lk_RX5_230 ⟨_, rfl⟩ rfl rfl rfl rfl rfl (by decide) (Nat.le_of_ble_eq_true rfl) ⟨by decide, by decide⟩ (w_sizes w M hR hg hm k (24 + rr) ii N h_k (jm_arI h_rr) (by omega) hf hN) ?_
  refine jm_V1ie (Y := YX5_fits) (pc := 192) dX5_fits_192 lk_RX5_73 ⟨_, rfl⟩ rfl rfl (by decide) (Nat.le_of_ble_eq_true rfl) ⟨by decide, by decide⟩ (w_unfound _ _) ?_
  refine jm_ret (Y := YX5_fits) (pc := 195) (st := []) dX5_fits_195 rfl rfl ?_
  rw [p_fr_3 hg hm h_k hn0 hf hN hit]
  exact ⟨rfl, M, RF_0 1 M, rfl⟩
theorem w_fits_4 (w : Nat → Nat) (M : jm_M) (hR : RV M 0 w) (hg : rG w) (hm : w 4 ≤ 9999) (k rr N : Nat) (h_k : k < w 3) (h_rr : rr < 8) (h1N : 1 ≤ N) (hN : N ≤ 12) (ii : Nat) (hf : ii + N ≤ 40) (hn0 : w (17 + 4 * k + 3) = 0) (it : Nat → Int32) (hit : ∀ j, j < 40 → M (24 + rr) j = it (40 * rr + j)) (a : Int32) : jm_J none YX5_fits 196 [some (.ref 0), some (.int (nI k)), some (.int (nI rr)), some (.int (nI ii)), some (.int (nI N)), some (.int a), some (.ref (24 + rr))] [] M ((fun o M1 => o = some (.int (p_fr w k 4 (40 * rr + ii) N it)) ∧ ∃ M2, RF 1 M M2 ∧ M1 = jm_sf M2 0 (upd (M2 0) 9 (nI 0)))) := by
  refine jm_ald_n (Y := YX5_fits) (pc := 196) (i := 0) dX5_fits_196 rfl rfl ?_
  refine jm_ald_n (Y := YX5_fits) (pc := 197) (i := 0) dX5_fits_197 rfl rfl ?_
  refine jm_ild_n (Y := YX5_fits) (pc := 198) (i := 1) dX5_fits_198 rfl rfl ?_
  refine jm_aload (Y := YX5_fits) (pc := 199) dX5_fits_199 rfl ?_
  refine jm_ild_n (Y := YX5_fits) (pc := 201) (i := 3) dX5_fits_201 rfl rfl ?_
  refine jm_iload (Y := YX5_fits) (pc := 202) dX5_fits_202 rfl ?_
  refine jm_V4ie (Y := YX5_fits) (pc := 204) dX5_fits_204 lk_RX5_233 ⟨_, rfl⟩ rfl rfl rfl rfl rfl (by decide) (Nat.le_of_ble_eq_true rfl) ⟨by decide, by decide⟩ (w_least w M hR hg hm k (24 + rr) ii N h_k (jm_arI h_rr) (by omega) hf hN) ?_
  refine jm_V1ie (Y := YX5_fits) (pc := 207) dX5_fits_207 lk_RX5_73 ⟨_, rfl⟩ rfl rfl (by decide) (Nat.le_of_ble_eq_true rfl) ⟨by decide, by decide⟩ (w_unfound _ _) ?_
  refine jm_ret (Y := YX5_fits) (pc := 210) (st := []) dX5_fits_210 rfl rfl ?_
  rw [p_fr_4 hg hm h_k hn0 hf hN hit]
  exact ⟨rfl, M, RF_0 1 M, rfl⟩
theorem w_fits1 (w : Nat → Nat) (M : jm_M) (hR : RV M 0 w) (hg : rG w) (hm : w 4 ≤ 9999) (ln : Nat → Int32) (mn : Nat → Nat) (it : Nat → Int32) (hW : RW M ln mn it) (k rr N : Nat) (h_k : k < w 3) (h_rr : rr < 8) (h1N : 1 ≤ N) (hN : N ≤ 12) (i a : Int32) (ha0 : 0 ≤ a.toInt) (ha4 : a.toInt ≤ 4) (eq9 : q_fits w ln mn it (nI k) (nI rr) i (nI N) a = (if w (17 + 4 * k + 3) = 1 then (-1000002, none) else if ln rr = -1000000 then (-1000011, some 1) else if 0 ≤ i.toInt ∧ 0 ≤ (nI N).toInt ∧ i.toInt + (nI N).toInt ≤ mn rr then (p_fr w k a.toInt.toNat (40 * rr + i.toInt.toNat) N it, some 0) else (-1000012, some 2))) : jm_J none YX5_fits 42 [some (.ref 0), some (.int (nI k)), some (.int (nI rr)), some (.int i), some (.int (nI N)), some (.int a), none] [] M (jm_t2 M (q_fits w ln mn it (nI k) (nI rr) i (nI N) a)) := by
  have hb := hg.hb
  have g3 := hg.1.2.2.2.1
  have kg : w (17 + 4 * k + 3) = 1 ↔ w (17 + 4 * k + 1) = 0 := m_gone hg h_k
  have k0 := hg.2.2.1 k (by omega)
  have hwr := RW_m hW h_rr
  have h40 := (hW rr h_rr).1
  have eN := jm_tI (show N < 2147483648 by omega)
  refine jm_ald_n (Y := YX5_fits) (pc := 42) (i := 0) dX5_fits_42 rfl rfl ?_
  refine jm_getR (Y := YX5_fits) (pc := 43) dX5_fits_43 fr_RX5_33 rfl (by decide) rfl ?_
  refine jm_ild_n (Y := YX5_fits) (pc := 46) (i := 1) dX5_fits_46 rfl rfl ?_
  refine jm_V1ie (Y := YX5_fits) (pc := 47) dX5_fits_47 lk_RX5_156 ⟨_, rfl⟩ (by first | exact jm_obR ha | exact jm_obR hb | rfl) rfl (by decide) (Nat.le_of_ble_eq_true rfl) ⟨by decide, by decide⟩ (m_sizeOf 0 (by decide) w _ hR hg _ (by omega)) ?_
  refine jm_if_neN (Y := YX5_fits) (pc := 50) dX5_fits_50 rfl (by first | omega | exact jm_lt hb _) (fun h_50 => ?_) (fun h_50 => ?_)
  · refine jm_ald_n (Y := YX5_fits) (pc := 56) (i := 0) dX5_fits_56 rfl rfl ?_
    refine jm_getR (Y := YX5_fits) (pc := 57) dX5_fits_57 fr_RX5_10 rfl (by decide) rfl ?_
    refine jm_ild_n (Y := YX5_fits) (pc := 60) (i := 2) dX5_fits_60 rfl rfl ?_
    refine jm_V1ie (Y := YX5_fits) (pc := 61) dX5_fits_61 lk_RX5_76 ⟨_, rfl⟩ rfl rfl (by decide) (Nat.le_of_ble_eq_true rfl) ⟨by decide, by decide⟩ (r_isMissing _ (by omega) _) ?_
    refine jm_if_eqB (Y := YX5_fits) (pc := 64) dX5_fits_64 rfl (fun h_64 => ?_) (fun h_64 => ?_)
    · have hr := RW_n hW h_rr h_64
      refine jm_ald_n (Y := YX5_fits) (pc := 73) (i := 0) dX5_fits_73 rfl rfl ?_
      refine jm_getR (Y := YX5_fits) (pc := 74) dX5_fits_74 fr_RX5_10 rfl (by decide) rfl ?_
      refine jm_ild_n (Y := YX5_fits) (pc := 77) (i := 2) dX5_fits_77 rfl rfl ?_
      refine jm_ild_n (Y := YX5_fits) (pc := 78) (i := 3) dX5_fits_78 rfl rfl ?_
      refine jm_iload (Y := YX5_fits) (pc := 79) dX5_fits_79 rfl ?_
      refine jm_V3ie (Y := YX5_fits) (pc := 81) dX5_fits_81 lk_RX5_79 ⟨_, rfl⟩ rfl rfl rfl rfl (by decide) (Nat.le_of_ble_eq_true rfl) ⟨by decide, by decide⟩ (r_hasPlaces rr (mn rr) (by omega) h40 _ _ _ hr.1) ?_
      refine jm_if_neB (Y := YX5_fits) (pc := 84) dX5_fits_84 rfl (fun h_84 => ?_) (fun h_84 => ?_)
      · have hn0 : w (17 + 4 * k + 3) = 0 := (by omega)
        rw [if_neg (by omega), if_neg hr.2.1, if_pos (by omega)] at eq9
        obtain ⟨ii, h_ii, rfl, t_ii, n_ii⟩ := jm_ofL (v := i) (n := 41) (by omega) (by omega)
        rw [n_ii] at eq9
        have hf : ii + N ≤ 40 := (by omega)
        refine jm_ald_n (Y := YX5_fits) (pc := 93) (i := 0) dX5_fits_93 rfl rfl ?_
        refine jm_getR (Y := YX5_fits) (pc := 94) dX5_fits_94 fr_RX5_10 rfl (by decide) rfl ?_
        refine jm_getR (Y := YX5_fits) (pc := 97) dX5_fits_97 fr_RX5_216 rfl (by decide) rfl ?_
        refine jm_ild_n (Y := YX5_fits) (pc := 100) (i := 2) dX5_fits_100 rfl rfl ?_
        refine jm_aalN (Y := YX5_fits) (pc := 101) dX5_fits_101 rfl (by decide) (by first | omega | exact jm_lt hb _) rfl ?_
        refine jm_ast (Y := YX5_fits) (pc := 102) (ls' := [_, _, _, _, _, _, _]) dX5_fits_102 (Nat.le_of_ble_eq_true rfl) rfl rfl ?_
        refine jm_iload (Y := YX5_fits) (pc := 104) dX5_fits_104 rfl ?_
        by_cases e_106_0 : Int32.toInt a = 0
        · refine jm_tin dX5_fits_106 (by rw [e_106_0]; decide) (by rw [e_106_0]; decide) (by rw [e_106_0]; rfl) rfl ?_
          rw [show a.toInt.toNat = 0 by omega] at eq9
          rw [eq9]
          exact jm_wk (w_fits_0 w M hR hg hm k rr N h_k h_rr h1N hN ii hf hn0 it hr.2.2.2 a) (fun o M1 q => q)
        by_cases e_106_1 : Int32.toInt a = 1
        · refine jm_tin dX5_fits_106 (by rw [e_106_1]; decide) (by rw [e_106_1]; decide) (by rw [e_106_1]; rfl) rfl ?_
          rw [show a.toInt.toNat = 1 by omega] at eq9
          rw [eq9]
          exact jm_wk (w_fits_1 w M hR hg hm k rr N h_k h_rr h1N hN ii hf hn0 it hr.2.2.2 a) (fun o M1 q => q)
        by_cases e_106_2 : Int32.toInt a = 2
        · refine jm_tin dX5_fits_106 (by rw [e_106_2]; decide) (by rw [e_106_2]; decide) (by rw [e_106_2]; rfl) rfl ?_
          rw [show a.toInt.toNat = 2 by omega] at eq9
          rw [eq9]
          exact jm_wk (w_fits_2 w M hR hg hm k rr N h_k h_rr h1N hN ii hf hn0 it hr.2.2.2 a) (fun o M1 q => q)
        by_cases e_106_3 : Int32.toInt a = 3
        · refine jm_tin dX5_fits_106 (by rw [e_106_3]; decide) (by rw [e_106_3]; decide) (by rw [e_106_3]; rfl) rfl ?_
          rw [show a.toInt.toNat = 3 by omega] at eq9
          rw [eq9]
          exact jm_wk (w_fits_3 w M hR hg hm k rr N h_k h_rr h1N hN ii hf hn0 it hr.2.2.2 a) (fun o M1 q => q)
        refine jm_tout (Y := YX5_fits) (pc := 106) dX5_fits_106 (by omega) rfl ?_
        rw [show a.toInt.toNat = 4 by omega] at eq9
        rw [eq9]
        exact jm_wk (w_fits_4 w M hR hg hm k rr N h_k h_rr h1N hN ii hf hn0 it hr.2.2.2 a) (fun o M1 q => q)
      · refine jm_ald_n (Y := YX5_fits) (pc := 87) (i := 0) dX5_fits_87 rfl rfl ?_
        refine jm_icN (Y := YX5_fits) (pc := 88) 2 dX5_fits_88 rfl ?_
        refine jm_V1ie (Y := YX5_fits) (pc := 89) dX5_fits_89 lk_RX5_65 ⟨_, rfl⟩ rfl rfl (by decide) (Nat.le_of_ble_eq_true rfl) ⟨by decide, by decide⟩ (w_finding _ _) ?_
        refine jm_ret (Y := YX5_fits) (pc := 92) (st := []) dX5_fits_92 rfl rfl ?_
        first
          | exact jm_t2n (by rw [eq9, if_pos (kg.mpr h_50)])
          | exact jm_t2i (M2 := M) (by rw [eq9, if_neg (fun z => h_50 (kg.mp z)), if_pos (hwr.mp h_64)]; rfl) (RF_0 1 M)
          | exact jm_t2i (M2 := M) (by rw [eq9, if_neg (fun z => h_50 (kg.mp z)), if_neg hr.2.1, if_neg (by omega)]; rfl) (RF_0 1 M)
          | fail
    · refine jm_ald_n (Y := YX5_fits) (pc := 67) (i := 0) dX5_fits_67 rfl rfl ?_
      refine jm_icN (Y := YX5_fits) (pc := 68) 1 dX5_fits_68 rfl ?_
      refine jm_V1ie (Y := YX5_fits) (pc := 69) dX5_fits_69 lk_RX5_65 ⟨_, rfl⟩ rfl rfl (by decide) (Nat.le_of_ble_eq_true rfl) ⟨by decide, by decide⟩ (w_finding _ _) ?_
      refine jm_ret (Y := YX5_fits) (pc := 72) (st := []) dX5_fits_72 rfl rfl ?_
      first
        | exact jm_t2n (by rw [eq9, if_pos (kg.mpr h_50)])
        | exact jm_t2i (M2 := M) (by rw [eq9, if_neg (fun z => h_50 (kg.mp z)), if_pos (hwr.mp h_64)]; rfl) (RF_0 1 M)
        | exact jm_t2i (M2 := M) (by rw [eq9, if_neg (fun z => h_50 (kg.mp z)), if_neg hr.2.1, if_neg (by omega)]; rfl) (RF_0 1 M)
        | fail
  · refine jm_ldc (Y := YX5_fits) (pc := 53) (v := -1000002) dX5_fits_53 kc_RX5_136 ?_
    refine jm_ret (Y := YX5_fits) (pc := 55) (st := []) dX5_fits_55 rfl rfl ?_
    first
      | exact jm_t2n (by rw [eq9, if_pos (kg.mpr h_50)])
      | exact jm_t2i (M2 := M) (by rw [eq9, if_neg (fun z => h_50 (kg.mp z)), if_pos (hwr.mp h_64)]; rfl) (RF_0 1 M)
      | exact jm_t2i (M2 := M) (by rw [eq9, if_neg (fun z => h_50 (kg.mp z)), if_neg hr.2.1, if_neg (by omega)]; rfl) (RF_0 1 M)
      | fail
theorem w_fits (w : Nat → Nat) (M : jm_M) (hR : RV M 0 w) (hg : rG w) (hm : w 4 ≤ 9999) (ln : Nat → Int32) (mn : Nat → Nat) (it : Nat → Int32) (hW : RW M ln mn it) (v r i n a : Int32) : jm_J none YX5_fits 0 [some (.ref 0), some (.int v), some (.int r), some (.int i), some (.int n), some (.int a), none] [] M ((fun o M1 => jm_t2 M (q_fits w ln mn it v r i n a) o M1)) := by
  have hb := hg.hb
  have g0 := hg.1.1
  have g1 := hg.1.2.1
  have g2 := hg.1.2.2.1
  have g3 := hg.1.2.2.2.1
  have g4 := hg.1.2.2.2.2
  refine jm_ald_n (Y := YX5_fits) (pc := 0) (i := 0) dX5_fits_0 rfl rfl ?_
  refine jm_getR (Y := YX5_fits) (pc := 1) dX5_fits_1 fr_RX5_33 rfl (by decide) rfl ?_
  refine jm_ild_n (Y := YX5_fits) (pc := 4) (i := 1) dX5_fits_4 rfl rfl ?_
  refine jm_V1ie (Y := YX5_fits) (pc := 5) dX5_fits_5 lk_RX5_150 ⟨_, rfl⟩ (by first | exact jm_obR ha | exact jm_obR hb | rfl) rfl (by decide) (Nat.le_of_ble_eq_true rfl) ⟨by decide, by decide⟩ (m_hasWord 0 (by decide) w _ hR hg _) ?_
  refine jm_if_eqB (Y := YX5_fits) (pc := 8) dX5_fits_8 rfl (fun h_8 => ?_) (fun h_8 => ?_)
  · refine jm_ldc (Y := YX5_fits) (pc := 39) (v := -1000001) dX5_fits_39 kc_RX5_64 ?_
    refine jm_ret (Y := YX5_fits) (pc := 41) (st := []) dX5_fits_41 rfl rfl ?_
    exact jm_t2n (q_fits_bad (by omega))
  · refine jm_ild_n (Y := YX5_fits) (pc := 11) (i := 2) dX5_fits_11 rfl rfl ?_
    refine jm_S1ie (Y := YX5_fits) (pc := 12) dX5_fits_12 lk_RX5_57 ⟨_, rfl⟩ rfl (by decide) (Nat.le_of_ble_eq_true rfl) ⟨by decide, by decide⟩ (r_isRow _ _) ?_
    refine jm_if_eqB (Y := YX5_fits) (pc := 15) dX5_fits_15 rfl (fun h_15 => ?_) (fun h_15 => ?_)
    · refine jm_ldc (Y := YX5_fits) (pc := 39) (v := -1000001) dX5_fits_39 kc_RX5_64 ?_
      refine jm_ret (Y := YX5_fits) (pc := 41) (st := []) dX5_fits_41 rfl rfl ?_
      exact jm_t2n (q_fits_bad (by omega))
    · refine jm_iload (Y := YX5_fits) (pc := 18) dX5_fits_18 rfl ?_
      refine jm_icN (Y := YX5_fits) (pc := 20) 1 dX5_fits_20 rfl ?_
      refine jm_bpN (Y := YX5_fits) (pc := 21) 12 dX5_fits_21 rfl ?_
      refine jm_S3ie (Y := YX5_fits) (pc := 23) dX5_fits_23 lk_RX5_98 ⟨_, rfl⟩ rfl rfl rfl (by decide) (Nat.le_of_ble_eq_true rfl) ⟨by decide, by decide⟩ (w_wiN _ _ _ _ (by decide) (by decide)) ?_
      refine jm_if_eqB (Y := YX5_fits) (pc := 26) dX5_fits_26 rfl (fun h_26 => ?_) (fun h_26 => ?_)
      · refine jm_ldc (Y := YX5_fits) (pc := 39) (v := -1000001) dX5_fits_39 kc_RX5_64 ?_
        refine jm_ret (Y := YX5_fits) (pc := 41) (st := []) dX5_fits_41 rfl rfl ?_
        exact jm_t2n (q_fits_bad (by omega))
      · refine jm_iload (Y := YX5_fits) (pc := 29) dX5_fits_29 rfl ?_
        refine jm_icN (Y := YX5_fits) (pc := 31) 0 dX5_fits_31 rfl ?_
        refine jm_icN (Y := YX5_fits) (pc := 32) 4 dX5_fits_32 rfl ?_
        refine jm_S3ie (Y := YX5_fits) (pc := 33) dX5_fits_33 lk_RX5_98 ⟨_, rfl⟩ rfl rfl rfl (by decide) (Nat.le_of_ble_eq_true rfl) ⟨by decide, by decide⟩ (w_wiN _ _ _ _ (by decide) (by decide)) ?_
        refine jm_if_neB (Y := YX5_fits) (pc := 36) dX5_fits_36 rfl (fun h_36 => ?_) (fun h_36 => ?_)
        · obtain ⟨k, h_k, rfl, t_k, n_k⟩ := jm_ofL (v := v) (n := w 3) (by omega) (by omega)
          obtain ⟨rr, h_rr, rfl, t_rr, n_rr⟩ := jm_ofL (v := r) (n := 8) (by omega) (by omega)
          obtain ⟨N, h_N, rfl, t_N, n_N⟩ := jm_ofL (v := n) (n := 13) (by omega) (by omega)
          have eq9 := q_fits_ok (w := w) (ln := ln) (mn := mn) (it := it) (v := nI k) (r := nI rr) (i := i) (n := nI N) (a := a) (by omega)
          rw [n_k, n_rr, n_N] at eq9
          exact w_fits1 w M hR hg hm ln mn it hW k rr N h_k h_rr (by omega) (by omega) i a (by omega) (by omega) eq9
        · refine jm_ldc (Y := YX5_fits) (pc := 39) (v := -1000001) dX5_fits_39 kc_RX5_64 ?_
          refine jm_ret (Y := YX5_fits) (pc := 41) (st := []) dX5_fits_41 rfl rfl ?_
          exact jm_t2n (q_fits_bad (by omega))
