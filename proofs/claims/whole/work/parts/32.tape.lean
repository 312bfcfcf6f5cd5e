/-! the class: its tape -/
/-- the tape's reader: at p, the latest fault f -/
def TT (M : jm_M) (p : Nat) (f : Int32) : jm_M := jm_sf M 2 (fun j => if j = 2 then nI p else if j = 3 then f else M 2 j)
theorem TT_o {M : jm_M} {p : Nat} {f : Int32} {i : Nat} (h : i ≠ 2) : TT M p f i = M i := jm_sf_n _ _ h
theorem TT_2 {M : jm_M} {p : Nat} {f : Int32} : TT M p f 2 2 = nI p := rfl
theorem TT_u2 {M : jm_M} {p : Nat} {f : Int32} (q : Nat) : jm_sf (TT M p f) 2 (upd (TT M p f 2) 2 (nI q)) = TT M q f := by
  unfold TT
  rw [jm_sfsf, jm_sf_s]
  congr 1
  funext j
  by_cases h : j = 2
  · subst h; rw [upd_s]; rfl
  · rw [upd_n _ _ h]; simp only [h, if_false]
theorem TT_u3 {M : jm_M} {p : Nat} {f : Int32} (x : Int32) : jm_sf (TT M p f) 2 (upd (TT M p f 2) 3 x) = TT M p x := by
  unfold TT
  rw [jm_sfsf, jm_sf_s]
  congr 1
  funext j
  by_cases h : j = 3
  · subst h; rw [upd_s]; rfl
  · rw [upd_n _ _ h]; simp only [h, if_false]
theorem t_isAt (t : Nat → Nat) (n : Nat) (M : jm_M) (hn : n ≤ 110) (hb : ∀ i, t i ≤ 255) (h7 : ∀ i, i < n → M 7 i = nI (t i)) (h1 : M 2 1 = nI n) (p : Nat) (f : Int32) (hp : p ≤ n) (c : Nat) (hc : c ≤ 255) : jm_J none YX4_isAt 0 [some (.ref 2), some (.int (nI c))] [] (TT M p f) (jm_is (some (.int (jm_b (p < n ∧ t p = c)))) (TT M p f)) := by
  have tb := hb p
  refine jm_ald_n (Y := YX4_isAt) (pc := 0) (i := 0) dX4_isAt_0 rfl rfl ?_
  refine jm_getE (Y := YX4_isAt) (pc := 1) dX4_isAt_1 fw_RX4_17 rfl (by decide) rfl (TT_2) ?_
  refine jm_ald_n (Y := YX4_isAt) (pc := 4) (i := 0) dX4_isAt_4 rfl rfl ?_
  refine jm_getE (Y := YX4_isAt) (pc := 5) dX4_isAt_5 fw_RX4_13 rfl (by decide) rfl ((show _ = nI n from h1)) ?_
  refine jm_icmp_geN (Y := YX4_isAt) (pc := 8) dX4_isAt_8 rfl (by omega) (by omega) (fun h_8 => ?_) (fun h_8 => ?_)
  · refine jm_icN (Y := YX4_isAt) (pc := 28) 0 dX4_isAt_28 rfl ?_
    refine jm_ret (Y := YX4_isAt) (pc := 29) (st := []) dX4_isAt_29 rfl rfl ?_
    first | exact jm_bf (by omega) | exact jm_bt (by omega) | fail
  · refine jm_ald_n (Y := YX4_isAt) (pc := 11) (i := 0) dX4_isAt_11 rfl rfl ?_
    refine jm_getR (Y := YX4_isAt) (pc := 12) dX4_isAt_12 fr_RX4_9 rfl (by decide) rfl ?_
    refine jm_ald_n (Y := YX4_isAt) (pc := 15) (i := 0) dX4_isAt_15 rfl rfl ?_
    refine jm_getE (Y := YX4_isAt) (pc := 16) dX4_isAt_16 fw_RX4_17 rfl (by decide) rfl (TT_2) ?_
    refine jm_ialN (Y := YX4_isAt) (pc := 19) dX4_isAt_19 (by first | assumption | exact jm_arR1 ha | exact jm_arR2 ha | exact jm_arR3 ha | exact jm_arR1 hb | exact jm_arR2 hb | exact jm_arR3 hb | rfl) (by omega) ((show _ = nI (t p) from h7 p (by omega))) ?_
    refine jm_ild_n (Y := YX4_isAt) (pc := 20) (i := 1) dX4_isAt_20 rfl rfl ?_
    refine jm_icmp_neN (Y := YX4_isAt) (pc := 21) dX4_isAt_21 rfl (by omega) (by omega) (fun h_21 => ?_) (fun h_21 => ?_)
    · refine jm_icN (Y := YX4_isAt) (pc := 28) 0 dX4_isAt_28 rfl ?_
      refine jm_ret (Y := YX4_isAt) (pc := 29) (st := []) dX4_isAt_29 rfl rfl ?_
      first | exact jm_bf (by omega) | exact jm_bt (by omega) | fail
    · refine jm_icN (Y := YX4_isAt) (pc := 24) 1 dX4_isAt_24 rfl ?_
      refine jm_goto (Y := YX4_isAt) (pc := 25) dX4_isAt_25 rfl ?_
      refine jm_ret (Y := YX4_isAt) (pc := 29) (st := []) dX4_isAt_29 rfl rfl ?_
      first | exact jm_bf (by omega) | exact jm_bt (by omega) | fail
theorem t_faulty (t : Nat → Nat) (n : Nat) (M : jm_M) (hn : n ≤ 110) (hb : ∀ i, t i ≤ 255) (h7 : ∀ i, i < n → M 7 i = nI (t i)) (h1 : M 2 1 = nI n) (p : Nat) (f : Int32) (x : Int32) : jm_J none YX4_faulty 0 [some (.ref 2), some (.int x)] [] (TT M p f) (jm_is (some (.int (jm_b False))) (TT M p x)) := by
  refine jm_ald_n (Y := YX4_faulty) (pc := 0) (i := 0) dX4_faulty_0 rfl rfl ?_
  refine jm_ild_n (Y := YX4_faulty) (pc := 1) (i := 1) dX4_faulty_1 rfl rfl ?_
  refine jm_put (Y := YX4_faulty) (pc := 2) dX4_faulty_2 fw_RX4_20 rfl (by decide) rfl ?_
  rw [TT_u3]
  refine jm_icN (Y := YX4_faulty) (pc := 5) 0 dX4_faulty_5 rfl ?_
  refine jm_ret (Y := YX4_faulty) (pc := 6) (st := []) dX4_faulty_6 rfl rfl ?_
  exact ⟨rfl, rfl⟩
theorem t_passes (t : Nat → Nat) (n : Nat) (M : jm_M) (hn : n ≤ 110) (hb : ∀ i, t i ≤ 255) (h7 : ∀ i, i < n → M 7 i = nI (t i)) (h1 : M 2 1 = nI n) (p : Nat) (f : Int32) (hp : p ≤ n) (c : Nat) (hc : c ≤ 255) : jm_J none YX4_passes 0 [some (.ref 2), some (.int (nI c))] [] (TT M p f) ((fun o M1 => if p < n ∧ t p = c then o = some (.int (nI 1)) ∧ M1 = TT M (p + 1) f else o = some (.int (nI 0)) ∧ M1 = TT M p (nI 1))) := by
  refine jm_ald_n (Y := YX4_passes) (pc := 0) (i := 0) dX4_passes_0 rfl rfl ?_
  refine jm_ild_n (Y := YX4_passes) (pc := 1) (i := 1) dX4_passes_1 rfl rfl ?_
  refine jm_V1ie (Y := YX4_passes) (pc := 2) dX4_passes_2 lk_RX4_52 ⟨_, rfl⟩ rfl rfl (by decide) (Nat.le_of_ble_eq_true rfl) ⟨by decide, by decide⟩ (t_isAt t n M hn hb h7 h1 p f hp c hc) ?_
  refine jm_if_neB (Y := YX4_passes) (pc := 5) dX4_passes_5 rfl (fun h_5 => ?_) (fun h_5 => ?_)
  · refine jm_ald_n (Y := YX4_passes) (pc := 14) (i := 0) dX4_passes_14 rfl rfl ?_
    refine jm_dup (Y := YX4_passes) (pc := 15) dX4_passes_15 rfl ?_
    refine jm_getE (Y := YX4_passes) (pc := 16) dX4_passes_16 fw_RX4_17 rfl (by decide) rfl (TT_2) ?_
    refine jm_icN (Y := YX4_passes) (pc := 19) 1 dX4_passes_19 rfl ?_
    refine jm_addN (Y := YX4_passes) (pc := 20) dX4_passes_20 ?_
    refine jm_put (Y := YX4_passes) (pc := 21) dX4_passes_21 fw_RX4_17 rfl (by decide) rfl ?_
    rw [TT_u2]
    refine jm_icN (Y := YX4_passes) (pc := 24) 1 dX4_passes_24 rfl ?_
    refine jm_ret (Y := YX4_passes) (pc := 25) (st := []) dX4_passes_25 rfl rfl ?_
    first | (rw [if_pos h_5]; exact ⟨rfl, rfl⟩) | (rw [if_neg h_5]; exact ⟨rfl, rfl⟩) | fail
  · refine jm_ald_n (Y := YX4_passes) (pc := 8) (i := 0) dX4_passes_8 rfl rfl ?_
    refine jm_icN (Y := YX4_passes) (pc := 9) 1 dX4_passes_9 rfl ?_
    refine jm_V1ie (Y := YX4_passes) (pc := 10) dX4_passes_10 lk_RX4_58 ⟨_, rfl⟩ rfl rfl (by decide) (Nat.le_of_ble_eq_true rfl) ⟨by decide, by decide⟩ (t_faulty t n M hn hb h7 h1 p f (nI 1)) ?_
    refine jm_ret (Y := YX4_passes) (pc := 13) (st := []) dX4_passes_13 rfl (jm_nb _) ?_
    first | (rw [if_pos h_5]; exact ⟨rfl, rfl⟩) | (rw [if_neg h_5]; exact ⟨rfl, rfl⟩) | fail
theorem t_figs0 (t : Nat → Nat) (n : Nat) (M : jm_M) (hn : n ≤ 110) (hb : ∀ i, t i ≤ 255) (h7 : ∀ i, i < n → M 7 i = nI (t i)) (h1 : M 2 1 = nI n) (p : Nat) (f : Int32) (a : Nat) : ∀ (m : Nat) (e : Nat), a ≤ e → e ≤ n → a + s_d t n a = e + s_d t n e → n + 1 - e < m → jm_J none YX4_figuresFrom 2 [some (.ref 2), some (.int (nI a)), some (.int (nI e))] [] (TT M p f) (jm_is (some (.int (nI (s_d t n a)))) (TT M p f)) := by
  intro m
  induction m with
  | zero => intros; omega
  | succ m ih =>
    intro e hae he hs hmm
    have tb := hb e
    refine jm_ild_n (Y := YX4_figuresFrom) (pc := 2) (i := 2) dX4_figuresFrom_2 rfl rfl ?_
    refine jm_ald_n (Y := YX4_figuresFrom) (pc := 3) (i := 0) dX4_figuresFrom_3 rfl rfl ?_
    refine jm_getE (Y := YX4_figuresFrom) (pc := 4) dX4_figuresFrom_4 fw_RX4_13 rfl (by decide) rfl ((show _ = nI n from h1)) ?_
    refine jm_icmp_geN (Y := YX4_figuresFrom) (pc := 7) dX4_figuresFrom_7 rfl (by omega) (by omega) (fun h_7 => ?_) (fun h_7 => ?_)
    · refine jm_ild_n (Y := YX4_figuresFrom) (pc := 38) (i := 2) dX4_figuresFrom_38 rfl rfl ?_
      refine jm_ild_n (Y := YX4_figuresFrom) (pc := 39) (i := 1) dX4_figuresFrom_39 rfl rfl ?_
      refine jm_subN (Y := YX4_figuresFrom) (pc := 40) dX4_figuresFrom_40 (by omega) ?_
      refine jm_ret (Y := YX4_figuresFrom) (pc := 41) (st := []) dX4_figuresFrom_41 rfl rfl ?_
      have ez : s_d t n e = 0 := s_d_0 (by omega)
      exact jm_eqN (by omega)
    · refine jm_ald_n (Y := YX4_figuresFrom) (pc := 10) (i := 0) dX4_figuresFrom_10 rfl rfl ?_
      refine jm_getR (Y := YX4_figuresFrom) (pc := 11) dX4_figuresFrom_11 fr_RX4_9 rfl (by decide) rfl ?_
      refine jm_ild_n (Y := YX4_figuresFrom) (pc := 14) (i := 2) dX4_figuresFrom_14 rfl rfl ?_
      refine jm_ialN (Y := YX4_figuresFrom) (pc := 15) dX4_figuresFrom_15 (by first | assumption | exact jm_arR1 ha | exact jm_arR2 ha | exact jm_arR3 ha | exact jm_arR1 hb | exact jm_arR2 hb | exact jm_arR3 hb | rfl) (by omega) ((show _ = nI (t e) from h7 e (by omega))) ?_
      refine jm_bpN (Y := YX4_figuresFrom) (pc := 16) 48 dX4_figuresFrom_16 rfl ?_
      refine jm_icmp_ltN (Y := YX4_figuresFrom) (pc := 18) dX4_figuresFrom_18 rfl (by omega) (by omega) (fun h_18 => ?_) (fun h_18 => ?_)
      · refine jm_ild_n (Y := YX4_figuresFrom) (pc := 38) (i := 2) dX4_figuresFrom_38 rfl rfl ?_
        refine jm_ild_n (Y := YX4_figuresFrom) (pc := 39) (i := 1) dX4_figuresFrom_39 rfl rfl ?_
        refine jm_subN (Y := YX4_figuresFrom) (pc := 40) dX4_figuresFrom_40 (by omega) ?_
        refine jm_ret (Y := YX4_figuresFrom) (pc := 41) (st := []) dX4_figuresFrom_41 rfl rfl ?_
        have ez : s_d t n e = 0 := s_d_0 (by omega)
        exact jm_eqN (by omega)
      · refine jm_ald_n (Y := YX4_figuresFrom) (pc := 21) (i := 0) dX4_figuresFrom_21 rfl rfl ?_
        refine jm_getR (Y := YX4_figuresFrom) (pc := 22) dX4_figuresFrom_22 fr_RX4_9 rfl (by decide) rfl ?_
        refine jm_ild_n (Y := YX4_figuresFrom) (pc := 25) (i := 2) dX4_figuresFrom_25 rfl rfl ?_
        refine jm_ialN (Y := YX4_figuresFrom) (pc := 26) dX4_figuresFrom_26 (by first | assumption | exact jm_arR1 ha | exact jm_arR2 ha | exact jm_arR3 ha | exact jm_arR1 hb | exact jm_arR2 hb | exact jm_arR3 hb | rfl) (by omega) ((show _ = nI (t e) from h7 e (by omega))) ?_
        refine jm_bpN (Y := YX4_figuresFrom) (pc := 27) 57 dX4_figuresFrom_27 rfl ?_
        refine jm_icmp_gtN (Y := YX4_figuresFrom) (pc := 29) dX4_figuresFrom_29 rfl (by omega) (by omega) (fun h_29 => ?_) (fun h_29 => ?_)
        · refine jm_ild_n (Y := YX4_figuresFrom) (pc := 38) (i := 2) dX4_figuresFrom_38 rfl rfl ?_
          refine jm_ild_n (Y := YX4_figuresFrom) (pc := 39) (i := 1) dX4_figuresFrom_39 rfl rfl ?_
          refine jm_subN (Y := YX4_figuresFrom) (pc := 40) dX4_figuresFrom_40 (by omega) ?_
          refine jm_ret (Y := YX4_figuresFrom) (pc := 41) (st := []) dX4_figuresFrom_41 rfl rfl ?_
          have ez : s_d t n e = 0 := s_d_0 (by omega)
          exact jm_eqN (by omega)
        · refine jm_incN (Y := YX4_figuresFrom) (pc := 32) (m := 1) (ls' := [_, _, _]) dX4_figuresFrom_32 rfl rfl rfl rfl ?_
          refine jm_goto (Y := YX4_figuresFrom) (pc := 35) dX4_figuresFrom_35 rfl ?_
          have es := s_d_s (t := t) (n := n) (p := e) h_7 (by omega)
          exact ih (e + 1) (by omega) (by omega) (by omega) (by omega)
theorem t_figs (t : Nat → Nat) (n : Nat) (M : jm_M) (hn : n ≤ 110) (hb : ∀ i, t i ≤ 255) (h7 : ∀ i, i < n → M 7 i = nI (t i)) (h1 : M 2 1 = nI n) (p : Nat) (f : Int32) (a : Nat) (hp : a ≤ n) : jm_J none YX4_figuresFrom 0 [some (.ref 2), some (.int (nI a)), none] [] (TT M p f) (jm_is (some (.int (nI (s_d t n a)))) (TT M p f)) := by
  refine jm_ild_n (Y := YX4_figuresFrom) (pc := 0) (i := 1) dX4_figuresFrom_0 rfl rfl ?_
  refine jm_ist_n (Y := YX4_figuresFrom) (pc := 1) (i := 2) (ls' := [_, _, _]) dX4_figuresFrom_1 rfl (Nat.le_of_ble_eq_true rfl) rfl rfl ?_
  exact t_figs0 t n M hn hb h7 h1 p f a (n + 2) a (Nat.le_refl _) hp rfl (by omega)
theorem t_isFull (n : Nat) (hn : n ≤ 110) (M : jm_M) (h1 : M 2 1 = nI n) : jm_J none YX4_isFull 0 [some (.ref 2)] [] M (jm_is (some (.int (jm_b (n = 110)))) M) := by
  refine jm_ald_n (Y := YX4_isFull) (pc := 0) (i := 0) dX4_isFull_0 rfl rfl ?_
  refine jm_getE (Y := YX4_isFull) (pc := 1) dX4_isFull_1 fw_RX4_13 rfl (by decide) rfl (h1) ?_
  refine jm_bpN (Y := YX4_isFull) (pc := 4) 110 dX4_isFull_4 rfl ?_
  refine jm_icmp_ltN (Y := YX4_isFull) (pc := 6) dX4_isFull_6 rfl (by omega) (by omega) (fun h_6 => ?_) (fun h_6 => ?_)
  · refine jm_icN (Y := YX4_isFull) (pc := 13) 0 dX4_isFull_13 rfl ?_
    refine jm_ret (Y := YX4_isFull) (pc := 14) (st := []) dX4_isFull_14 rfl rfl ?_
    first | exact jm_bf (by omega) | exact jm_bt (by omega) | fail
  · refine jm_icN (Y := YX4_isFull) (pc := 9) 1 dX4_isFull_9 rfl ?_
    refine jm_goto (Y := YX4_isFull) (pc := 10) dX4_isFull_10 rfl ?_
    refine jm_ret (Y := YX4_isFull) (pc := 14) (st := []) dX4_isFull_14 rfl rfl ?_
    first | exact jm_bf (by omega) | exact jm_bt (by omega) | fail
theorem t_wipe (M : jm_M) : jm_J none YX4_wipe 0 [some (.ref 2)] [] M (jm_is none (jm_sf M 2 (upd (M 2) 1 (nI 0)))) := by
  refine jm_ald_n (Y := YX4_wipe) (pc := 0) (i := 0) dX4_wipe_0 rfl rfl ?_
  refine jm_icN (Y := YX4_wipe) (pc := 1) 0 dX4_wipe_1 rfl ?_
  refine jm_put (Y := YX4_wipe) (pc := 2) dX4_wipe_2 fw_RX4_13 rfl (by decide) rfl ?_
  refine jm_retv (Y := YX4_wipe) (pc := 5) (st := []) dX4_wipe_5 rfl ?_
  exact ⟨rfl, rfl⟩
theorem t_take (n : Nat) (hn : n < 110) (v : Int32) (M : jm_M) (h1 : M 2 1 = nI n) : jm_J none YX4_take 0 [some (.ref 2), some (.int v)] [] M (jm_is (some (.int (nI (n + 1)))) (jm_sf (jm_sf M 7 (upd (M 7) n v)) 2 (upd (M 2) 1 (nI (n + 1))))) := by
  refine jm_ald_n (Y := YX4_take) (pc := 0) (i := 0) dX4_take_0 rfl rfl ?_
  refine jm_getR (Y := YX4_take) (pc := 1) dX4_take_1 fr_RX4_9 rfl (by decide) rfl ?_
  refine jm_ald_n (Y := YX4_take) (pc := 4) (i := 0) dX4_take_4 rfl rfl ?_
  refine jm_getE (Y := YX4_take) (pc := 5) dX4_take_5 fw_RX4_13 rfl (by decide) rfl (h1) ?_
  refine jm_ild_n (Y := YX4_take) (pc := 8) (i := 1) dX4_take_8 rfl rfl ?_
  refine jm_iasN (Y := YX4_take) (pc := 9) dX4_take_9 rfl (by omega) ?_
  refine jm_ald_n (Y := YX4_take) (pc := 10) (i := 0) dX4_take_10 rfl rfl ?_
  refine jm_dup (Y := YX4_take) (pc := 11) dX4_take_11 rfl ?_
  refine jm_getE (Y := YX4_take) (pc := 12) dX4_take_12 fw_RX4_13 rfl (by decide) rfl ((show _ = nI n from h1)) ?_
  refine jm_icN (Y := YX4_take) (pc := 15) 1 dX4_take_15 rfl ?_
  refine jm_addN (Y := YX4_take) (pc := 16) dX4_take_16 ?_
  refine jm_put (Y := YX4_take) (pc := 17) dX4_take_17 fw_RX4_13 rfl (by decide) rfl ?_
  refine jm_ald_n (Y := YX4_take) (pc := 20) (i := 0) dX4_take_20 rfl rfl ?_
  refine jm_getE (Y := YX4_take) (pc := 21) dX4_take_21 fw_RX4_13 rfl (by decide) rfl ((show _ = nI (n + 1) by rw [jm_sf_s, upd_s])) ?_
  refine jm_ret (Y := YX4_take) (pc := 24) (st := []) dX4_take_24 rfl rfl ?_
  exact ⟨rfl, rfl⟩
