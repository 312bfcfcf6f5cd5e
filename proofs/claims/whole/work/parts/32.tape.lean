/-! the class: its tape -/
/-- the tape's reader: at p, the latest fault f -/
def TT (M : jm_M) (p : Nat) (f : Int32) : jm_M := jm_sf M 2 (fun j => if j = 2 then nI p else if j = 3 then f else M 2 j)
theorem TT_o {M : jm_M} {p : Nat} {f : Int32} {i : Nat} (h : i ≠ 2) : TT M p f i = M i := jm_sf_n _ _ h
theorem TT_2 {M : jm_M} {p : Nat} {f : Int32} : TT M p f 2 2 = nI p := rfl
theorem TT_u2 {M : jm_M} {p : Nat} {f : Int32} (q : Nat) : jm_sf (TT M p f) 2 (upd (TT M p f 2) 2 (nI q)) = TT M q f := by
  unfold TT
  rw [jm_sfsf, jm_sf_s]
  congr 1
  funext j
  by_cases h : j = 2
  · subst h; rw [upd_s]; rfl
  · rw [upd_n _ _ h]; simp only [h, if_false]
theorem TT_u3 {M : jm_M} {p : Nat} {f : Int32} (x : Int32) : jm_sf (TT M p f) 2 (upd (TT M p f 2) 3 x) = TT M p x := by
  unfold TT
  rw [jm_sfsf, jm_sf_s]
  congr 1
  funext j
  by_cases h : j = 3
  · subst h; rw [upd_s]; rfl
  · rw [upd_n _ _ h]; simp only [h, if_false]
theorem t_isAt (t : Nat → Nat) (n : Nat) (M : jm_M) (hn : n ≤ 110) (hb : ∀ i, t i ≤ 255) (h7 : ∀ i, i < n → M 7 i = nI (t i)) (h1 : M 2 1 = nI n) (p : Nat) (f : Int32) (hp : p ≤ n) (c : Nat) (hc : c ≤ 255) : jm_J none YX4_isAt 0 [some (.ref 2), some (.int (nI c))] [] (TT M p f) (jm_is (some (.int (jm_b (p < n ∧ t p = c)))) (TT M p f)) := by
  have tb := hb p
  refine jm_ald_n (Y := YX4_isAt) (pc := 0) (i := 0) dX4_isAt_0 rfl rfl ?_
  refine jm_getE (Y := YX4_isAt) (pc := 1) dX4_isAt_1 fw_RX4_17 rfl (by decide) rfl (TT_2) ?_
  refine jm_ald_n (Y := YX4_isAt) (pc := 4) (i := 0) dX4_isAt_4 rfl rfl ?_
  refine jm_getE (Y := YX4_isAt) (pc := 5) dX4_isAt_5 fw_RX4_13 rfl (by decide) rfl ((show _ = nI n from h1)) ?_
  refine jm_icmp_geN (Y := YX4_isAt) (pc := 8) dX4_isAt_8 rfl (by omega) (by omega) (fun h_8 => ?_) (fun h_8 => ?_)
  · refine jm_icN (Y := YX4_isAt) (pc := 28) 0 dX4_isAt_28 rfl ?_
    refine jm_ret (Y := YX4_isAt) (pc := 29) (st := []) dX4_isAt_29 rfl rfl ?_
    first | exact jm_bf (by omega) | exact jm_bt (by omega) | fail
  · refine jm_ald_n (Y := YX4_isAt) (pc := 11) (i := 0) dX4_isAt_11 rfl rfl ?_
    refine jm_getR (Y := YX4_isAt) (pc := 12) dX4_isAt_12 fr_RX4_9 rfl (by decide) rfl ?_
    refine jm_ald_n (Y := YX4_isAt) (pc := 15) (i := 0) dX4_isAt_15 rfl rfl ?_
    refine jm_getE (Y := YX4_isAt) (pc := 16) dX4_isAt_16 fw_RX4_17 rfl (by decide) rfl (TT_2) ?_
    refine jm_ialN (Y := YX4_isAt) (pc := 19) dX4_isAt_19 (by first | assumption | exact jm_arR1 ha | exact jm_arR2 ha | exact jm_arR3 ha | exact jm_arR1 hb | exact jm_arR2 hb | exact jm_arR3 hb | rfl) (by omega) ((show _ = nI (t p) from h7 p (by omega))) ?_
    refine jm_ild_n (Y := YX4_isAt) (pc := 20) (i := 1) dX4_isAt_20 rfl rfl ?_
    refine jm_icmp_neN (Y := YX4_isAt) (pc := 21) dX4_isAt_21 rfl (by omega) (by omega) (fun h_21 => ?_) (fun h_21 => ?_)
    · refine jm_icN (Y := YX4_isAt) (pc := 28) 0 dX4_isAt_28 rfl ?_
      refine jm_ret (Y := YX4_isAt) (pc := 29) (st := []) dX4_isAt_29 rfl rfl ?_
      first | exact jm_bf (by omega) | exact jm_bt (by omega) | fail
    · refine jm_icN (Y := YX4_isAt) (pc := 24) 1 dX4_isAt_24 rfl ?_
      refine jm_goto (Y := YX4_isAt) (pc := 25) dX4_isAt_25 rfl ?_
      refine jm_ret (Y := YX4_isAt) (pc := 29) (st := []) dX4_isAt_29 rfl rfl ?_
      first | exact jm_bf (by omega) | exact jm_bt (by omega) | fail
theorem t_faulty (t : Nat → Nat) (n : Nat) (M : jm_M) (hn : n ≤ 110) (hb : ∀ i, t i ≤ 255) (h7 : ∀ i, i < n → M 7 i = nI (t i)) (h1 : M 2 1 = nI n) (p : Nat) (f : Int32) (x : Int32) : jm_J none YX4_faulty 0 [some (.ref 2), some (.int x)] [] (TT M p f) (jm_is (some (.int (nI 0))) (TT M p x)) := by
  refine jm_ald_n (Y := YX4_faulty) (pc := 0) (i := 0) dX4_faulty_0 rfl rfl ?_
  refine jm_ild_n (Y := YX4_faulty) (pc := 1) (i := 1) dX4_faulty_1 rfl rfl ?_
  refine jm_put (Y := YX4_faulty) (pc := 2) dX4_faulty_2 fw_RX4_20 rfl (by decide) rfl ?_
  rw [TT_u3]
  refine jm_icN (Y := YX4_faulty) (pc := 5) 0 dX4_faulty_5 rfl ?_
  refine jm_ret (Y := YX4_faulty) (pc := 6) (st := []) dX4_faulty_6 rfl rfl ?_
  exact ⟨rfl, rfl⟩
