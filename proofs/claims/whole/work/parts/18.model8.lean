/-! the reference: acts, images -/
theorem upd_upd (f : Nat → Int32) (k : Nat) (a b : Int32) : upd (upd f k a) k b = upd f k b := by
  funext j
  by_cases h : j = k <;> simp [upd, h]
theorem upd_s (f : Nat → Int32) (k : Nat) (a : Int32) : upd f k a k = a := by simp [upd]
theorem upd_n (f : Nat → Int32) {k j : Nat} (a : Int32) (h : j ≠ k) : upd f k a j = f j := by simp [upd, h]
theorem upd_id {f : Nat → Int32} {k : Nat} {a : Int32} (h : f k = a) : upd f k a = f := by
  funext j
  by_cases e : j = k
  · subst e; simp [upd, h]
  · simp [upd, e]
theorem jm_sfc (M : jm_M) {i j : Nat} (f g : Nat → Int32) (h : i ≠ j) : jm_sf (jm_sf M i f) j g = jm_sf (jm_sf M j g) i f := by
  funext x
  by_cases h1 : x = i
  · subst h1; simp [jm_sf, h]
  · by_cases h2 : x = j
    · subst h2; simp [jm_sf, h1]
    · simp [jm_sf, h1, h2]
/-- the river, the past, how many acts -/
def S3 (M : jm_M) (w pf : Nat → Nat) (a : Nat) : jm_M := jm_sf (jm_sf (jm_sf M 17 (jm_n w)) 20 (jm_n pf)) 11 (upd (M 11) 17 (nI a))
theorem S3_17 {M : jm_M} {w pf : Nat → Nat} {a : Nat} : S3 M w pf a 17 = jm_n w := rfl
theorem S3_20 {M : jm_M} {w pf : Nat → Nat} {a : Nat} : S3 M w pf a 20 = jm_n pf := rfl
theorem S3_11 {M : jm_M} {w pf : Nat → Nat} {a : Nat} : S3 M w pf a 11 = upd (M 11) 17 (nI a) := rfl
theorem S3_a {M : jm_M} {w pf : Nat → Nat} {a : Nat} : S3 M w pf a 11 17 = nI a := by rw [S3_11, upd_s]
theorem S3_at (M : jm_M) (w pf : Nat → Nat) (a j : Nat) : S3 M w pf a j = if j = 11 then upd (M 11) 17 (nI a) else if j = 20 then jm_n pf else if j = 17 then jm_n w else M j := rfl
theorem S3_w (M : jm_M) (w pf w' : Nat → Nat) (a : Nat) : jm_sf (S3 M w pf a) 17 (jm_n w') = S3 M w' pf a := by
  funext j
  show (if j = 17 then jm_n w' else S3 M w pf a j) = _
  rw [S3_at, S3_at]
  by_cases h : j = 17
  · subst h; rfl
  · rw [if_neg h, if_neg h, if_neg h]
theorem S3_p (M : jm_M) (w pf pf' : Nat → Nat) (a : Nat) : jm_sf (S3 M w pf a) 20 (jm_n pf') = S3 M w pf' a := by
  funext j
  show (if j = 20 then jm_n pf' else S3 M w pf a j) = _
  rw [S3_at, S3_at]
  by_cases h : j = 20
  · subst h; rfl
  · rw [if_neg h, if_neg h, if_neg h]
theorem S3_n (M : jm_M) (w pf : Nat → Nat) (a b : Nat) : jm_sf (S3 M w pf a) 11 (upd (S3 M w pf a 11) 17 (nI b)) = S3 M w pf b := by
  rw [S3_11, upd_upd]
  funext j
  show (if j = 11 then _ else S3 M w pf a j) = _
  rw [S3_at, S3_at]
  by_cases h : j = 11
  · subst h; rfl
  · rw [if_neg h, if_neg h, if_neg h]
theorem S3_id {M : jm_M} {w pf : Nat → Nat} {a : Nat} (h1 : M 17 = jm_n w) (h2 : M 20 = jm_n pf) (h3 : M 11 17 = nI a) : S3 M w pf a = M := by
  funext j
  rw [S3_at]
  by_cases e : j = 11
  · subst e; rw [if_pos rfl]; exact upd_id h3
  · rw [if_neg e]
    by_cases e2 : j = 20
    · subst e2; rw [if_pos rfl]; exact h2.symm
    · rw [if_neg e2]
      by_cases e3 : j = 17
      · subst e3; rw [if_pos rfl]; exact h1.symm
      · rw [if_neg e3]
def p_sh (pf : Nat → Nat) (n : Nat) : Nat → Nat := fun j => if j < n then pf (j + 45) else pf j
theorem p_sh_0 (pf : Nat → Nat) : p_sh pf 0 = pf := by funext j; unfold p_sh; rw [if_neg (by omega)]
theorem p_sh_s (pf : Nat → Nat) (n : Nat) : wU (p_sh pf n) n (pf (n + 45)) = p_sh pf (n + 1) := by
  funext j
  unfold wU p_sh
  by_cases h : j = n
  · subst h; rw [if_pos rfl, if_pos (by omega)]
  · rw [if_neg h]
    by_cases h2 : j < n
    · rw [if_pos h2, if_pos (by omega)]
    · rw [if_neg h2, if_neg (by omega)]
def p_na (n : Nat) : Nat := if n = 24 then 24 else n + 1
def p_nt (w pf : Nat → Nat) (n : Nat) : Nat → Nat := if n = 24 then p_cp w (p_sh pf 1035) 0 (45 * 23) 45 else p_cp w pf 0 (45 * n) 45
theorem c_notes2 (M : jm_M) (w pf : Nat → Nat) (n : Nat) (y : Option Value) (hn : n < 24) : jm_J none YX6_notes 49 [some (.ref 11), y] [] (S3 M w pf n) (jm_is none (S3 M w (p_cp w pf 0 (45 * n) 45) (n + 1))) := by
  refine jm_ald_n (Y := YX6_notes) (pc := 49) (i := 0) dX6_notes_49 rfl rfl ?_
  refine jm_getR (Y := YX6_notes) (pc := 50) dX6_notes_50 fr_RX6_25 rfl (by decide) rfl ?_
  refine jm_icN (Y := YX6_notes) (pc := 53) 0 dX6_notes_53 rfl ?_
  refine jm_ald_n (Y := YX6_notes) (pc := 54) (i := 0) dX6_notes_54 rfl rfl ?_
  refine jm_getR (Y := YX6_notes) (pc := 55) dX6_notes_55 fr_RX6_34 rfl (by decide) rfl ?_
  refine jm_bpN (Y := YX6_notes) (pc := 58) 45 dX6_notes_58 rfl ?_
  refine jm_ald_n (Y := YX6_notes) (pc := 60) (i := 0) dX6_notes_60 rfl rfl ?_
  refine jm_getE (Y := YX6_notes) (pc := 61) dX6_notes_61 fw_RX6_139 rfl (by decide) rfl (S3_a) ?_
  rw [show 45 * n = 45 * n from rfl]
  refine jm_mulN (Y := YX6_notes) (pc := 64) dX6_notes_64 ?_
  refine jm_S4ve (Y := YX6_notes) (pc := 65) dX6_notes_65 lk_RX6_135 rfl rfl rfl rfl rfl (by decide) (Nat.le_of_ble_eq_true rfl) ⟨by decide, by decide⟩ ((by have h9 := c_copies 17 20 45 1080 0 (45 * n) w pf (S3 M w pf n) rfl rfl (by decide) S3_17 S3_20 (by decide) (by omega); rw [S3_p] at h9; exact h9)) ?_
  refine jm_ald_n (Y := YX6_notes) (pc := 68) (i := 0) dX6_notes_68 rfl rfl ?_
  refine jm_dup (Y := YX6_notes) (pc := 69) dX6_notes_69 rfl ?_
  refine jm_getE (Y := YX6_notes) (pc := 70) dX6_notes_70 fw_RX6_139 rfl (by decide) rfl (S3_a) ?_
  refine jm_icN (Y := YX6_notes) (pc := 73) 1 dX6_notes_73 rfl ?_
  refine jm_addN (Y := YX6_notes) (pc := 74) dX6_notes_74 ?_
  refine jm_put (Y := YX6_notes) (pc := 75) dX6_notes_75 fw_RX6_139 rfl (by decide) rfl ?_
  rw [S3_n]
  refine jm_retv (Y := YX6_notes) (pc := 78) (st := []) dX6_notes_78 rfl ?_
  exact ⟨rfl, rfl⟩
theorem c_notes1 (M : jm_M) (w pf : Nat → Nat) (Q : Option Value → jm_M → Prop) (K : ∀ y, jm_J none YX6_notes 39 [some (.ref 11), y] [] (S3 M w (p_sh pf 1035) 24) Q) : ∀ (m : Nat) (j : Nat), j ≤ 1035 → 1035 - j < m → jm_J none YX6_notes 11 [some (.ref 11), some (.int (nI j))] [] (S3 M w (p_sh pf j) 24) Q := by
  intro m
  induction m with
  | zero => intros; omega
  | succ m ih =>
    intro j hj hmm
    have er : S3 M w (p_sh pf j) 24 20 (j + 45) = nI (pf (j + 45)) := (by show nI (p_sh pf j (j + 45)) = _; unfold p_sh; rw [if_neg (by omega)])
    refine jm_ild_n (Y := YX6_notes) (pc := 11) (i := 1) dX6_notes_11 rfl rfl ?_
    refine jm_spN (Y := YX6_notes) (pc := 12) 1035 dX6_notes_12 rfl ?_
    refine jm_icmp_geN (Y := YX6_notes) (pc := 15) dX6_notes_15 rfl (by omega) (by omega) (fun h_15 => ?_) (fun h_15 => ?_)
    · have ej : j = 1035 := by omega
      subst ej
      exact K _
    · refine jm_ald_n (Y := YX6_notes) (pc := 18) (i := 0) dX6_notes_18 rfl rfl ?_
      refine jm_getR (Y := YX6_notes) (pc := 19) dX6_notes_19 fr_RX6_34 rfl (by decide) rfl ?_
      refine jm_ild_n (Y := YX6_notes) (pc := 22) (i := 1) dX6_notes_22 rfl rfl ?_
      refine jm_ald_n (Y := YX6_notes) (pc := 23) (i := 0) dX6_notes_23 rfl rfl ?_
      refine jm_getR (Y := YX6_notes) (pc := 24) dX6_notes_24 fr_RX6_34 rfl (by decide) rfl ?_
      refine jm_ild_n (Y := YX6_notes) (pc := 27) (i := 1) dX6_notes_27 rfl rfl ?_
      refine jm_bpN (Y := YX6_notes) (pc := 28) 45 dX6_notes_28 rfl ?_
      refine jm_addN (Y := YX6_notes) (pc := 30) dX6_notes_30 ?_
      refine jm_ialN (Y := YX6_notes) (pc := 31) dX6_notes_31 (by first | assumption | exact jm_arR1 ha | exact jm_arR2 ha | exact jm_arR3 ha | exact jm_arR1 hb | exact jm_arR2 hb | exact jm_arR3 hb | rfl) (by omega) (er) ?_
      refine jm_iasN (Y := YX6_notes) (pc := 32) dX6_notes_32 rfl (by omega) ?_
      have eu : upd (S3 M w (p_sh pf j) 24 20) j (nI (pf (j + 45))) = jm_n (p_sh pf (j + 1)) := (by rw [S3_20, jm_up, p_sh_s])
      rw [eu, S3_p]
      refine jm_incN (Y := YX6_notes) (pc := 33) (m := 1) (ls' := [_, _]) dX6_notes_33 rfl rfl rfl rfl ?_
      refine jm_goto (Y := YX6_notes) (pc := 36) dX6_notes_36 rfl ?_
      exact ih (j + 1) (by omega) (by omega)
theorem c_notes (M : jm_M) (w pf : Nat → Nat) (n : Nat) (hn : n ≤ 24) : jm_J none YX6_notes 0 [some (.ref 11), none] [] (S3 M w pf n) (jm_is none (S3 M w (p_nt w pf n) (p_na n))) := by
  refine jm_ald_n (Y := YX6_notes) (pc := 0) (i := 0) dX6_notes_0 rfl rfl ?_
  refine jm_getE (Y := YX6_notes) (pc := 1) dX6_notes_1 fw_RX6_139 rfl (by decide) rfl (S3_a) ?_
  refine jm_bpN (Y := YX6_notes) (pc := 4) 24 dX6_notes_4 rfl ?_
  refine jm_icmp_neN (Y := YX6_notes) (pc := 6) dX6_notes_6 rfl (by omega) (by omega) (fun h_6 => ?_) (fun h_6 => ?_)
  · have e1 : p_nt w pf n = p_cp w pf 0 (45 * n) 45 := if_neg (by omega)
    have e2 : p_na n = n + 1 := if_neg (by omega)
    rw [e1, e2]
    exact c_notes2 M w pf n _ (by omega)
  · refine jm_icN (Y := YX6_notes) (pc := 9) 0 dX6_notes_9 rfl ?_
    refine jm_ist_n (Y := YX6_notes) (pc := 10) (i := 1) (ls' := [_, _]) dX6_notes_10 rfl (Nat.le_of_ble_eq_true rfl) rfl rfl ?_
    have en : n = 24 := (by omega)
    subst en
    have e0 := p_sh_0 pf
    have h9 : (∀ y, jm_J none YX6_notes 39 [some (.ref 11), y] [] (S3 M w (p_sh pf 1035) 24) (jm_is none (S3 M w (p_nt w pf 24) (p_na 24)))) → jm_J none YX6_notes 11 [some (.ref 11), some (.int (nI 0))] [] (S3 M w pf 24) (jm_is none (S3 M w (p_nt w pf 24) (p_na 24))) := fun K => (by have h8 := c_notes1 M w pf _ K 1036 0 (by omega) (by omega); rw [e0] at h8; exact h8)
    refine h9 (fun y => ?_)
    refine jm_ald_n (Y := YX6_notes) (pc := 39) (i := 0) dX6_notes_39 rfl rfl ?_
    refine jm_dup (Y := YX6_notes) (pc := 40) dX6_notes_40 rfl ?_
    refine jm_getE (Y := YX6_notes) (pc := 41) dX6_notes_41 fw_RX6_139 rfl (by decide) rfl (S3_a) ?_
    refine jm_icN (Y := YX6_notes) (pc := 44) 1 dX6_notes_44 rfl ?_
    refine jm_subN (Y := YX6_notes) (pc := 45) dX6_notes_45 (by omega) ?_
    refine jm_put (Y := YX6_notes) (pc := 46) dX6_notes_46 fw_RX6_139 rfl (by decide) rfl ?_
    rw [S3_n]
    exact c_notes2 M w (p_sh pf 1035) 23 _ (by omega)
def q_say (w : Nat → Nat) (v z c : Int32) : Prop := 0 ≤ v.toInt ∧ v.toInt < w 3 ∧ 1 ≤ z.toInt ∧ z.toInt ≤ 60 ∧ 0 ≤ c.toInt ∧ c.toInt < w 2
theorem c_say (M : jm_M) (w pf : Nat → Nat) (n : Nat) (hg : rG w) (hm : w 4 ≤ 9999) (hn : n ≤ 24) (v z c : Int32) : jm_J none YX6_say 0 [some (.ref 11), some (.int v), some (.int z), some (.int c), none] [] (S3 M w pf n) (fun o M1 => (q_say w v z c → o = some (.int (nI (w (17 + 4 * v.toInt.toNat + 1)))) ∧ M1 = S3 M (p_says w v.toInt.toNat z.toInt.toNat c.toInt.toNat) (p_nt w pf n) (p_na n)) ∧ (¬ q_say w v z c → o = some (.int (-1000001)) ∧ M1 = S3 M w pf n)) := by
  have hb := hg.hb
  have h3 := hg.1.2.2.2.1
  have h2 := hg.1.2.2.1
  refine jm_ald_n (Y := YX6_say) (pc := 0) (i := 0) dX6_say_0 rfl rfl ?_
  refine jm_ild_n (Y := YX6_say) (pc := 1) (i := 1) dX6_say_1 rfl rfl ?_
  refine jm_V1ie (Y := YX6_say) (pc := 2) dX6_say_2 lk_RX6_176 ⟨_, rfl⟩ rfl rfl (by decide) (Nat.le_of_ble_eq_true rfl) ⟨by decide, by decide⟩ (c_isWord w _ S3_17 hg _) ?_
  refine jm_if_eqB (Y := YX6_say) (pc := 5) dX6_say_5 rfl (fun h_5 => ?_) (fun h_5 => ?_)
  · refine jm_ldc (Y := YX6_say) (pc := 26) (v := -1000001) dX6_say_26 kc_RX6_61 ?_
    refine jm_ret (Y := YX6_say) (pc := 28) (st := []) dX6_say_28 rfl rfl ?_
    unfold q_say
    first | exact ⟨fun _ => ⟨by rw [n_k], by rw [n_k, n_zz, n_cc]⟩, fun z => absurd (by omega) z⟩ | exact ⟨fun z => absurd z (by omega), fun _ => ⟨rfl, rfl⟩⟩ | fail
  · refine jm_ild_n (Y := YX6_say) (pc := 8) (i := 2) dX6_say_8 rfl rfl ?_
    refine jm_icN (Y := YX6_say) (pc := 9) 1 dX6_say_9 rfl ?_
    refine jm_bpN (Y := YX6_say) (pc := 10) 60 dX6_say_10 rfl ?_
    refine jm_S3ie (Y := YX6_say) (pc := 12) dX6_say_12 lk_RX6_53 ⟨_, rfl⟩ rfl rfl rfl (by decide) (Nat.le_of_ble_eq_true rfl) ⟨by decide, by decide⟩ (c_inN _ _ _ _ (by decide) (by decide)) ?_
    refine jm_if_eqB (Y := YX6_say) (pc := 15) dX6_say_15 rfl (fun h_15 => ?_) (fun h_15 => ?_)
    · refine jm_ldc (Y := YX6_say) (pc := 26) (v := -1000001) dX6_say_26 kc_RX6_61 ?_
      refine jm_ret (Y := YX6_say) (pc := 28) (st := []) dX6_say_28 rfl rfl ?_
      unfold q_say
      first | exact ⟨fun _ => ⟨by rw [n_k], by rw [n_k, n_zz, n_cc]⟩, fun z => absurd (by omega) z⟩ | exact ⟨fun z => absurd z (by omega), fun _ => ⟨rfl, rfl⟩⟩ | fail
    · refine jm_ald_n (Y := YX6_say) (pc := 18) (i := 0) dX6_say_18 rfl rfl ?_
      refine jm_ild_n (Y := YX6_say) (pc := 19) (i := 3) dX6_say_19 rfl rfl ?_
      refine jm_V1ie (Y := YX6_say) (pc := 20) dX6_say_20 lk_RX6_179 ⟨_, rfl⟩ rfl rfl (by decide) (Nat.le_of_ble_eq_true rfl) ⟨by decide, by decide⟩ (c_isCell w _ S3_17 hg _) ?_
      refine jm_if_neB (Y := YX6_say) (pc := 23) dX6_say_23 rfl (fun h_23 => ?_) (fun h_23 => ?_)
      · obtain ⟨k, h_k, rfl, t_k, n_k⟩ := jm_ofL (v := v) (n := w 3) (by omega) (by omega)
        obtain ⟨zz, h_zz, rfl, t_zz, n_zz⟩ := jm_ofL (v := z) (n := 61) (by omega) (by omega)
        obtain ⟨cc, h_cc, rfl, t_cc, n_cc⟩ := jm_ofL (v := c) (n := w 2) (by omega) (by omega)
        refine jm_ald_n (Y := YX6_say) (pc := 29) (i := 0) dX6_say_29 rfl rfl ?_
        refine jm_V0ve (Y := YX6_say) (pc := 30) dX6_say_30 lk_RX6_165 rfl rfl (by decide) (Nat.le_of_ble_eq_true rfl) ⟨by decide, by decide⟩ (c_notes M w pf _ (by omega)) ?_
        refine jm_ald_n (Y := YX6_say) (pc := 33) (i := 0) dX6_say_33 rfl rfl ?_
        refine jm_getR (Y := YX6_say) (pc := 34) dX6_say_34 fr_RX6_25 rfl (by decide) rfl ?_
        refine jm_bpN (Y := YX6_say) (pc := 37) 17 dX6_say_37 rfl ?_
        refine jm_icN (Y := YX6_say) (pc := 39) 4 dX6_say_39 rfl ?_
        refine jm_ild_n (Y := YX6_say) (pc := 40) (i := 1) dX6_say_40 rfl rfl ?_
        refine jm_mulN (Y := YX6_say) (pc := 41) dX6_say_41 ?_
        refine jm_addN (Y := YX6_say) (pc := 42) dX6_say_42 ?_
        refine jm_icN (Y := YX6_say) (pc := 43) 1 dX6_say_43 rfl ?_
        refine jm_addN (Y := YX6_say) (pc := 44) dX6_say_44 ?_
        refine jm_ialN (Y := YX6_say) (pc := 45) dX6_say_45 (by first | assumption | exact jm_arR1 ha | exact jm_arR2 ha | exact jm_arR3 ha | exact jm_arR1 hb | exact jm_arR2 hb | exact jm_arR3 hb | rfl) (by first | omega | exact jm_lt hb _) (by first | assumption | exact jm_rdN S3_17 | rfl) ?_
        refine jm_ist (Y := YX6_say) (pc := 46) (ls' := [_, _, _, _, _]) dX6_say_46 (Nat.le_of_ble_eq_true rfl) rfl rfl ?_
        refine jm_ald_n (Y := YX6_say) (pc := 48) (i := 0) dX6_say_48 rfl rfl ?_
        refine jm_getR (Y := YX6_say) (pc := 49) dX6_say_49 fr_RX6_25 rfl (by decide) rfl ?_
        refine jm_ild_n (Y := YX6_say) (pc := 52) (i := 1) dX6_say_52 rfl rfl ?_
        refine jm_ild_n (Y := YX6_say) (pc := 53) (i := 2) dX6_say_53 rfl rfl ?_
        refine jm_ild_n (Y := YX6_say) (pc := 54) (i := 3) dX6_say_54 rfl rfl ?_
        refine jm_S4ve (Y := YX6_say) (pc := 55) dX6_say_55 lk_RX6_182 rfl rfl rfl rfl rfl (by decide) (Nat.le_of_ble_eq_true rfl) ⟨by decide, by decide⟩ ((by have h9 := c_says 17 w k zz cc (S3 M w (p_nt w pf n) (p_na n)) rfl S3_17 (by omega); rw [S3_w] at h9; exact h9)) ?_
        refine jm_iload (Y := YX6_say) (pc := 58) dX6_say_58 rfl ?_
        refine jm_ret (Y := YX6_say) (pc := 60) (st := []) dX6_say_60 rfl rfl ?_
        unfold q_say
        first | exact ⟨fun _ => ⟨by rw [n_k], by rw [n_k, n_zz, n_cc]⟩, fun z => absurd (by omega) z⟩ | exact ⟨fun z => absurd z (by omega), fun _ => ⟨rfl, rfl⟩⟩ | fail
      · refine jm_ldc (Y := YX6_say) (pc := 26) (v := -1000001) dX6_say_26 kc_RX6_61 ?_
        refine jm_ret (Y := YX6_say) (pc := 28) (st := []) dX6_say_28 rfl rfl ?_
        unfold q_say
        first | exact ⟨fun _ => ⟨by rw [n_k], by rw [n_k, n_zz, n_cc]⟩, fun z => absurd (by omega) z⟩ | exact ⟨fun z => absurd z (by omega), fun _ => ⟨rfl, rfl⟩⟩ | fail
def q_speed (w : Nat → Nat) (c v : Int32) : Prop := 0 ≤ c.toInt ∧ c.toInt < w 2 ∧ 0 ≤ v.toInt ∧ v.toInt ≤ 3
theorem c_speed (M : jm_M) (w pf : Nat → Nat) (n : Nat) (hg : rG w) (hm : w 4 ≤ 9999) (hn : n ≤ 24) (c v : Int32) : jm_J none YX6_speed 0 [some (.ref 11), some (.int c), some (.int v), none] [] (S3 M w pf n) (fun o M1 => (q_speed w c v → o = some (.int (nI (w (5 + c.toInt.toNat)))) ∧ M1 = S3 M (wU w (5 + c.toInt.toNat) v.toInt.toNat) (p_nt w pf n) (p_na n)) ∧ (¬ q_speed w c v → o = some (.int (-1000001)) ∧ M1 = S3 M w pf n)) := by
  have hb := hg.hb
  have h3 := hg.1.2.2.2.1
  have h2 := hg.1.2.2.1
  refine jm_ald_n (Y := YX6_speed) (pc := 0) (i := 0) dX6_speed_0 rfl rfl ?_
  refine jm_ild_n (Y := YX6_speed) (pc := 1) (i := 1) dX6_speed_1 rfl rfl ?_
  refine jm_V1ie (Y := YX6_speed) (pc := 2) dX6_speed_2 lk_RX6_179 ⟨_, rfl⟩ rfl rfl (by decide) (Nat.le_of_ble_eq_true rfl) ⟨by decide, by decide⟩ (c_isCell w _ S3_17 hg _) ?_
  refine jm_if_eqB (Y := YX6_speed) (pc := 5) dX6_speed_5 rfl (fun h_5 => ?_) (fun h_5 => ?_)
  · refine jm_ldc (Y := YX6_speed) (pc := 17) (v := -1000001) dX6_speed_17 kc_RX6_61 ?_
    refine jm_ret (Y := YX6_speed) (pc := 19) (st := []) dX6_speed_19 rfl rfl ?_
    unfold q_speed
    first | exact ⟨fun _ => ⟨by rw [n_k], by rw [n_k, n_z]⟩, fun z => absurd (by omega) z⟩ | exact ⟨fun z => absurd z (by omega), fun _ => ⟨rfl, rfl⟩⟩ | fail
  · refine jm_ild_n (Y := YX6_speed) (pc := 8) (i := 2) dX6_speed_8 rfl rfl ?_
    refine jm_icN (Y := YX6_speed) (pc := 9) 0 dX6_speed_9 rfl ?_
    refine jm_icN (Y := YX6_speed) (pc := 10) 3 dX6_speed_10 rfl ?_
    refine jm_S3ie (Y := YX6_speed) (pc := 11) dX6_speed_11 lk_RX6_53 ⟨_, rfl⟩ rfl rfl rfl (by decide) (Nat.le_of_ble_eq_true rfl) ⟨by decide, by decide⟩ (c_inN _ _ _ _ (by decide) (by decide)) ?_
    refine jm_if_neB (Y := YX6_speed) (pc := 14) dX6_speed_14 rfl (fun h_14 => ?_) (fun h_14 => ?_)
    · obtain ⟨k, h_k, rfl, t_k, n_k⟩ := jm_ofL (v := c) (n := w 2) (by omega) (by omega)
      obtain ⟨z, h_z, rfl, t_z, n_z⟩ := jm_ofL (v := v) (n := 4) (by omega) (by omega)
      refine jm_ald_n (Y := YX6_speed) (pc := 20) (i := 0) dX6_speed_20 rfl rfl ?_
      refine jm_V0ve (Y := YX6_speed) (pc := 21) dX6_speed_21 lk_RX6_165 rfl rfl (by decide) (Nat.le_of_ble_eq_true rfl) ⟨by decide, by decide⟩ (c_notes M w pf _ (by omega)) ?_
      refine jm_ald_n (Y := YX6_speed) (pc := 24) (i := 0) dX6_speed_24 rfl rfl ?_
      refine jm_getR (Y := YX6_speed) (pc := 25) dX6_speed_25 fr_RX6_25 rfl (by decide) rfl ?_
      refine jm_icN (Y := YX6_speed) (pc := 28) 5 dX6_speed_28 rfl ?_
      refine jm_ild_n (Y := YX6_speed) (pc := 29) (i := 1) dX6_speed_29 rfl rfl ?_
      refine jm_addN (Y := YX6_speed) (pc := 30) dX6_speed_30 ?_
      refine jm_ialN (Y := YX6_speed) (pc := 31) dX6_speed_31 (by first | assumption | exact jm_arR1 ha | exact jm_arR2 ha | exact jm_arR3 ha | exact jm_arR1 hb | exact jm_arR2 hb | exact jm_arR3 hb | rfl) (by first | omega | exact jm_lt hb _) (by first | assumption | exact jm_rdN S3_17 | rfl) ?_
      refine jm_ist_n (Y := YX6_speed) (pc := 32) (i := 3) (ls' := [_, _, _, _]) dX6_speed_32 rfl (Nat.le_of_ble_eq_true rfl) rfl rfl ?_
      refine jm_ald_n (Y := YX6_speed) (pc := 33) (i := 0) dX6_speed_33 rfl rfl ?_
      refine jm_getR (Y := YX6_speed) (pc := 34) dX6_speed_34 fr_RX6_25 rfl (by decide) rfl ?_
      refine jm_icN (Y := YX6_speed) (pc := 37) 5 dX6_speed_37 rfl ?_
      refine jm_ild_n (Y := YX6_speed) (pc := 38) (i := 1) dX6_speed_38 rfl rfl ?_
      refine jm_addN (Y := YX6_speed) (pc := 39) dX6_speed_39 ?_
      refine jm_ild_n (Y := YX6_speed) (pc := 40) (i := 2) dX6_speed_40 rfl rfl ?_
      refine jm_iasN (Y := YX6_speed) (pc := 41) dX6_speed_41 rfl (by omega) ?_
      rw [S3_17, jm_up, S3_w]
      refine jm_ild_n (Y := YX6_speed) (pc := 42) (i := 3) dX6_speed_42 rfl rfl ?_
      refine jm_ret (Y := YX6_speed) (pc := 43) (st := []) dX6_speed_43 rfl rfl ?_
      unfold q_speed
      first | exact ⟨fun _ => ⟨by rw [n_k], by rw [n_k, n_z]⟩, fun z => absurd (by omega) z⟩ | exact ⟨fun z => absurd z (by omega), fun _ => ⟨rfl, rfl⟩⟩ | fail
    · refine jm_ldc (Y := YX6_speed) (pc := 17) (v := -1000001) dX6_speed_17 kc_RX6_61 ?_
      refine jm_ret (Y := YX6_speed) (pc := 19) (st := []) dX6_speed_19 rfl rfl ?_
      unfold q_speed
      first | exact ⟨fun _ => ⟨by rw [n_k], by rw [n_k, n_z]⟩, fun z => absurd (by omega) z⟩ | exact ⟨fun z => absurd z (by omega), fun _ => ⟨rfl, rfl⟩⟩ | fail
theorem c_rain (M : jm_M) (w pf : Nat → Nat) (n : Nat) (hg : rG w) (hm : w 4 ≤ 9999) (hn : n ≤ 24) (v : Int32) : jm_J none YX6_rain 0 [some (.ref 11), some (.int v), none] [] (S3 M w pf n) (fun o M1 => if w 2 = 0 then o = some (.int (-1000002)) ∧ M1 = S3 M w pf n else if 0 ≤ v.toInt ∧ v.toInt ≤ 15 then o = some (.int (nI (w 0))) ∧ M1 = S3 M (wU w 0 v.toInt.toNat) (p_nt w pf n) (p_na n) else o = some (.int (-1000001)) ∧ M1 = S3 M w pf n) := by
  have hb := hg.hb
  have h3 := hg.1.2.2.2.1
  have h2 := hg.1.2.2.1
  refine jm_ald_n (Y := YX6_rain) (pc := 0) (i := 0) dX6_rain_0 rfl rfl ?_
  refine jm_V0ie (Y := YX6_rain) (pc := 1) dX6_rain_1 lk_RX6_161 ⟨_, rfl⟩ rfl (by decide) (Nat.le_of_ble_eq_true rfl) ⟨by decide, by decide⟩ (c_isRiver w _ S3_17 hg) ?_
  refine jm_if_neB (Y := YX6_rain) (pc := 4) dX6_rain_4 rfl (fun h_4 => ?_) (fun h_4 => ?_)
  · refine jm_ild_n (Y := YX6_rain) (pc := 10) (i := 1) dX6_rain_10 rfl rfl ?_
    refine jm_icN (Y := YX6_rain) (pc := 11) 0 dX6_rain_11 rfl ?_
    refine jm_bpN (Y := YX6_rain) (pc := 12) 15 dX6_rain_12 rfl ?_
    refine jm_S3ie (Y := YX6_rain) (pc := 14) dX6_rain_14 lk_RX6_53 ⟨_, rfl⟩ rfl rfl rfl (by decide) (Nat.le_of_ble_eq_true rfl) ⟨by decide, by decide⟩ (c_inN _ _ _ _ (by decide) (by decide)) ?_
    refine jm_if_neB (Y := YX6_rain) (pc := 17) dX6_rain_17 rfl (fun h_17 => ?_) (fun h_17 => ?_)
    · obtain ⟨z, h_z, rfl, t_z, n_z⟩ := jm_ofL (v := v) (n := 16) (by omega) (by omega)
      refine jm_ald_n (Y := YX6_rain) (pc := 23) (i := 0) dX6_rain_23 rfl rfl ?_
      refine jm_V0ve (Y := YX6_rain) (pc := 24) dX6_rain_24 lk_RX6_165 rfl rfl (by decide) (Nat.le_of_ble_eq_true rfl) ⟨by decide, by decide⟩ (c_notes M w pf _ (by omega)) ?_
      refine jm_ald_n (Y := YX6_rain) (pc := 27) (i := 0) dX6_rain_27 rfl rfl ?_
      refine jm_getR (Y := YX6_rain) (pc := 28) dX6_rain_28 fr_RX6_25 rfl (by decide) rfl ?_
      refine jm_icN (Y := YX6_rain) (pc := 31) 0 dX6_rain_31 rfl ?_
      refine jm_ialN (Y := YX6_rain) (pc := 32) dX6_rain_32 (by first | assumption | exact jm_arR1 ha | exact jm_arR2 ha | exact jm_arR3 ha | exact jm_arR1 hb | exact jm_arR2 hb | exact jm_arR3 hb | rfl) (by first | omega | exact jm_lt hb _) (by first | assumption | exact jm_rdN S3_17 | rfl) ?_
      refine jm_ist_n (Y := YX6_rain) (pc := 33) (i := 2) (ls' := [_, _, _]) dX6_rain_33 rfl (Nat.le_of_ble_eq_true rfl) rfl rfl ?_
      refine jm_ald_n (Y := YX6_rain) (pc := 34) (i := 0) dX6_rain_34 rfl rfl ?_
      refine jm_getR (Y := YX6_rain) (pc := 35) dX6_rain_35 fr_RX6_25 rfl (by decide) rfl ?_
      refine jm_icN (Y := YX6_rain) (pc := 38) 0 dX6_rain_38 rfl ?_
      refine jm_ild_n (Y := YX6_rain) (pc := 39) (i := 1) dX6_rain_39 rfl rfl ?_
      refine jm_iasN (Y := YX6_rain) (pc := 40) dX6_rain_40 rfl (by omega) ?_
      rw [S3_17, jm_up, S3_w]
      refine jm_ild_n (Y := YX6_rain) (pc := 41) (i := 2) dX6_rain_41 rfl rfl ?_
      refine jm_ret (Y := YX6_rain) (pc := 42) (st := []) dX6_rain_42 rfl rfl ?_
      first | (rw [if_pos (by omega)]; exact ⟨rfl, rfl⟩) | (rw [if_neg (by omega), if_pos (by omega), n_z]; exact ⟨rfl, rfl⟩) | (rw [if_neg (by omega), if_neg (by omega)]; exact ⟨rfl, rfl⟩) | fail
    · refine jm_ldc (Y := YX6_rain) (pc := 20) (v := -1000001) dX6_rain_20 kc_RX6_61 ?_
      refine jm_ret (Y := YX6_rain) (pc := 22) (st := []) dX6_rain_22 rfl rfl ?_
      first | (rw [if_pos (by omega)]; exact ⟨rfl, rfl⟩) | (rw [if_neg (by omega), if_pos (by omega), n_z]; exact ⟨rfl, rfl⟩) | (rw [if_neg (by omega), if_neg (by omega)]; exact ⟨rfl, rfl⟩) | fail
  · refine jm_ldc (Y := YX6_rain) (pc := 7) (v := -1000002) dX6_rain_7 kc_RX6_164 ?_
    refine jm_ret (Y := YX6_rain) (pc := 9) (st := []) dX6_rain_9 rfl rfl ?_
    first | (rw [if_pos (by omega)]; exact ⟨rfl, rfl⟩) | (rw [if_neg (by omega), if_pos (by omega), n_z]; exact ⟨rfl, rfl⟩) | (rw [if_neg (by omega), if_neg (by omega)]; exact ⟨rfl, rfl⟩) | fail
theorem c_undo (M : jm_M) (w pf : Nat → Nat) (n : Nat) (hg : rG w) (hm : w 4 ≤ 9999) (hn : n ≤ 24)  : jm_J none YX6_undo 0 [some (.ref 11)] [] (S3 M w pf n) (fun o M1 => if n = 0 then o = some (.int (-1000002)) ∧ M1 = S3 M w pf n else o = some (.int (nI (n - 1))) ∧ M1 = S3 M (p_cp pf w (45 * (n - 1)) 0 45) pf (n - 1)) := by
  have hb := hg.hb
  have h3 := hg.1.2.2.2.1
  have h2 := hg.1.2.2.1
  refine jm_ald_n (Y := YX6_undo) (pc := 0) (i := 0) dX6_undo_0 rfl rfl ?_
  first | refine jm_getE (Y := YX6_undo) (pc := 1) dX6_undo_1 fw_RX6_139 rfl (by decide) rfl (by assumption) ?_ | refine jm_getE (Y := YX6_undo) (pc := 1) dX6_undo_1 fw_RX6_139 rfl (by decide) rfl (by exact S3_a) ?_ | refine jm_getI (Y := YX6_undo) (pc := 1) dX6_undo_1 fw_RX6_139.F rfl (by decide) rfl ?_ | fail
  refine jm_if_neN (Y := YX6_undo) (pc := 4) dX6_undo_4 rfl (by first | omega | exact jm_lt hb _) (fun h_4 => ?_) (fun h_4 => ?_)
  · refine jm_ald_n (Y := YX6_undo) (pc := 10) (i := 0) dX6_undo_10 rfl rfl ?_
    refine jm_dup (Y := YX6_undo) (pc := 11) dX6_undo_11 rfl ?_
    first | refine jm_getE (Y := YX6_undo) (pc := 12) dX6_undo_12 fw_RX6_139 rfl (by decide) rfl (by assumption) ?_ | refine jm_getE (Y := YX6_undo) (pc := 12) dX6_undo_12 fw_RX6_139 rfl (by decide) rfl (by exact S3_a) ?_ | refine jm_getI (Y := YX6_undo) (pc := 12) dX6_undo_12 fw_RX6_139.F rfl (by decide) rfl ?_ | fail
    refine jm_icN (Y := YX6_undo) (pc := 15) 1 dX6_undo_15 rfl ?_
    refine jm_subN (Y := YX6_undo) (pc := 16) dX6_undo_16 (by first | omega | exact jm_lt hb _) ?_
    refine jm_put (Y := YX6_undo) (pc := 17) dX6_undo_17 fw_RX6_139 rfl (by decide) rfl ?_
    rw [S3_n]
    refine jm_ald_n (Y := YX6_undo) (pc := 20) (i := 0) dX6_undo_20 rfl rfl ?_
    refine jm_getR (Y := YX6_undo) (pc := 21) dX6_undo_21 fr_RX6_34 rfl (by decide) rfl ?_
    refine jm_bpN (Y := YX6_undo) (pc := 24) 45 dX6_undo_24 rfl ?_
    refine jm_ald_n (Y := YX6_undo) (pc := 26) (i := 0) dX6_undo_26 rfl rfl ?_
    first | refine jm_getE (Y := YX6_undo) (pc := 27) dX6_undo_27 fw_RX6_139 rfl (by decide) rfl (by assumption) ?_ | refine jm_getE (Y := YX6_undo) (pc := 27) dX6_undo_27 fw_RX6_139 rfl (by decide) rfl (by exact S3_a) ?_ | refine jm_getI (Y := YX6_undo) (pc := 27) dX6_undo_27 fw_RX6_139.F rfl (by decide) rfl ?_ | fail
    refine jm_mulN (Y := YX6_undo) (pc := 30) dX6_undo_30 ?_
    refine jm_ald_n (Y := YX6_undo) (pc := 31) (i := 0) dX6_undo_31 rfl rfl ?_
    refine jm_getR (Y := YX6_undo) (pc := 32) dX6_undo_32 fr_RX6_25 rfl (by decide) rfl ?_
    refine jm_icN (Y := YX6_undo) (pc := 35) 0 dX6_undo_35 rfl ?_
    refine jm_S4ve (Y := YX6_undo) (pc := 36) dX6_undo_36 lk_RX6_135 rfl rfl rfl rfl rfl (by decide) (Nat.le_of_ble_eq_true rfl) ⟨by decide, by decide⟩ ((by have h9 := c_copies 20 17 1080 45 (45 * (n - 1)) 0 pf w (S3 M w pf (n - 1)) rfl rfl (by decide) S3_20 S3_17 (by omega) (by decide); rw [S3_w] at h9; exact h9)) ?_
    refine jm_ald_n (Y := YX6_undo) (pc := 39) (i := 0) dX6_undo_39 rfl rfl ?_
    first | refine jm_getE (Y := YX6_undo) (pc := 40) dX6_undo_40 fw_RX6_139 rfl (by decide) rfl (by assumption) ?_ | refine jm_getE (Y := YX6_undo) (pc := 40) dX6_undo_40 fw_RX6_139 rfl (by decide) rfl (by exact S3_a) ?_ | refine jm_getI (Y := YX6_undo) (pc := 40) dX6_undo_40 fw_RX6_139.F rfl (by decide) rfl ?_ | fail
    refine jm_ret (Y := YX6_undo) (pc := 43) (st := []) dX6_undo_43 rfl rfl ?_
    first | (rw [if_pos (by omega)]; exact ⟨rfl, rfl⟩) | (rw [if_neg (by omega)]; exact ⟨rfl, rfl⟩) | fail
  · refine jm_ldc (Y := YX6_undo) (pc := 7) (v := -1000002) dX6_undo_7 kc_RX6_164 ?_
    refine jm_ret (Y := YX6_undo) (pc := 9) (st := []) dX6_undo_9 rfl rfl ?_
    first | (rw [if_pos (by omega)]; exact ⟨rfl, rfl⟩) | (rw [if_neg (by omega)]; exact ⟨rfl, rfl⟩) | fail
def p_mp (w pf : Nat → Nat) (n : Nat) : Nat → (Nat → Nat) × Nat
  | 0 => (pf, n)
  | k + 1 => (p_nt (p_on w k) (p_mp w pf n k).1 (p_mp w pf n k).2, p_na (p_mp w pf n k).2)
theorem p_na_le {n : Nat} (h : n ≤ 24) : p_na n ≤ 24 := by unfold p_na; split <;> omega
theorem p_mp_le {w pf : Nat → Nat} {n : Nat} (h : n ≤ 24) : ∀ k, (p_mp w pf n k).2 ≤ 24
  | 0 => h
  | k + 1 => p_na_le (p_mp_le h k)
theorem c_minutes0 (M : jm_M) (w pf : Nat → Nat) (n : Nat) (hg : rG w) (hm : w 4 ≤ 9999) (hn : n ≤ 24) (N : Nat) (hN : N ≤ 24) : ∀ (m : Nat) (k : Nat), k ≤ N → N - k < m → jm_J none YX6_minutes 42 [some (.ref 11), some (.int (nI N)), some (.int (nI k))] [] (S3 M (p_on w k) (p_mp w pf n k).1 (p_mp w pf n k).2) (jm_is (some (.int (nI (p_gn (p_on w N) (w 3))))) (S3 M (p_on w N) (p_mp w pf n N).1 (p_mp w pf n N).2)) := by
  intro m
  induction m with
  | zero => intros; omega
  | succ m ih =>
    intro k hk hmm
    have hG := p_on_rG hg k (by omega)
    have h3 := hg.1.2.2.2.1
    have hl := p_mp_le (w := w) (pf := pf) hn k
    refine jm_ild_n (Y := YX6_minutes) (pc := 42) (i := 2) dX6_minutes_42 rfl rfl ?_
    refine jm_ild_n (Y := YX6_minutes) (pc := 43) (i := 1) dX6_minutes_43 rfl rfl ?_
    refine jm_icmp_geN (Y := YX6_minutes) (pc := 44) dX6_minutes_44 rfl (by omega) (by omega) (fun h_44 => ?_) (fun h_44 => ?_)
    · refine jm_ald_n (Y := YX6_minutes) (pc := 64) (i := 0) dX6_minutes_64 rfl rfl ?_
      refine jm_getR (Y := YX6_minutes) (pc := 65) dX6_minutes_65 fr_RX6_25 rfl (by decide) rfl ?_
      refine jm_S1ie (Y := YX6_minutes) (pc := 68) dX6_minutes_68 lk_RX6_172 ⟨_, rfl⟩ rfl (by decide) (Nat.le_of_ble_eq_true rfl) ⟨by decide, by decide⟩ (c_goneOf 17 (p_on w k) _ rfl S3_17 hG) ?_
      refine jm_ret (Y := YX6_minutes) (pc := 71) (st := []) dX6_minutes_71 rfl rfl ?_
      have ek : k = N := by omega
      subst ek
      exact ⟨by rw [p_on_hd w (by decide) (by decide)], rfl⟩
    · refine jm_ald_n (Y := YX6_minutes) (pc := 47) (i := 0) dX6_minutes_47 rfl rfl ?_
      refine jm_V0ve (Y := YX6_minutes) (pc := 48) dX6_minutes_48 lk_RX6_165 rfl rfl (by decide) (Nat.le_of_ble_eq_true rfl) ⟨by decide, by decide⟩ (c_notes M (p_on w k) _ _ hl) ?_
      refine jm_ald_n (Y := YX6_minutes) (pc := 51) (i := 0) dX6_minutes_51 rfl rfl ?_
      refine jm_getR (Y := YX6_minutes) (pc := 52) dX6_minutes_52 fr_RX6_25 rfl (by decide) rfl ?_
      refine jm_S1ve (Y := YX6_minutes) (pc := 55) dX6_minutes_55 lk_RX6_168 rfl rfl (by decide) (Nat.le_of_ble_eq_true rfl) ⟨by decide, by decide⟩ ((by have h9 := c_passes 17 (p_on w k) (S3 M (p_on w k) (p_nt (p_on w k) (p_mp w pf n k).1 (p_mp w pf n k).2) (p_na (p_mp w pf n k).2)) rfl S3_17 hG; rw [S3_w] at h9; exact h9)) ?_
      refine jm_incN (Y := YX6_minutes) (pc := 58) (m := 1) (ls' := [_, _, _]) dX6_minutes_58 rfl rfl rfl rfl ?_
      refine jm_goto (Y := YX6_minutes) (pc := 61) dX6_minutes_61 rfl ?_
      exact ih (k + 1) (by omega) (by omega)
theorem c_minutes (M : jm_M) (w pf : Nat → Nat) (n : Nat) (hg : rG w) (hm : w 4 ≤ 9999) (hn : n ≤ 24) (v : Int32) : jm_J none YX6_minutes 0 [some (.ref 11), some (.int v), none] [] (S3 M w pf n) (fun o M1 => if w 2 = 0 then o = some (.int (-1000002)) ∧ M1 = S3 M w pf n else if 1 ≤ v.toInt ∧ v.toInt ≤ 24 then (if w 4 + v.toInt.toNat ≤ 9999 then o = some (.int (nI (p_gn (p_on w v.toInt.toNat) (w 3)))) ∧ M1 = S3 M (p_on w v.toInt.toNat) (p_mp w pf n v.toInt.toNat).1 (p_mp w pf n v.toInt.toNat).2 else o = some (.int (-1000003)) ∧ M1 = S3 M w pf n) else o = some (.int (-1000001)) ∧ M1 = S3 M w pf n) := by
  have hb := hg.hb
  have h3 := hg.1.2.2.2.1
  have h2 := hg.1.2.2.1
  refine jm_ald_n (Y := YX6_minutes) (pc := 0) (i := 0) dX6_minutes_0 rfl rfl ?_
  refine jm_V0ie (Y := YX6_minutes) (pc := 1) dX6_minutes_1 lk_RX6_161 ⟨_, rfl⟩ rfl (by decide) (Nat.le_of_ble_eq_true rfl) ⟨by decide, by decide⟩ (c_isRiver w _ S3_17 hg) ?_
  refine jm_if_neB (Y := YX6_minutes) (pc := 4) dX6_minutes_4 rfl (fun h_4 => ?_) (fun h_4 => ?_)
  · refine jm_ild_n (Y := YX6_minutes) (pc := 10) (i := 1) dX6_minutes_10 rfl rfl ?_
    refine jm_icN (Y := YX6_minutes) (pc := 11) 1 dX6_minutes_11 rfl ?_
    refine jm_bpN (Y := YX6_minutes) (pc := 12) 24 dX6_minutes_12 rfl ?_
    refine jm_S3ie (Y := YX6_minutes) (pc := 14) dX6_minutes_14 lk_RX6_53 ⟨_, rfl⟩ rfl rfl rfl (by decide) (Nat.le_of_ble_eq_true rfl) ⟨by decide, by decide⟩ (c_inN _ _ _ _ (by decide) (by decide)) ?_
    refine jm_if_neB (Y := YX6_minutes) (pc := 17) dX6_minutes_17 rfl (fun h_17 => ?_) (fun h_17 => ?_)
    · obtain ⟨N, h_N, rfl, t_N, n_N⟩ := jm_ofL (v := v) (n := 25) (by omega) (by omega)
      refine jm_ald_n (Y := YX6_minutes) (pc := 23) (i := 0) dX6_minutes_23 rfl rfl ?_
      refine jm_getR (Y := YX6_minutes) (pc := 24) dX6_minutes_24 fr_RX6_25 rfl (by decide) rfl ?_
      refine jm_icN (Y := YX6_minutes) (pc := 27) 4 dX6_minutes_27 rfl ?_
      refine jm_ialN (Y := YX6_minutes) (pc := 28) dX6_minutes_28 (by first | assumption | exact jm_arR1 ha | exact jm_arR2 ha | exact jm_arR3 ha | exact jm_arR1 hb | exact jm_arR2 hb | exact jm_arR3 hb | rfl) (by first | omega | exact jm_lt hb _) (by first | assumption | exact jm_rdN S3_17 | rfl) ?_
      refine jm_ild_n (Y := YX6_minutes) (pc := 29) (i := 1) dX6_minutes_29 rfl rfl ?_
      refine jm_addN (Y := YX6_minutes) (pc := 30) dX6_minutes_30 ?_
      refine jm_spN (Y := YX6_minutes) (pc := 31) 9999 dX6_minutes_31 rfl ?_
      refine jm_icmp_leN (Y := YX6_minutes) (pc := 34) dX6_minutes_34 rfl (by first | omega | exact jm_lt hb _) (by first | omega | exact jm_lt hb _) (fun h_34 => ?_) (fun h_34 => ?_)
      · refine jm_icN (Y := YX6_minutes) (pc := 40) 0 dX6_minutes_40 rfl ?_
        refine jm_ist_n (Y := YX6_minutes) (pc := 41) (i := 2) (ls' := [_, _, _]) dX6_minutes_41 rfl (Nat.le_of_ble_eq_true rfl) rfl rfl ?_
        refine jm_wk (Y := YX6_minutes) (pc := 42) (c_minutes0 M w pf n hg hm hn N (by omega) (N + 1) 0 (by omega) (by omega)) (fun o M1 q => ?_)
        rw [if_neg (by omega), if_pos (by omega), n_N, if_pos h_34]
        exact q
      · refine jm_ldc (Y := YX6_minutes) (pc := 37) (v := -1000003) dX6_minutes_37 kc_RX6_82 ?_
        refine jm_ret (Y := YX6_minutes) (pc := 39) (st := []) dX6_minutes_39 rfl rfl ?_
        first | (rw [if_pos (by omega)]; exact ⟨rfl, rfl⟩) | (rw [if_neg (by omega), if_pos (by omega), n_N, if_neg (by omega)]; exact ⟨rfl, rfl⟩) | (rw [if_neg (by omega), if_neg (by omega)]; exact ⟨rfl, rfl⟩) | fail
    · refine jm_ldc (Y := YX6_minutes) (pc := 20) (v := -1000001) dX6_minutes_20 kc_RX6_61 ?_
      refine jm_ret (Y := YX6_minutes) (pc := 22) (st := []) dX6_minutes_22 rfl rfl ?_
      first | (rw [if_pos (by omega)]; exact ⟨rfl, rfl⟩) | (rw [if_neg (by omega), if_pos (by omega), n_N, if_neg (by omega)]; exact ⟨rfl, rfl⟩) | (rw [if_neg (by omega), if_neg (by omega)]; exact ⟨rfl, rfl⟩) | fail
  · refine jm_ldc (Y := YX6_minutes) (pc := 7) (v := -1000002) dX6_minutes_7 kc_RX6_164 ?_
    refine jm_ret (Y := YX6_minutes) (pc := 9) (st := []) dX6_minutes_9 rfl rfl ?_
    first | (rw [if_pos (by omega)]; exact ⟨rfl, rfl⟩) | (rw [if_neg (by omega), if_pos (by omega), n_N, if_neg (by omega)]; exact ⟨rfl, rfl⟩) | (rw [if_neg (by omega), if_neg (by omega)]; exact ⟨rfl, rfl⟩) | fail
