/-! the reference: what a minute does to a row; its loops -/
def p_half (w : Nat → Nat) (k : Nat) : Nat :=
  if w (17 + 4 * k) = 2 then (if w (17 + 4 * k + 2) ≤ w 1 ∧ w 1 < p_to w k then w (17 + 4 * k + 1) / 2 else w (17 + 4 * k + 1)) - 1
  else (if w (17 + 4 * k + 2) ≤ w 1 ∧ w 1 < p_to w k then w (17 + 4 * k + 1) / 2 else w (17 + 4 * k + 1))
def p_sz (w : Nat → Nat) (k : Nat) : Nat := if w 2 ≤ p_to w k then 0 else p_half w k
def p_cl (w : Nat → Nat) (k : Nat) : Nat := if w 2 ≤ p_to w k then w (17 + 4 * k + 2) else p_to w k
theorem p_g1_at (w : Nat → Nat) (k f t j : Nat) : p_g1 w k f t j = if j = 17 + 4 * k + 1 then (if f ≤ w 1 ∧ w 1 < t then w (17 + 4 * k + 1) / 2 else w (17 + 4 * k + 1)) else w j := by
  unfold p_g1
  by_cases h : f ≤ w 1 ∧ w 1 < t
  · rw [if_pos h, if_pos h]; rfl
  · rw [if_neg h, if_neg h]
    by_cases hj : j = 17 + 4 * k + 1
    · rw [if_pos hj, hj]
    · rw [if_neg hj]
theorem p_g2_at (w : Nat → Nat) (k j : Nat) : p_g2 w k j = if j = 17 + 4 * k + 1 then (if w (17 + 4 * k) = 2 then w (17 + 4 * k + 1) - 1 else w (17 + 4 * k + 1)) else w j := by
  unfold p_g2
  by_cases h : w (17 + 4 * k) = 2 ∧ 0 < w (17 + 4 * k + 1)
  · rw [if_pos h, if_pos h.1]; rfl
  · rw [if_neg h]
    by_cases hj : j = 17 + 4 * k + 1
    · rw [if_pos hj, hj]
      by_cases h2 : w (17 + 4 * k) = 2
      · rw [if_pos h2]; omega
      · rw [if_neg h2]
    · rw [if_neg hj]
theorem p_goes_at (w : Nat → Nat) (k j : Nat) : p_goes w k j = if j = 17 + 4 * k + 1 then p_sz w k else if j = 17 + 4 * k + 2 then p_cl w k else if j = 17 + 4 * k + 3 then (if p_sz w k = 0 then 1 else 0) else w j := by
  have n1 : ¬ (17 + 4 * k + 1 = 17 + 4 * k + 2) := by omega
  have n2 : ¬ (17 + 4 * k + 1 = 17 + 4 * k + 3) := by omega
  have n3 : ¬ (17 + 4 * k = 17 + 4 * k + 1) := by omega
  have hs : p_g4 (p_g3 (p_g2 (p_g1 w k (w (17 + 4 * k + 2)) (p_to w k)) k) k (w (17 + 4 * k + 2)) (p_to w k)) k (w 2) (p_to w k) (17 + 4 * k + 1) = p_sz w k := by
    unfold p_g4 p_sz p_half
    rw [wU_s]
    by_cases h : w 2 ≤ p_to w k
    · rw [if_pos h, if_pos h]
    · rw [if_neg h, if_neg h]
      unfold p_g3
      rw [wU_n _ _ n1, p_g2_at, if_pos rfl, p_g1_at, if_neg n3, p_g1_at, if_pos rfl]
  unfold p_goes p_g5
  rw [hs]
  by_cases j3 : j = 17 + 4 * k + 3
  · subst j3
    rw [wU_s, if_neg (by omega : ¬ (17 + 4 * k + 3 = 17 + 4 * k + 1)), if_neg (by omega : ¬ (17 + 4 * k + 3 = 17 + 4 * k + 2)), if_pos rfl]
  · rw [wU_n _ _ j3]
    by_cases j1 : j = 17 + 4 * k + 1
    · subst j1
      rw [if_pos rfl, hs]
    · rw [if_neg j1, if_neg j3]
      unfold p_g4
      rw [wU_n _ _ j1]
      unfold p_g3
      by_cases j2 : j = 17 + 4 * k + 2
      · subst j2
        rw [wU_s, if_pos rfl]
        have e : p_g2 (p_g1 w k (w (17 + 4 * k + 2)) (p_to w k)) k 2 = w 2 := by rw [p_g2_at, if_neg (by omega), p_g1_at, if_neg (by omega)]
        rw [e]
        rfl
      · rw [wU_n _ _ j2, p_g2_at, if_neg j1, p_g1_at, if_neg j1, if_neg j2]
/-- a row as the documents' numbers have it -/
def rG (w : Nat → Nat) : Prop := (w 0 ≤ 15 ∧ w 1 ≤ 10 ∧ w 2 ≤ 12 ∧ w 3 ≤ 7 ∧ w 4 ≤ 19000) ∧ (∀ c, c < 12 → w (5 + c) ≤ 3) ∧ (∀ k, k < 7 → w (17 + 4 * k) ≤ 5 ∧ w (17 + 4 * k + 1) ≤ 60 ∧ w (17 + 4 * k + 2) < 12 ∧ w (17 + 4 * k + 3) ≤ 1) ∧ (∀ j, 45 ≤ j → w j = 0) ∧ (∀ k, k < w 3 → 1 ≤ w (17 + 4 * k) ∧ w (17 + 4 * k + 2) < w 2 ∧ w (17 + 4 * k + 3) = if w (17 + 4 * k + 1) = 0 then 1 else 0)
theorem rG.hb {w : Nat → Nat} (h : rG w) (j : Nat) : w j ≤ 20000 := by
  obtain ⟨⟨h0, h1, h2, h3, h4⟩, hc, hk, hz, -⟩ := h
  by_cases a : 45 ≤ j
  · rw [hz j a]; omega
  · by_cases b : 17 ≤ j
    · obtain ⟨q1, q2, q3, q4⟩ := hk ((j - 17) / 4) (by omega)
      have : j = 17 + 4 * ((j - 17) / 4) ∨ j = 17 + 4 * ((j - 17) / 4) + 1 ∨ j = 17 + 4 * ((j - 17) / 4) + 2 ∨ j = 17 + 4 * ((j - 17) / 4) + 3 := by omega
      rcases this with e | e | e | e <;> rw [e] <;> omega
    · by_cases c : 5 ≤ j
      · have := hc (j - 5) (by omega)
        rw [show 5 + (j - 5) = j by omega] at this
        omega
      · have : j = 0 ∨ j = 1 ∨ j = 2 ∨ j = 3 ∨ j = 4 := by omega
        rcases this with e | e | e | e | e <;> rw [e] <;> omega
theorem p_pace_le4 {w : Nat → Nat} (h : rG w) {c : Nat} (hc : c < 12) : p_pace w c ≤ 4 := by
  have := p_pace_le w c
  have := h.2.1 c hc
  omega
theorem p_to_leG {w : Nat → Nat} (h : rG w) {k : Nat} (hk : k < 7) : p_to w k ≤ w (17 + 4 * k + 2) + 4 := by
  have h0 := (h.2.2.1 k hk).2.2.1
  have h1 := p_pace_le4 h h0
  have h3 := p_up_le w (w (17 + 4 * k + 2)) (w (17 + 4 * k + 1))
  have h4 := p_up_le w (p_up w (w (17 + 4 * k + 2)) (w (17 + 4 * k + 1))) (w (17 + 4 * k + 1))
  unfold p_to
  repeat' split
  all_goals omega
theorem p_sz_le {w : Nat → Nat} (k : Nat) : p_sz w k ≤ w (17 + 4 * k + 1) := by
  unfold p_sz p_half
  repeat' split
  all_goals omega
theorem p_cl_lt {w : Nat → Nat} {k : Nat} (h : w (17 + 4 * k + 2) < w 2) : p_cl w k < w 2 := by
  unfold p_cl
  split <;> omega
theorem p_goes_hd (w : Nat → Nat) (k : Nat) {j : Nat} (hj : j < 17) : p_goes w k j = w j := by
  rw [p_goes_at, if_neg (by omega), if_neg (by omega), if_neg (by omega)]
theorem p_goes_k1 (w : Nat → Nat) (k : Nat) : p_goes w k (17 + 4 * k + 1) = p_sz w k := by rw [p_goes_at, if_pos rfl]
theorem p_goes_k2 (w : Nat → Nat) (k : Nat) : p_goes w k (17 + 4 * k + 2) = p_cl w k := by rw [p_goes_at, if_neg (by omega : ¬ (17 + 4 * k + 2 = 17 + 4 * k + 1)), if_pos rfl]
theorem p_goes_k3 (w : Nat → Nat) (k : Nat) : p_goes w k (17 + 4 * k + 3) = if p_sz w k = 0 then 1 else 0 := by rw [p_goes_at, if_neg (by omega : ¬ (17 + 4 * k + 3 = 17 + 4 * k + 1)), if_neg (by omega : ¬ (17 + 4 * k + 3 = 17 + 4 * k + 2)), if_pos rfl]
theorem p_goes_o (w : Nat → Nat) (k : Nat) {j : Nat} (h1 : j ≠ 17 + 4 * k + 1) (h2 : j ≠ 17 + 4 * k + 2) (h3 : j ≠ 17 + 4 * k + 3) : p_goes w k j = w j := by rw [p_goes_at, if_neg h1, if_neg h2, if_neg h3]
theorem p_goes_k0 (w : Nat → Nat) (k a : Nat) : p_goes w k (17 + 4 * a) = w (17 + 4 * a) := p_goes_o w k (by omega) (by omega) (by omega)
theorem p_goes_ne (w : Nat → Nat) {k a : Nat} (h : a ≠ k) : p_goes w k (17 + 4 * a + 1) = w (17 + 4 * a + 1) ∧ p_goes w k (17 + 4 * a + 2) = w (17 + 4 * a + 2) ∧ p_goes w k (17 + 4 * a + 3) = w (17 + 4 * a + 3) := ⟨p_goes_o w k (by omega) (by omega) (by omega), p_goes_o w k (by omega) (by omega) (by omega), p_goes_o w k (by omega) (by omega) (by omega)⟩
theorem p_goes_rG {w : Nat → Nat} (h : rG w) {k : Nat} (hk : k < w 3) : rG (p_goes w k) := by
  have hg := h
  obtain ⟨⟨h0, h1, h2, h3, h4⟩, hc, hkk, hz, hw⟩ := h
  have k7 : k < 7 := by omega
  have s1 := p_sz_le (w := w) k
  have s2 := p_cl_lt (w := w) (k := k) (hw k hk).2.1
  have s3 := hkk k k7
  refine ⟨⟨?_, ?_, ?_, ?_, ?_⟩, fun c hc' => ?_, fun a ha => ?_, fun j hj => ?_, fun a ha => ?_⟩
  · rw [p_goes_hd _ _ (by omega)]; exact h0
  · rw [p_goes_hd _ _ (by omega)]; exact h1
  · rw [p_goes_hd _ _ (by omega)]; exact h2
  · rw [p_goes_hd _ _ (by omega)]; exact h3
  · rw [p_goes_hd _ _ (by omega)]; exact h4
  · rw [p_goes_hd _ _ (by omega)]; exact hc c hc'
  · by_cases e : a = k
    · subst e
      rw [p_goes_k0, p_goes_k1, p_goes_k2, p_goes_k3]
      refine ⟨s3.1, by omega, by omega, ?_⟩
      split <;> omega
    · obtain ⟨e1, e2, e3⟩ := p_goes_ne w e
      rw [p_goes_k0, e1, e2, e3]
      exact hkk a ha
  · rw [p_goes_o _ _ (by omega) (by omega) (by omega)]; exact hz j hj
  · rw [p_goes_hd _ _ (by omega : (3:Nat) < 17)] at ha
    rw [p_goes_hd _ _ (by omega : (2:Nat) < 17)]
    by_cases e : a = k
    · subst e
      rw [p_goes_k0, p_goes_k1, p_goes_k2, p_goes_k3]
      exact ⟨(hw a ha).1, s2, rfl⟩
    · obtain ⟨e1, e2, e3⟩ := p_goes_ne w e
      rw [p_goes_k0, e1, e2, e3]
      exact hw a ha
def p_pn (w : Nat → Nat) : Nat → Nat → Nat
  | 0 => w
  | n + 1 => if p_pn w n (17 + 4 * n + 3) = 0 then p_goes (p_pn w n) n else p_pn w n
def p_passes (w : Nat → Nat) : Nat → Nat := wU (p_pn w (w 3)) 4 (p_pn w (w 3) 4 + 1)
theorem p_pn_hd (w : Nat → Nat) {j : Nat} (hj : j < 17) : ∀ n, p_pn w n j = w j
  | 0 => rfl
  | n + 1 => by
    show (if p_pn w n (17 + 4 * n + 3) = 0 then p_goes (p_pn w n) n else p_pn w n) j = w j
    split
    · rw [p_goes_hd _ _ hj, p_pn_hd w hj n]
    · exact p_pn_hd w hj n
theorem p_pn_rG {w : Nat → Nat} (h : rG w) : ∀ n, n ≤ w 3 → rG (p_pn w n)
  | 0, _ => h
  | n + 1, hn => by
    have ih := p_pn_rG h n (by omega)
    show rG (if p_pn w n (17 + 4 * n + 3) = 0 then p_goes (p_pn w n) n else p_pn w n)
    split
    · exact p_goes_rG ih (by rw [p_pn_hd w (by omega)]; omega)
    · exact ih
theorem rG.up4 {w : Nat → Nat} (h : rG w) {m : Nat} (hm : m ≤ 19000) : rG (wU w 4 m) := by
  obtain ⟨⟨h0, h1, h2, h3, h4⟩, hc, hkk, hz, hw⟩ := h
  refine ⟨⟨h0, h1, h2, h3, hm⟩, fun c hc' => ?_, fun a ha => ?_, fun j hj => ?_, fun a ha => ?_⟩
  · rw [wU_n _ _ (by omega)]; exact hc c hc'
  · rw [wU_n _ _ (by omega), wU_n _ _ (by omega), wU_n _ _ (by omega), wU_n _ _ (by omega)]; exact hkk a ha
  · rw [wU_n _ _ (by omega)]; exact hz j hj
  · rw [wU_n _ _ (by omega), wU_n _ _ (by omega), wU_n _ _ (by omega), wU_n _ _ (by omega), wU_n _ _ (by omega)]
    exact hw a ha
theorem p_passes_rG {w : Nat → Nat} (h : rG w) (hm : w 4 < 19000) : rG (p_passes w) := by
  refine (p_pn_rG h (w 3) (Nat.le_refl _)).up4 ?_
  rw [p_pn_hd w (by omega)]
  omega
theorem p_passes_hd (w : Nat → Nat) {j : Nat} (hj : j < 17) (h4 : j ≠ 4) : p_passes w j = w j := by
  unfold p_passes
  rw [wU_n _ _ h4, p_pn_hd w hj]
theorem p_passes_4 (w : Nat → Nat) : p_passes w 4 = w 4 + 1 := by
  unfold p_passes
  rw [wU_s, p_pn_hd w (by omega)]
theorem jm_rdF {M : jm_M} {i : Nat} {f : Nat → Int32} : jm_sf M i f i = f := jm_sf_s M i f
theorem c_passes0 (i : Nat) (w : Nat → Nat) (M0 : jm_M) (hi : jm_ar i = some (0, 45)) (hg : rG w) : ∀ (m : Nat) (n : Nat), n ≤ w 3 → w 3 - n < m → jm_J none YX6_passes 2 [some (.ref i), some (.int (nI n))] [] (jm_sf M0 i (jm_n (p_pn w n))) (jm_is none (jm_sf M0 i (jm_n (p_passes w)))) := by
  intro m
  induction m with
  | zero => intros; omega
  | succ m ih =>
    intro n hn hm
    have hG := p_pn_rG hg n hn
    have hb := hG.hb
    have e3 : p_pn w n 3 = w 3 := p_pn_hd w (by omega) n
    have hw3 := hg.1.2.2.2.1
    refine jm_ild_n (Y := YX6_passes) (pc := 2) (i := 1) dX6_passes_2 rfl rfl ?_
    refine jm_ald_n (Y := YX6_passes) (pc := 3) (i := 0) dX6_passes_3 rfl rfl ?_
    refine jm_icN (Y := YX6_passes) (pc := 4) 3 dX6_passes_4 rfl ?_
    refine jm_ialN (Y := YX6_passes) (pc := 5) dX6_passes_5 (by first | assumption | exact jm_arR1 ha | exact jm_arR2 ha | exact jm_arR3 ha | exact jm_arR1 hb | exact jm_arR2 hb | exact jm_arR3 hb | rfl) (by first | omega | exact jm_lt hb _) (by first | assumption | exact jm_rdW | rfl) ?_
    refine jm_icmp_geN (Y := YX6_passes) (pc := 6) dX6_passes_6 rfl (by first | omega | exact jm_lt hb _) (by first | omega | exact jm_lt hb _) (fun h_6 => ?_) (fun h_6 => ?_)
    · refine jm_ald_n (Y := YX6_passes) (pc := 33) (i := 0) dX6_passes_33 rfl rfl ?_
      refine jm_icN (Y := YX6_passes) (pc := 34) 4 dX6_passes_34 rfl ?_
      refine jm_dup2 (Y := YX6_passes) (pc := 35) dX6_passes_35 rfl rfl ?_
      refine jm_ialN (Y := YX6_passes) (pc := 36) dX6_passes_36 (by first | assumption | exact jm_arR1 ha | exact jm_arR2 ha | exact jm_arR3 ha | exact jm_arR1 hb | exact jm_arR2 hb | exact jm_arR3 hb | rfl) (by first | omega | exact jm_lt hb _) (by first | assumption | exact jm_rdW | rfl) ?_
      refine jm_icN (Y := YX6_passes) (pc := 37) 1 dX6_passes_37 rfl ?_
      refine jm_addN (Y := YX6_passes) (pc := 38) dX6_passes_38 ?_
      have en : n = w 3 := by omega
      subst en
      refine jm_iasW (Y := YX6_passes) (pc := 39) (M0 := M0) (w := p_pn w (w 3)) dX6_passes_39 hi rfl (by omega) ?_
      refine jm_retv (Y := YX6_passes) (pc := 40) (st := []) dX6_passes_40 rfl ?_
      exact ⟨rfl, rfl⟩
    · refine jm_ald_n (Y := YX6_passes) (pc := 9) (i := 0) dX6_passes_9 rfl rfl ?_
      refine jm_bpN (Y := YX6_passes) (pc := 10) 17 dX6_passes_10 rfl ?_
      refine jm_icN (Y := YX6_passes) (pc := 12) 4 dX6_passes_12 rfl ?_
      refine jm_ild_n (Y := YX6_passes) (pc := 13) (i := 1) dX6_passes_13 rfl rfl ?_
      refine jm_mulN (Y := YX6_passes) (pc := 14) dX6_passes_14 ?_
      refine jm_addN (Y := YX6_passes) (pc := 15) dX6_passes_15 ?_
      refine jm_icN (Y := YX6_passes) (pc := 16) 3 dX6_passes_16 rfl ?_
      refine jm_addN (Y := YX6_passes) (pc := 17) dX6_passes_17 ?_
      refine jm_ialN (Y := YX6_passes) (pc := 18) dX6_passes_18 (by first | assumption | exact jm_arR1 ha | exact jm_arR2 ha | exact jm_arR3 ha | exact jm_arR1 hb | exact jm_arR2 hb | exact jm_arR3 hb | rfl) (by first | omega | exact jm_lt hb _) (by first | assumption | exact jm_rdW | rfl) ?_
      refine jm_if_neN (Y := YX6_passes) (pc := 19) dX6_passes_19 rfl (by first | omega | exact jm_lt hb _) (fun h_19 => ?_) (fun h_19 => ?_)
      · refine jm_incN (Y := YX6_passes) (pc := 27) (m := 1) (ls' := [_, _]) dX6_passes_27 rfl rfl rfl rfl ?_
        refine jm_goto (Y := YX6_passes) (pc := 30) dX6_passes_30 rfl ?_
        first | (have e : p_pn w (n + 1) = p_goes (p_pn w n) n := if_pos h_19; rw [jm_sfsf, ← e]; exact ih (n + 1) (by omega) (by omega)) | (have e : p_pn w (n + 1) = p_pn w n := if_neg h_19; rw [← e]; exact ih (n + 1) (by omega) (by omega)) | fail
      · refine jm_ald_n (Y := YX6_passes) (pc := 22) (i := 0) dX6_passes_22 rfl rfl ?_
        refine jm_ild_n (Y := YX6_passes) (pc := 23) (i := 1) dX6_passes_23 rfl rfl ?_
        refine jm_S2ve (Y := YX6_passes) (pc := 24) dX6_passes_24 lk_RX6_157 rfl rfl rfl (by decide) (Nat.le_of_ble_eq_true rfl) ⟨by decide, by decide⟩ (c_goes _ (p_pn w n) _ _ hi jm_rdF hb (by omega) ((hG.2.2.1 n (by omega)).2.2.1) ((hG.2.2.2.2 n (by omega)).1) (by have := p_to_leG hG (show n < 7 by omega); have := (hG.2.2.1 n (by omega)).2.2.1; omega)) ?_
        refine jm_incN (Y := YX6_passes) (pc := 27) (m := 1) (ls' := [_, _]) dX6_passes_27 rfl rfl rfl rfl ?_
        refine jm_goto (Y := YX6_passes) (pc := 30) dX6_passes_30 rfl ?_
        first | (have e : p_pn w (n + 1) = p_goes (p_pn w n) n := if_pos h_19; rw [jm_sfsf, ← e]; exact ih (n + 1) (by omega) (by omega)) | (have e : p_pn w (n + 1) = p_pn w n := if_neg h_19; rw [← e]; exact ih (n + 1) (by omega) (by omega)) | fail
theorem c_passes (i : Nat) (w : Nat → Nat) (M : jm_M) (hi : jm_ar i = some (0, 45)) (hM : M i = jm_n w) (hg : rG w) : jm_J none YX6_passes 0 [some (.ref i), none] [] M (jm_is none (jm_sf M i (jm_n (p_passes w)))) := by
  refine jm_icN (Y := YX6_passes) (pc := 0) 0 dX6_passes_0 rfl ?_
  refine jm_ist_n (Y := YX6_passes) (pc := 1) (i := 1) (ls' := [_, _]) dX6_passes_1 rfl (Nat.le_of_ble_eq_true rfl) rfl rfl ?_
  have key := c_passes0 i w M hi hg (w 3 + 1) 0 (by omega) (by omega)
  have e : jm_sf M i (jm_n (p_pn w 0)) = M := jm_sfid hM
  rw [e] at key
  exact key
