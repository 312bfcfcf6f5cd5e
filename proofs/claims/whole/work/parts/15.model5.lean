/-! the reference: calm, swift, stir, share -/
def jm_o : Option Nat → Int32
  | none => -1000000
  | some s => nI s
theorem jm_o_n {o : Option Nat} (h : ∀ s, o = some s → s < 2147483648) : jm_o o = -1000000 ↔ o = none := by
  cases o with
  | none => exact ⟨fun _ => rfl, fun _ => rfl⟩
  | some s =>
    constructor
    · intro e
      have e2 := congrArg Int32.toInt e
      have e3 : (jm_o (some s)).toInt = (s : Int) := jm_tI (h s rfl)
      rw [e3] at e2
      have : (-1000000 : Int32).toInt = -1000000 := by decide
      omega
    · intro e; cases e
def p_cs (w : Nat → Nat) (n c : Nat) : Nat := p_sm (p_on (wU w (5 + c) 0) n) (w 3)
def p_cm (w : Nat → Nat) (n : Nat) : Nat → Option Nat × Nat
  | 0 => (none, 0)
  | c + 1 => if (p_cm w n c).1 = none ∨ p_cs w n c < (p_cm w n c).2 then (some c, p_cs w n c) else p_cm w n c
theorem rG.sp {w : Nat → Nat} (h : rG w) {c v : Nat} (hc : c < 12) (hv : v ≤ 3) : rG (wU w (5 + c) v) := by
  obtain ⟨⟨h0, h1, h2, h3, h4⟩, hs, hkk, hz, hw⟩ := h
  refine ⟨⟨by rw [wU_n _ _ (by omega)]; exact h0, by rw [wU_n _ _ (by omega)]; exact h1, by rw [wU_n _ _ (by omega)]; exact h2, by rw [wU_n _ _ (by omega)]; exact h3, by rw [wU_n _ _ (by omega)]; exact h4⟩, fun a ha => ?_, fun a ha => ?_, fun j hj => ?_, fun a ha => ?_⟩
  · by_cases e : a = c
    · subst e; rw [wU_s]; exact hv
    · rw [wU_n _ _ (by omega)]; exact hs a ha
  · rw [wU_n _ _ (by omega), wU_n _ _ (by omega), wU_n _ _ (by omega), wU_n _ _ (by omega)]; exact hkk a ha
  · rw [wU_n _ _ (by omega)]; exact hz j hj
  · rw [wU_n _ _ (by omega)] at ha
    rw [wU_n _ _ (by omega), wU_n _ _ (by omega), wU_n _ _ (by omega), wU_n _ _ (by omega), wU_n _ _ (by omega)]
    exact hw a ha
theorem p_cs_le {w : Nat → Nat} (h : rG w) (hm : w 4 ≤ 9999) {n c : Nat} (hc : c < 12) (hn : n ≤ 60) : p_cs w n c ≤ 420 := by
  have hG := p_on_rG (h.sp hc (v := 0) (by omega)) n (by rw [wU_n _ _ (by omega)]; omega)
  have h3 := h.1.2.2.2.1
  have := p_sm_le hG (w 3) (by omega)
  unfold p_cs
  omega
theorem p_cm_le {w : Nat → Nat} (h : rG w) (hm : w 4 ≤ 9999) {n : Nat} (hn : n ≤ 60) : ∀ c, c ≤ 12 → (p_cm w n c).2 ≤ 420 ∧ ∀ s, (p_cm w n c).1 = some s → s < c
  | 0, _ => ⟨Nat.zero_le _, fun s e => by cases e⟩
  | c + 1, hc => by
    obtain ⟨i1, i2⟩ := p_cm_le h hm hn c (by omega)
    have ee : p_cm w n (c + 1) = if (p_cm w n c).1 = none ∨ p_cs w n c < (p_cm w n c).2 then (some c, p_cs w n c) else p_cm w n c := rfl
    rw [ee]
    split
    · exact ⟨p_cs_le h hm (by omega) hn, fun s e => by cases e; omega⟩
    · exact ⟨i1, fun s e => by have := i2 s e; omega⟩
theorem c_calm1 (g : Nat → Nat) (M0 : jm_M) (N c l S : Nat) (a b : Int32) (x : Option Value) (q : Prop) [Decidable q] (Q : Option Value → jm_M → Prop) (gS : Nat → Nat) (hG : rG gS) (hS : p_sm gS (gS 3) = S) (hg : g = gS) (K : jm_J none YX6_calm 38 [some (.ref 11), some (.int (nI N)), some (.int a), some (.int (if q then nI c else b)), some (.int (nI (if q then S else l))), some (.int (nI (c + 1))), some (.int (jm_b q))] [] (jm_sf M0 19 (jm_n g)) Q) : jm_J none YX6_calm 100 [some (.ref 11), some (.int (nI N)), some (.int a), some (.int b), some (.int (nI (l))), some (.int (nI c)), x] [.int (jm_b q)] (jm_sf M0 19 (jm_n g)) Q := by
  subst hg
  refine jm_ist (Y := YX6_calm) (pc := 100) (ls' := [_, _, _, _, _, _, _]) dX6_calm_100 (Nat.le_of_ble_eq_true rfl) rfl rfl ?_
  refine jm_iload (Y := YX6_calm) (pc := 102) dX6_calm_102 rfl ?_
  refine jm_if_eqB (Y := YX6_calm) (pc := 104) dX6_calm_104 rfl (fun h_104 => ?_) (fun h_104 => ?_)
  · refine jm_ild_n (Y := YX6_calm) (pc := 112) (i := 3) dX6_calm_112 rfl rfl ?_
    refine jm_ist_n (Y := YX6_calm) (pc := 113) (i := 3) (ls' := [_, _, _, _, _, _, _]) dX6_calm_113 rfl (Nat.le_of_ble_eq_true rfl) rfl rfl ?_
    refine jm_iload (Y := YX6_calm) (pc := 114) dX6_calm_114 rfl ?_
    refine jm_if_eqB (Y := YX6_calm) (pc := 116) dX6_calm_116 rfl (fun h_116 => ?_) (fun h_116 => ?_)
    · refine jm_iload (Y := YX6_calm) (pc := 129) dX6_calm_129 rfl ?_
      refine jm_ist (Y := YX6_calm) (pc := 131) (ls' := [_, _, _, _, _, _, _]) dX6_calm_131 (Nat.le_of_ble_eq_true rfl) rfl rfl ?_
      refine jm_incN (Y := YX6_calm) (pc := 133) (m := 1) (ls' := [_, _, _, _, _, _, _]) dX6_calm_133 rfl rfl rfl rfl ?_
      refine jm_goto (Y := YX6_calm) (pc := 136) dX6_calm_136 rfl ?_
      first | (rw [if_pos h_104, if_pos h_104] at K; rw [hS]; exact K) | (rw [if_neg h_104, if_neg h_104] at K; exact K) | exact absurd h_104 h_116 | exact absurd h_116 h_104 | fail
    · refine jm_ald_n (Y := YX6_calm) (pc := 119) (i := 0) dX6_calm_119 rfl rfl ?_
      refine jm_getR (Y := YX6_calm) (pc := 120) dX6_calm_120 fr_RX6_31 rfl (by decide) rfl ?_
      refine jm_S1ie (Y := YX6_calm) (pc := 123) dX6_calm_123 lk_RX6_196 ⟨_, rfl⟩ rfl (by decide) (Nat.le_of_ble_eq_true rfl) ⟨by decide, by decide⟩ (c_sizes _ g _ rfl jm_rdF hG) ?_
      refine jm_goto (Y := YX6_calm) (pc := 126) dX6_calm_126 rfl ?_
      refine jm_ist (Y := YX6_calm) (pc := 131) (ls' := [_, _, _, _, _, _, _]) dX6_calm_131 (Nat.le_of_ble_eq_true rfl) rfl rfl ?_
      refine jm_incN (Y := YX6_calm) (pc := 133) (m := 1) (ls' := [_, _, _, _, _, _, _]) dX6_calm_133 rfl rfl rfl rfl ?_
      refine jm_goto (Y := YX6_calm) (pc := 136) dX6_calm_136 rfl ?_
      first | (rw [if_pos h_104, if_pos h_104] at K; rw [hS]; exact K) | (rw [if_neg h_104, if_neg h_104] at K; exact K) | exact absurd h_104 h_116 | exact absurd h_116 h_104 | fail
  · refine jm_iload (Y := YX6_calm) (pc := 107) dX6_calm_107 rfl ?_
    refine jm_goto (Y := YX6_calm) (pc := 109) dX6_calm_109 rfl ?_
    refine jm_ist_n (Y := YX6_calm) (pc := 113) (i := 3) (ls' := [_, _, _, _, _, _, _]) dX6_calm_113 rfl (Nat.le_of_ble_eq_true rfl) rfl rfl ?_
    refine jm_iload (Y := YX6_calm) (pc := 114) dX6_calm_114 rfl ?_
    refine jm_if_eqB (Y := YX6_calm) (pc := 116) dX6_calm_116 rfl (fun h_116 => ?_) (fun h_116 => ?_)
    · refine jm_iload (Y := YX6_calm) (pc := 129) dX6_calm_129 rfl ?_
      refine jm_ist (Y := YX6_calm) (pc := 131) (ls' := [_, _, _, _, _, _, _]) dX6_calm_131 (Nat.le_of_ble_eq_true rfl) rfl rfl ?_
      refine jm_incN (Y := YX6_calm) (pc := 133) (m := 1) (ls' := [_, _, _, _, _, _, _]) dX6_calm_133 rfl rfl rfl rfl ?_
      refine jm_goto (Y := YX6_calm) (pc := 136) dX6_calm_136 rfl ?_
      first | (rw [if_pos h_104, if_pos h_104] at K; rw [hS]; exact K) | (rw [if_neg h_104, if_neg h_104] at K; exact K) | exact absurd h_104 h_116 | exact absurd h_116 h_104 | fail
    · refine jm_ald_n (Y := YX6_calm) (pc := 119) (i := 0) dX6_calm_119 rfl rfl ?_
      refine jm_getR (Y := YX6_calm) (pc := 120) dX6_calm_120 fr_RX6_31 rfl (by decide) rfl ?_
      refine jm_S1ie (Y := YX6_calm) (pc := 123) dX6_calm_123 lk_RX6_196 ⟨_, rfl⟩ rfl (by decide) (Nat.le_of_ble_eq_true rfl) ⟨by decide, by decide⟩ (c_sizes _ g _ rfl jm_rdF hG) ?_
      refine jm_goto (Y := YX6_calm) (pc := 126) dX6_calm_126 rfl ?_
      refine jm_ist (Y := YX6_calm) (pc := 131) (ls' := [_, _, _, _, _, _, _]) dX6_calm_131 (Nat.le_of_ble_eq_true rfl) rfl rfl ?_
      refine jm_incN (Y := YX6_calm) (pc := 133) (m := 1) (ls' := [_, _, _, _, _, _, _]) dX6_calm_133 rfl rfl rfl rfl ?_
      refine jm_goto (Y := YX6_calm) (pc := 136) dX6_calm_136 rfl ?_
      first | (rw [if_pos h_104, if_pos h_104] at K; rw [hS]; exact K) | (rw [if_neg h_104, if_neg h_104] at K; exact K) | exact absurd h_104 h_116 | exact absurd h_116 h_104 | fail
theorem c_calm0 (w : Nat → Nat) (M0 : jm_M) (hM : M0 17 = jm_n w) (hg : rG w) (hm : w 4 ≤ 9999) (N : Nat) (hN : N ≤ 30) (a : Int32) (ha : a.toInt = 0 ∨ a.toInt = 1) : ∀ (m : Nat) (c : Nat) (g : Nat → Nat) (x : Option Value), c ≤ w 2 → (∀ j, 45 ≤ j → g j = 0) → w 2 - c < m → jm_J none YX6_calm 38 [some (.ref 11), some (.int (nI N)), some (.int a), some (.int (jm_o (p_cm w N c).1)), some (.int (nI ((p_cm w N c).2))), some (.int (nI c)), x] [] (jm_sf M0 19 (jm_n g)) (jm_q M0 (if a.toInt = 0 then jm_o (p_cm w N (w 2)).1 else nI (p_cm w N (w 2)).2)) := by
  intro m
  induction m with
  | zero => intros; omega
  | succ m ih =>
    intro c g x hc hz hmm
    have hb := hg.hb
    have h3 := hg.1.2.2.2.1
    have h2 := hg.1.2.2.1
    obtain ⟨l1, l2⟩ := p_cm_le hg hm (show N ≤ 60 by omega) c (by omega)
    have e4 : wU w (5 + c) 0 4 = w 4 := wU_n _ _ (by omega)
    refine jm_iload (Y := YX6_calm) (pc := 38) dX6_calm_38 rfl ?_
    refine jm_ald_n (Y := YX6_calm) (pc := 40) (i := 0) dX6_calm_40 rfl rfl ?_
    refine jm_getR (Y := YX6_calm) (pc := 41) dX6_calm_41 fr_RX6_25 rfl (by decide) rfl ?_
    refine jm_icN (Y := YX6_calm) (pc := 44) 2 dX6_calm_44 rfl ?_
    refine jm_ialN (Y := YX6_calm) (pc := 45) dX6_calm_45 (by first | assumption | exact jm_arR1 ha | exact jm_arR2 ha | exact jm_arR3 ha | exact jm_arR1 hb | exact jm_arR2 hb | exact jm_arR3 hb | rfl) (by first | omega | exact jm_lt hb _) (by first | assumption | exact jm_rdW | exact jm_rdN (jm_17 hM) | rfl) ?_
    refine jm_icmp_geN (Y := YX6_calm) (pc := 46) dX6_calm_46 rfl (by first | omega | exact jm_lt hb _) (by first | omega | exact jm_lt hb _) (fun h_46 => ?_) (fun h_46 => ?_)
    · refine jm_ild_n (Y := YX6_calm) (pc := 139) (i := 2) dX6_calm_139 rfl rfl ?_
      refine jm_if_ne (Y := YX6_calm) (pc := 140) dX6_calm_140 rfl (fun h_140 => ?_) (fun h_140 => ?_)
      · refine jm_iload (Y := YX6_calm) (pc := 147) dX6_calm_147 rfl ?_
        refine jm_ret (Y := YX6_calm) (pc := 149) (st := []) dX6_calm_149 rfl rfl ?_
        have ec : c = w 2 := by omega
        subst ec
        first | exact jm_qi hz (by rw [if_pos (by rw [h_140]; decide)]) | exact jm_qi hz (by rw [if_neg (by intro z; exact h_140 (Int32.toInt_inj.mp (by rw [z]; decide)))]) | fail
      · refine jm_ild_n (Y := YX6_calm) (pc := 143) (i := 3) dX6_calm_143 rfl rfl ?_
        refine jm_goto (Y := YX6_calm) (pc := 144) dX6_calm_144 rfl ?_
        refine jm_ret (Y := YX6_calm) (pc := 149) (st := []) dX6_calm_149 rfl rfl ?_
        have ec : c = w 2 := by omega
        subst ec
        first | exact jm_qi hz (by rw [if_pos (by rw [h_140]; decide)]) | exact jm_qi hz (by rw [if_neg (by intro z; exact h_140 (Int32.toInt_inj.mp (by rw [z]; decide)))]) | fail
    · refine jm_ald_n (Y := YX6_calm) (pc := 49) (i := 0) dX6_calm_49 rfl rfl ?_
      refine jm_getR (Y := YX6_calm) (pc := 50) dX6_calm_50 fr_RX6_25 rfl (by decide) rfl ?_
      refine jm_icN (Y := YX6_calm) (pc := 53) 0 dX6_calm_53 rfl ?_
      refine jm_ald_n (Y := YX6_calm) (pc := 54) (i := 0) dX6_calm_54 rfl rfl ?_
      refine jm_getR (Y := YX6_calm) (pc := 55) dX6_calm_55 fr_RX6_31 rfl (by decide) rfl ?_
      refine jm_icN (Y := YX6_calm) (pc := 58) 0 dX6_calm_58 rfl ?_
      refine jm_S4ve (Y := YX6_calm) (pc := 59) dX6_calm_59 lk_RX6_135 rfl rfl rfl rfl rfl (by decide) (Nat.le_of_ble_eq_true rfl) ⟨by decide, by decide⟩ (c_cpT w _ M0 hM hg.z (by assumption)) ?_
      refine jm_ald_n (Y := YX6_calm) (pc := 62) (i := 0) dX6_calm_62 rfl rfl ?_
      refine jm_getR (Y := YX6_calm) (pc := 63) dX6_calm_63 fr_RX6_31 rfl (by decide) rfl ?_
      refine jm_icN (Y := YX6_calm) (pc := 66) 5 dX6_calm_66 rfl ?_
      refine jm_iload (Y := YX6_calm) (pc := 67) dX6_calm_67 rfl ?_
      refine jm_addN (Y := YX6_calm) (pc := 69) dX6_calm_69 ?_
      refine jm_icN (Y := YX6_calm) (pc := 70) 0 dX6_calm_70 rfl ?_
      refine jm_iasW (Y := YX6_calm) (pc := 71) (M0 := M0) (w := w) dX6_calm_71 rfl rfl (by omega) ?_
      have hG0 := hg.sp (c := c) (v := 0) (by omega) (by omega)
      have hG := p_on_rG hG0 N (by omega)
      have eS : p_sm (p_on (wU w (5 + c) 0) N) (p_on (wU w (5 + c) 0) N 3) = p_cs w N c := by { rw [p_on_hd _ (by decide) (by decide), wU_n _ _ (by omega)]; rfl }
      have lS := p_cs_le hg hm (n := N) (c := c) (by omega) (by omega)
      refine jm_ald_n (Y := YX6_calm) (pc := 72) (i := 0) dX6_calm_72 rfl rfl ?_
      refine jm_ild_n (Y := YX6_calm) (pc := 73) (i := 1) dX6_calm_73 rfl rfl ?_
      refine jm_V1ve (Y := YX6_calm) (pc := 74) dX6_calm_74 lk_RX6_192 rfl rfl rfl (by decide) (Nat.le_of_ble_eq_true rfl) ⟨by decide, by decide⟩ (c_goT (wU w (5 + c) 0) N M0 hG0 (by omega)) ?_
      refine jm_ild_n (Y := YX6_calm) (pc := 77) (i := 3) dX6_calm_77 rfl rfl ?_
      refine jm_ldc (Y := YX6_calm) (pc := 78) (v := -1000000) dX6_calm_78 kc_RX6_47 ?_
      refine jm_icmp_eq (Y := YX6_calm) (pc := 80) dX6_calm_80 rfl (fun h_80 => ?_) (fun h_80 => ?_)
      · refine jm_icN (Y := YX6_calm) (pc := 95) 1 dX6_calm_95 rfl ?_
        refine jm_goto (Y := YX6_calm) (pc := 96) dX6_calm_96 rfl ?_
        have ee : p_cm w N (c + 1) = if (p_cm w N c).1 = none ∨ p_cs w N c < (p_cm w N c).2 then (some c, p_cs w N c) else p_cm w N c := rfl
        have K := ih (c + 1) (p_on (wU w (5 + c) 0) N) (some (.int (jm_b ((p_cm w N c).1 = none ∨ p_cs w N c < (p_cm w N c).2)))) (by omega) hG.z (by omega)
        have key := c_calm1 (p_on (wU w (5 + c) 0) N) M0 N c (p_cm w N c).2 (p_cs w N c) a (jm_o (p_cm w N c).1) x ((p_cm w N c).1 = none ∨ p_cs w N c < (p_cm w N c).2) _ _ hG eS rfl (by { by_cases hq : (p_cm w N c).1 = none ∨ p_cs w N c < (p_cm w N c).2; rw [ee, if_pos hq] at K; rw [if_pos hq, if_pos hq]; exact K; rw [ee, if_neg hq] at K; rw [if_neg hq, if_neg hq]; exact K })
        have en := jm_o_n (o := (p_cm w N c).1) (fun s e => by have := l2 s e; omega)
        first | (rw [jm_b_t (Or.inl (en.mp h_80))] at key; exact key) | (rw [jm_b_t (Or.inr h_92)] at key; exact key) | (rw [jm_b_f (by intro z; rcases z with z | z; exact h_80 (en.mpr z); omega)] at key; exact key) | fail
      · refine jm_ald_n (Y := YX6_calm) (pc := 83) (i := 0) dX6_calm_83 rfl rfl ?_
        refine jm_getR (Y := YX6_calm) (pc := 84) dX6_calm_84 fr_RX6_31 rfl (by decide) rfl ?_
        refine jm_S1ie (Y := YX6_calm) (pc := 87) dX6_calm_87 lk_RX6_196 ⟨_, rfl⟩ rfl (by decide) (Nat.le_of_ble_eq_true rfl) ⟨by decide, by decide⟩ (c_sizes _ (p_on (wU w (5 + c) 0) N) _ rfl jm_rdF hG) ?_
        rw [eS]
        refine jm_iload (Y := YX6_calm) (pc := 90) dX6_calm_90 rfl ?_
        refine jm_icmp_geN (Y := YX6_calm) (pc := 92) dX6_calm_92 rfl (by first | omega | exact jm_lt hb _) (by first | omega | exact jm_lt hb _) (fun h_92 => ?_) (fun h_92 => ?_)
        · refine jm_icN (Y := YX6_calm) (pc := 99) 0 dX6_calm_99 rfl ?_
          have ee : p_cm w N (c + 1) = if (p_cm w N c).1 = none ∨ p_cs w N c < (p_cm w N c).2 then (some c, p_cs w N c) else p_cm w N c := rfl
          have K := ih (c + 1) (p_on (wU w (5 + c) 0) N) (some (.int (jm_b ((p_cm w N c).1 = none ∨ p_cs w N c < (p_cm w N c).2)))) (by omega) hG.z (by omega)
          have key := c_calm1 (p_on (wU w (5 + c) 0) N) M0 N c (p_cm w N c).2 (p_cs w N c) a (jm_o (p_cm w N c).1) x ((p_cm w N c).1 = none ∨ p_cs w N c < (p_cm w N c).2) _ _ hG eS rfl (by { by_cases hq : (p_cm w N c).1 = none ∨ p_cs w N c < (p_cm w N c).2; rw [ee, if_pos hq] at K; rw [if_pos hq, if_pos hq]; exact K; rw [ee, if_neg hq] at K; rw [if_neg hq, if_neg hq]; exact K })
          have en := jm_o_n (o := (p_cm w N c).1) (fun s e => by have := l2 s e; omega)
          first | (rw [jm_b_t (Or.inl (en.mp h_80))] at key; exact key) | (rw [jm_b_t (Or.inr h_92)] at key; exact key) | (rw [jm_b_f (by intro z; rcases z with z | z; exact h_80 (en.mpr z); omega)] at key; exact key) | fail
        · refine jm_icN (Y := YX6_calm) (pc := 95) 1 dX6_calm_95 rfl ?_
          refine jm_goto (Y := YX6_calm) (pc := 96) dX6_calm_96 rfl ?_
          have ee : p_cm w N (c + 1) = if (p_cm w N c).1 = none ∨ p_cs w N c < (p_cm w N c).2 then (some c, p_cs w N c) else p_cm w N c := rfl
          have K := ih (c + 1) (p_on (wU w (5 + c) 0) N) (some (.int (jm_b ((p_cm w N c).1 = none ∨ p_cs w N c < (p_cm w N c).2)))) (by omega) hG.z (by omega)
          have key := c_calm1 (p_on (wU w (5 + c) 0) N) M0 N c (p_cm w N c).2 (p_cs w N c) a (jm_o (p_cm w N c).1) x ((p_cm w N c).1 = none ∨ p_cs w N c < (p_cm w N c).2) _ _ hG eS rfl (by { by_cases hq : (p_cm w N c).1 = none ∨ p_cs w N c < (p_cm w N c).2; rw [ee, if_pos hq] at K; rw [if_pos hq, if_pos hq]; exact K; rw [ee, if_neg hq] at K; rw [if_neg hq, if_neg hq]; exact K })
          have en := jm_o_n (o := (p_cm w N c).1) (fun s e => by have := l2 s e; omega)
          first | (rw [jm_b_t (Or.inl (en.mp h_80))] at key; exact key) | (rw [jm_b_t (Or.inr h_92)] at key; exact key) | (rw [jm_b_f (by intro z; rcases z with z | z; exact h_80 (en.mpr z); omega)] at key; exact key) | fail
def q_calm (w : Nat → Nat) (n a : Int32) : Int32 := if w 2 = 0 then -1000002 else if 1 ≤ n.toInt ∧ n.toInt ≤ 30 ∧ 0 ≤ a.toInt ∧ a.toInt ≤ 1 then (if a.toInt = 0 then jm_o (p_cm w n.toInt.toNat (w 2)).1 else nI (p_cm w n.toInt.toNat (w 2)).2) else -1000001
theorem c_calm (w g : Nat → Nat) (M0 : jm_M) (hM : M0 17 = jm_n w) (hg : rG w) (hz : ∀ j, 45 ≤ j → g j = 0) (hm : w 4 ≤ 9999) (n a : Int32) : jm_J none YX6_calm 0 [some (.ref 11), some (.int n), some (.int a), none, none, none, none] [] (jm_sf M0 19 (jm_n g)) (jm_q M0 (q_calm w n a)) := by
  have hb := hg.hb
  have h3 := hg.1.2.2.2.1
  have h2 := hg.1.2.2.1
  refine jm_ald_n (Y := YX6_calm) (pc := 0) (i := 0) dX6_calm_0 rfl rfl ?_
  refine jm_V0ie (Y := YX6_calm) (pc := 1) dX6_calm_1 lk_RX6_161 ⟨_, rfl⟩ rfl (by decide) (Nat.le_of_ble_eq_true rfl) ⟨by decide, by decide⟩ (c_isRiver w _ (jm_17 hM) hg) ?_
  refine jm_if_neB (Y := YX6_calm) (pc := 4) dX6_calm_4 rfl (fun h_4 => ?_) (fun h_4 => ?_)
  · refine jm_ild_n (Y := YX6_calm) (pc := 10) (i := 1) dX6_calm_10 rfl rfl ?_
    refine jm_S1ie (Y := YX6_calm) (pc := 11) dX6_calm_11 lk_RX6_202 ⟨_, rfl⟩ rfl (by decide) (Nat.le_of_ble_eq_true rfl) ⟨by decide, by decide⟩ (c_isNearN _ _) ?_
    refine jm_if_eqB (Y := YX6_calm) (pc := 14) dX6_calm_14 rfl (fun h_14 => ?_) (fun h_14 => ?_)
    · refine jm_ldc (Y := YX6_calm) (pc := 26) (v := -1000001) dX6_calm_26 kc_RX6_61 ?_
      refine jm_ret (Y := YX6_calm) (pc := 28) (st := []) dX6_calm_28 rfl rfl ?_
      unfold q_calm
      first | exact jm_qi hz (by rw [if_pos (by omega)]) | exact jm_qi hz (by rw [if_neg (by omega), if_neg (by omega)]) | fail
    · refine jm_ild_n (Y := YX6_calm) (pc := 17) (i := 2) dX6_calm_17 rfl rfl ?_
      refine jm_icN (Y := YX6_calm) (pc := 18) 0 dX6_calm_18 rfl ?_
      refine jm_icN (Y := YX6_calm) (pc := 19) 1 dX6_calm_19 rfl ?_
      refine jm_S3ie (Y := YX6_calm) (pc := 20) dX6_calm_20 lk_RX6_53 ⟨_, rfl⟩ rfl rfl rfl (by decide) (Nat.le_of_ble_eq_true rfl) ⟨by decide, by decide⟩ (c_inN _ _ _ _ (by decide) (by decide)) ?_
      refine jm_if_neB (Y := YX6_calm) (pc := 23) dX6_calm_23 rfl (fun h_23 => ?_) (fun h_23 => ?_)
      · obtain ⟨N, h_N, rfl, t_N, n_N⟩ := jm_ofL (v := n) (n := 31) (by omega) (by omega)
        refine jm_ldc (Y := YX6_calm) (pc := 29) (v := -1000000) dX6_calm_29 kc_RX6_47 ?_
        refine jm_ist_n (Y := YX6_calm) (pc := 31) (i := 3) (ls' := [_, _, _, _, _, _, _]) dX6_calm_31 rfl (Nat.le_of_ble_eq_true rfl) rfl rfl ?_
        refine jm_icN (Y := YX6_calm) (pc := 32) 0 dX6_calm_32 rfl ?_
        refine jm_ist (Y := YX6_calm) (pc := 33) (ls' := [_, _, _, _, _, _, _]) dX6_calm_33 (Nat.le_of_ble_eq_true rfl) rfl rfl ?_
        refine jm_icN (Y := YX6_calm) (pc := 35) 0 dX6_calm_35 rfl ?_
        refine jm_ist (Y := YX6_calm) (pc := 36) (ls' := [_, _, _, _, _, _, _]) dX6_calm_36 (Nat.le_of_ble_eq_true rfl) rfl rfl ?_
        have e : q_calm w (nI N) a = (if a.toInt = 0 then jm_o (p_cm w N (w 2)).1 else nI (p_cm w N (w 2)).2) := by { unfold q_calm; rw [if_neg (by omega), if_pos (by omega), n_N] }
        rw [e]
        exact c_calm0 w M0 hM hg hm N (by omega) a (by omega) (w 2 + 1) 0 g none (by omega) hz (by omega)
      · refine jm_ldc (Y := YX6_calm) (pc := 26) (v := -1000001) dX6_calm_26 kc_RX6_61 ?_
        refine jm_ret (Y := YX6_calm) (pc := 28) (st := []) dX6_calm_28 rfl rfl ?_
        unfold q_calm
        first | exact jm_qi hz (by rw [if_pos (by omega)]) | exact jm_qi hz (by rw [if_neg (by omega), if_neg (by omega)]) | fail
  · refine jm_ldc (Y := YX6_calm) (pc := 7) (v := -1000002) dX6_calm_7 kc_RX6_164 ?_
    refine jm_ret (Y := YX6_calm) (pc := 9) (st := []) dX6_calm_9 rfl rfl ?_
    unfold q_calm
    first | exact jm_qi hz (by rw [if_pos (by omega)]) | exact jm_qi hz (by rw [if_neg (by omega), if_neg (by omega)]) | fail
def p_st (w : Nat → Nat) (k c n : Nat) : Nat → Nat → Int32
  | 0, _ => -1000000
  | m + 1, v => if p_on (wU w (5 + c) v) n (17 + 4 * k + 3) = 1 then nI v else p_st w k c n m (v + 1)
theorem c_stir0 (w : Nat → Nat) (M0 : jm_M) (hM : M0 17 = jm_n w) (hg : rG w) (hm : w 4 ≤ 9999) (k c N : Nat) (hN : N ≤ 30) (hk : k < w 3) (hc : c < w 2) : ∀ (m : Nat) (v : Nat) (g : Nat → Nat), v ≤ 4 → (∀ j, 45 ≤ j → g j = 0) → 4 - v < m → jm_J none YX6_stir 29 [some (.ref 11), some (.int (nI k)), some (.int (nI c)), some (.int (nI N)), some (.int (nI v))] [] (jm_sf M0 19 (jm_n g)) (jm_q M0 (p_st w k c N (4 - v) v)) := by
  intro m
  induction m with
  | zero => intros; omega
  | succ m ih =>
    intro v g hv hz hmm
    have hb := hg.hb
    have h3 := hg.1.2.2.2.1
    have h2 := hg.1.2.2.1
    have e4 : wU w (5 + c) v 4 = w 4 := wU_n _ _ (by omega)
    refine jm_iload (Y := YX6_stir) (pc := 29) dX6_stir_29 rfl ?_
    refine jm_icN (Y := YX6_stir) (pc := 31) 4 dX6_stir_31 rfl ?_
    refine jm_icmp_geN (Y := YX6_stir) (pc := 32) dX6_stir_32 rfl (by first | omega | exact jm_lt hb _ | exact jm_lt hG.hb _) (by first | omega | exact jm_lt hb _ | exact jm_lt hG.hb _) (fun h_32 => ?_) (fun h_32 => ?_)
    · refine jm_ldc (Y := YX6_stir) (pc := 89) (v := -1000000) dX6_stir_89 kc_RX6_47 ?_
      refine jm_ret (Y := YX6_stir) (pc := 91) (st := []) dX6_stir_91 rfl rfl ?_
      exact jm_qi hz (by rw [show 4 - v = 0 by omega]; rfl)
    · refine jm_ald_n (Y := YX6_stir) (pc := 35) (i := 0) dX6_stir_35 rfl rfl ?_
      refine jm_getR (Y := YX6_stir) (pc := 36) dX6_stir_36 fr_RX6_25 rfl (by decide) rfl ?_
      refine jm_icN (Y := YX6_stir) (pc := 39) 0 dX6_stir_39 rfl ?_
      refine jm_ald_n (Y := YX6_stir) (pc := 40) (i := 0) dX6_stir_40 rfl rfl ?_
      refine jm_getR (Y := YX6_stir) (pc := 41) dX6_stir_41 fr_RX6_31 rfl (by decide) rfl ?_
      refine jm_icN (Y := YX6_stir) (pc := 44) 0 dX6_stir_44 rfl ?_
      refine jm_S4ve (Y := YX6_stir) (pc := 45) dX6_stir_45 lk_RX6_135 rfl rfl rfl rfl rfl (by decide) (Nat.le_of_ble_eq_true rfl) ⟨by decide, by decide⟩ (c_cpT w _ M0 hM hg.z (by assumption)) ?_
      refine jm_ald_n (Y := YX6_stir) (pc := 48) (i := 0) dX6_stir_48 rfl rfl ?_
      refine jm_getR (Y := YX6_stir) (pc := 49) dX6_stir_49 fr_RX6_31 rfl (by decide) rfl ?_
      refine jm_icN (Y := YX6_stir) (pc := 52) 5 dX6_stir_52 rfl ?_
      refine jm_ild_n (Y := YX6_stir) (pc := 53) (i := 2) dX6_stir_53 rfl rfl ?_
      refine jm_addN (Y := YX6_stir) (pc := 54) dX6_stir_54 ?_
      refine jm_iload (Y := YX6_stir) (pc := 55) dX6_stir_55 rfl ?_
      refine jm_iasW (Y := YX6_stir) (pc := 57) (M0 := M0) (w := w) dX6_stir_57 rfl rfl (by omega) ?_
      have hG0 := hg.sp (c := c) (v := v) (by omega) (by omega)
      have hG := p_on_rG hG0 N (by omega)
      refine jm_ald_n (Y := YX6_stir) (pc := 58) (i := 0) dX6_stir_58 rfl rfl ?_
      refine jm_ild_n (Y := YX6_stir) (pc := 59) (i := 3) dX6_stir_59 rfl rfl ?_
      refine jm_V1ve (Y := YX6_stir) (pc := 60) dX6_stir_60 lk_RX6_192 rfl rfl rfl (by decide) (Nat.le_of_ble_eq_true rfl) ⟨by decide, by decide⟩ (c_goT (wU w (5 + c) v) N M0 hG0 (by omega)) ?_
      refine jm_ald_n (Y := YX6_stir) (pc := 63) (i := 0) dX6_stir_63 rfl rfl ?_
      refine jm_getR (Y := YX6_stir) (pc := 64) dX6_stir_64 fr_RX6_31 rfl (by decide) rfl ?_
      refine jm_bpN (Y := YX6_stir) (pc := 67) 17 dX6_stir_67 rfl ?_
      refine jm_icN (Y := YX6_stir) (pc := 69) 4 dX6_stir_69 rfl ?_
      refine jm_ild_n (Y := YX6_stir) (pc := 70) (i := 1) dX6_stir_70 rfl rfl ?_
      refine jm_mulN (Y := YX6_stir) (pc := 71) dX6_stir_71 ?_
      refine jm_addN (Y := YX6_stir) (pc := 72) dX6_stir_72 ?_
      refine jm_icN (Y := YX6_stir) (pc := 73) 3 dX6_stir_73 rfl ?_
      refine jm_addN (Y := YX6_stir) (pc := 74) dX6_stir_74 ?_
      refine jm_ialN (Y := YX6_stir) (pc := 75) dX6_stir_75 (by first | assumption | exact jm_arR1 ha | exact jm_arR2 ha | exact jm_arR3 ha | exact jm_arR1 hb | exact jm_arR2 hb | exact jm_arR3 hb | rfl) (by first | omega | exact jm_lt hb _ | exact jm_lt hG.hb _) (by first | assumption | exact jm_rdW | exact jm_rdN (jm_17 hM) | rfl) ?_
      refine jm_icN (Y := YX6_stir) (pc := 76) 1 dX6_stir_76 rfl ?_
      refine jm_icmp_neN (Y := YX6_stir) (pc := 77) dX6_stir_77 rfl (by first | omega | exact jm_lt hb _ | exact jm_lt hG.hb _) (by first | omega | exact jm_lt hb _ | exact jm_lt hG.hb _) (fun h_77 => ?_) (fun h_77 => ?_)
      · refine jm_incN (Y := YX6_stir) (pc := 83) (m := 1) (ls' := [_, _, _, _, _]) dX6_stir_83 rfl rfl rfl rfl ?_
        refine jm_goto (Y := YX6_stir) (pc := 86) dX6_stir_86 rfl ?_
        have e : p_st w k c N (4 - v) v = p_st w k c N (4 - (v + 1)) (v + 1) := by { rw [show 4 - v = (4 - (v + 1)) + 1 by omega]; show (if _ then _ else _) = _; rw [if_neg h_77] }
        rw [e]
        exact ih (v + 1) _ (by omega) hG.z (by omega)
      · refine jm_iload (Y := YX6_stir) (pc := 80) dX6_stir_80 rfl ?_
        refine jm_ret (Y := YX6_stir) (pc := 82) (st := []) dX6_stir_82 rfl rfl ?_
        exact jm_qi hG.z (by rw [show 4 - v = (4 - (v + 1)) + 1 by omega]; show _ = (if _ then _ else _); rw [if_pos (by first | assumption | exact Decidable.not_not.mp h_77)])
def q_stir (w : Nat → Nat) (v c n : Int32) : Int32 := if 0 ≤ v.toInt ∧ v.toInt < w 3 ∧ 0 ≤ c.toInt ∧ c.toInt < w 2 ∧ 1 ≤ n.toInt ∧ n.toInt ≤ 30 then p_st w v.toInt.toNat c.toInt.toNat n.toInt.toNat 4 0 else -1000001
theorem c_stir (w g : Nat → Nat) (M0 : jm_M) (hM : M0 17 = jm_n w) (hg : rG w) (hz : ∀ j, 45 ≤ j → g j = 0) (hm : w 4 ≤ 9999) (v c n : Int32) : jm_J none YX6_stir 0 [some (.ref 11), some (.int v), some (.int c), some (.int n), none] [] (jm_sf M0 19 (jm_n g)) (jm_q M0 (q_stir w v c n)) := by
  have hb := hg.hb
  have h3 := hg.1.2.2.2.1
  have h2 := hg.1.2.2.1
  refine jm_ald_n (Y := YX6_stir) (pc := 0) (i := 0) dX6_stir_0 rfl rfl ?_
  refine jm_ild_n (Y := YX6_stir) (pc := 1) (i := 1) dX6_stir_1 rfl rfl ?_
  refine jm_V1ie (Y := YX6_stir) (pc := 2) dX6_stir_2 lk_RX6_176 ⟨_, rfl⟩ rfl rfl (by decide) (Nat.le_of_ble_eq_true rfl) ⟨by decide, by decide⟩ (c_isWord w _ (jm_17 hM) hg _) ?_
  refine jm_if_eqB (Y := YX6_stir) (pc := 5) dX6_stir_5 rfl (fun h_5 => ?_) (fun h_5 => ?_)
  · refine jm_ldc (Y := YX6_stir) (pc := 23) (v := -1000001) dX6_stir_23 kc_RX6_61 ?_
    refine jm_ret (Y := YX6_stir) (pc := 25) (st := []) dX6_stir_25 rfl rfl ?_
    unfold q_stir
    exact jm_qi hz (by rw [if_neg (by omega)])
  · refine jm_ald_n (Y := YX6_stir) (pc := 8) (i := 0) dX6_stir_8 rfl rfl ?_
    refine jm_ild_n (Y := YX6_stir) (pc := 9) (i := 2) dX6_stir_9 rfl rfl ?_
    refine jm_V1ie (Y := YX6_stir) (pc := 10) dX6_stir_10 lk_RX6_179 ⟨_, rfl⟩ rfl rfl (by decide) (Nat.le_of_ble_eq_true rfl) ⟨by decide, by decide⟩ (c_isCell w _ (jm_17 hM) hg _) ?_
    refine jm_if_eqB (Y := YX6_stir) (pc := 13) dX6_stir_13 rfl (fun h_13 => ?_) (fun h_13 => ?_)
    · refine jm_ldc (Y := YX6_stir) (pc := 23) (v := -1000001) dX6_stir_23 kc_RX6_61 ?_
      refine jm_ret (Y := YX6_stir) (pc := 25) (st := []) dX6_stir_25 rfl rfl ?_
      unfold q_stir
      exact jm_qi hz (by rw [if_neg (by omega)])
    · refine jm_ild_n (Y := YX6_stir) (pc := 16) (i := 3) dX6_stir_16 rfl rfl ?_
      refine jm_S1ie (Y := YX6_stir) (pc := 17) dX6_stir_17 lk_RX6_202 ⟨_, rfl⟩ rfl (by decide) (Nat.le_of_ble_eq_true rfl) ⟨by decide, by decide⟩ (c_isNearN _ _) ?_
      refine jm_if_neB (Y := YX6_stir) (pc := 20) dX6_stir_20 rfl (fun h_20 => ?_) (fun h_20 => ?_)
      · obtain ⟨k, h_k, rfl, t_k, n_k⟩ := jm_ofL (v := v) (n := w 3) (by omega) (by omega)
        obtain ⟨cc, h_cc, rfl, t_cc, n_cc⟩ := jm_ofL (v := c) (n := w 2) (by omega) (by omega)
        obtain ⟨N, h_N, rfl, t_N, n_N⟩ := jm_ofL (v := n) (n := 31) (by omega) (by omega)
        refine jm_icN (Y := YX6_stir) (pc := 26) 0 dX6_stir_26 rfl ?_
        refine jm_ist (Y := YX6_stir) (pc := 27) (ls' := [_, _, _, _, _]) dX6_stir_27 (Nat.le_of_ble_eq_true rfl) rfl rfl ?_
        have e : q_stir w (nI k) (nI cc) (nI N) = p_st w k cc N 4 0 := by { unfold q_stir; rw [if_pos (by omega), n_k, n_cc, n_N] }
        rw [e]
        exact c_stir0 w M0 hM hg hm k cc N (by omega) (by omega) (by omega) 5 0 g (by omega) hz (by omega)
      · refine jm_ldc (Y := YX6_stir) (pc := 23) (v := -1000001) dX6_stir_23 kc_RX6_61 ?_
        refine jm_ret (Y := YX6_stir) (pc := 25) (st := []) dX6_stir_25 rfl rfl ?_
        unfold q_stir
        exact jm_qi hz (by rw [if_neg (by omega)])
def p_on1 (s : Nat) : Nat → Nat
  | 0 => 0
  | k + 1 => p_on1 s k + s / 2 ^ k % 2
def p_ones (s : Nat) : Nat := p_on1 s 12
theorem p_on1_le (s : Nat) : ∀ k, p_on1 s k ≤ k
  | 0 => Nat.le_refl _
  | k + 1 => by
    have := p_on1_le s k
    have : s / 2 ^ k % 2 < 2 := Nat.mod_lt _ (by decide)
    show p_on1 s k + s / 2 ^ k % 2 ≤ k + 1
    omega
theorem c_ones0 (s : Nat) (M : jm_M) (hs : s < 2147483648) : ∀ (m : Nat) (k : Nat), k ≤ 12 → 12 - k < m → jm_J none YX6_ones 4 [some (.int (nI s)), some (.int (nI (p_on1 s k))), some (.int (nI k))] [] M (jm_is (some (.int (nI (p_ones s)))) M) := by
  intro m
  induction m with
  | zero => intros; omega
  | succ m ih =>
    intro k hk hm
    refine jm_ild_n (Y := YX6_ones) (pc := 4) (i := 2) dX6_ones_4 rfl rfl ?_
    refine jm_bpN (Y := YX6_ones) (pc := 5) 12 dX6_ones_5 rfl ?_
    refine jm_icmp_geN (Y := YX6_ones) (pc := 7) dX6_ones_7 rfl (by omega) (by omega) (fun h_7 => ?_) (fun h_7 => ?_)
    · refine jm_ild_n (Y := YX6_ones) (pc := 24) (i := 1) dX6_ones_24 rfl rfl ?_
      refine jm_ret (Y := YX6_ones) (pc := 25) (st := []) dX6_ones_25 rfl rfl ?_
      have ek : k = 12 := by omega
      subst ek
      exact ⟨rfl, rfl⟩
    · refine jm_ild_n (Y := YX6_ones) (pc := 10) (i := 1) dX6_ones_10 rfl rfl ?_
      refine jm_ild_n (Y := YX6_ones) (pc := 11) (i := 0) dX6_ones_11 rfl rfl ?_
      refine jm_ild_n (Y := YX6_ones) (pc := 12) (i := 2) dX6_ones_12 rfl rfl ?_
      refine jm_shrN (Y := YX6_ones) (pc := 13) dX6_ones_13 hs (by omega) ?_
      refine jm_icN (Y := YX6_ones) (pc := 14) 1 dX6_ones_14 rfl ?_
      refine jm_and1 (Y := YX6_ones) (pc := 15) dX6_ones_15 (Nat.lt_of_le_of_lt (Nat.div_le_self _ _) (by omega)) ?_
      refine jm_addN (Y := YX6_ones) (pc := 16) dX6_ones_16 ?_
      refine jm_ist_n (Y := YX6_ones) (pc := 17) (i := 1) (ls' := [_, _, _]) dX6_ones_17 rfl (Nat.le_of_ble_eq_true rfl) rfl rfl ?_
      refine jm_incN (Y := YX6_ones) (pc := 18) (m := 1) (ls' := [_, _, _]) dX6_ones_18 rfl rfl rfl rfl ?_
      refine jm_goto (Y := YX6_ones) (pc := 21) dX6_ones_21 rfl ?_
      exact ih (k + 1) (by omega) (by omega)
theorem c_ones (s : Nat) (M : jm_M) (hs : s < 2147483648) : jm_J none YX6_ones 0 [some (.int (nI s)), none, none] [] M (jm_is (some (.int (nI (p_ones s)))) M) := by
  refine jm_icN (Y := YX6_ones) (pc := 0) 0 dX6_ones_0 rfl ?_
  refine jm_ist_n (Y := YX6_ones) (pc := 1) (i := 1) (ls' := [_, _, _]) dX6_ones_1 rfl (Nat.le_of_ble_eq_true rfl) rfl rfl ?_
  refine jm_icN (Y := YX6_ones) (pc := 2) 0 dX6_ones_2 rfl ?_
  refine jm_ist_n (Y := YX6_ones) (pc := 3) (i := 2) (ls' := [_, _, _]) dX6_ones_3 rfl (Nat.le_of_ble_eq_true rfl) rfl rfl ?_
  exact c_ones0 s M hs 13 0 (by omega) (by omega)
def p_sd (w : Nat → Nat) (s : Nat) : Nat → Nat → Nat
  | 0 => w
  | c + 1 => wU (p_sd w s c) (5 + c) (if s / 2 ^ c % 2 = 1 then 3 else w (5 + c))
theorem p_sd_rG {w : Nat → Nat} (h : rG w) (s : Nat) : ∀ c, c ≤ 12 → rG (p_sd w s c)
  | 0, _ => h
  | c + 1, hc => (p_sd_rG h s c (by omega)).sp (by omega) (by have := h.2.1 c (by omega); split <;> omega)
theorem p_sd_o (w : Nat → Nat) (s : Nat) {j : Nat} : ∀ c, (j < 5 ∨ 5 + c ≤ j) → p_sd w s c j = w j
  | 0, _ => rfl
  | c + 1, h => by
    show wU (p_sd w s c) (5 + c) _ j = w j
    rw [wU_n _ _ (by omega)]
    exact p_sd_o w s c (by omega)
def p_fw (b : Option Nat) (s : Nat) : Prop := b = none ∨ p_ones s < p_ones (b.getD 0)
def p_ag (w : Nat → Nat) (n s : Nat) : Prop := p_gn (p_on (p_sd w s (w 2)) n) (w 3) = 2 ^ w 3 - 1
noncomputable def p_sw (w : Nat → Nat) (n : Nat) : Nat → Option Nat
  | 0 => none
  | s + 1 => @ite _ (p_fw (p_sw w n s) s ∧ p_ag w n s) (Classical.propDecidable _) (some s) (p_sw w n s)
theorem p_sw_t {w : Nat → Nat} {n s : Nat} (h1 : p_fw (p_sw w n s) s) (h2 : p_ag w n s) : p_sw w n (s + 1) = some s := @if_pos _ (Classical.propDecidable _) ⟨h1, h2⟩ _ _ _
theorem p_sw_f {w : Nat → Nat} {n s : Nat} (h : ¬ (p_fw (p_sw w n s) s ∧ p_ag w n s)) : p_sw w n (s + 1) = p_sw w n s := @if_neg _ (Classical.propDecidable _) h _ _ _
theorem p_sw_lt (w : Nat → Nat) (n : Nat) : ∀ s b, p_sw w n s = some b → b < s
  | 0, b, h => by cases h
  | s + 1, b, h => by
    by_cases q : p_fw (p_sw w n s) s ∧ p_ag w n s
    · rw [p_sw_t q.1 q.2] at h
      cases h; omega
    · rw [p_sw_f q] at h
      have := p_sw_lt w n s b h
      omega
theorem c_swift2 (w : Nat → Nat) (M0 : jm_M) (hM : M0 17 = jm_n w) (hg : rG w) (hm : w 4 ≤ 9999) (N : Nat) (hN : N ≤ 30) (a : Int32) (s : Nat) (hs : s < 4096) (b xi : Int32) (Q : Option Value → jm_M → Prop) (K : ∀ y, jm_J none YX6_swift 143 [some (.ref 11), some (.int (nI N)), some (.int a), some (.int b), some (.int (nI s)), some (.int xi), y] [] (jm_sf M0 19 (jm_n (p_sd w s (w 2)))) Q) : ∀ (m : Nat) (c : Nat), c ≤ w 2 → w 2 - c < m → jm_J none YX6_swift 94 [some (.ref 11), some (.int (nI N)), some (.int a), some (.int b), some (.int (nI s)), some (.int xi), some (.int (nI c))] [] (jm_sf M0 19 (jm_n (p_sd w s c))) Q := by
  intro m
  induction m with
  | zero => intros; omega
  | succ m ih =>
    intro c hc hmm
    have hb := hg.hb
    have h3 := hg.1.2.2.2.1
    have h2 := hg.1.2.2.1
    refine jm_iload (Y := YX6_swift) (pc := 94) dX6_swift_94 rfl ?_
    refine jm_ald_n (Y := YX6_swift) (pc := 96) (i := 0) dX6_swift_96 rfl rfl ?_
    refine jm_getR (Y := YX6_swift) (pc := 97) dX6_swift_97 fr_RX6_25 rfl (by decide) rfl ?_
    refine jm_icN (Y := YX6_swift) (pc := 100) 2 dX6_swift_100 rfl ?_
    refine jm_ialN (Y := YX6_swift) (pc := 101) dX6_swift_101 (by first | assumption | exact jm_arR1 ha | exact jm_arR2 ha | exact jm_arR3 ha | exact jm_arR1 hb | exact jm_arR2 hb | exact jm_arR3 hb | rfl) (by first | omega | exact jm_lt hb _) (by first | assumption | exact jm_rdW | exact jm_rdN (jm_17 hM) | rfl) ?_
    refine jm_icmp_geN (Y := YX6_swift) (pc := 102) dX6_swift_102 rfl (by first | omega | exact jm_lt hb _) (by first | omega | exact jm_lt hb _) (fun h_102 => ?_) (fun h_102 => ?_)
    · have ec : c = w 2 := by omega
      subst ec
      exact K _
    · refine jm_ald_n (Y := YX6_swift) (pc := 105) (i := 0) dX6_swift_105 rfl rfl ?_
      refine jm_getR (Y := YX6_swift) (pc := 106) dX6_swift_106 fr_RX6_31 rfl (by decide) rfl ?_
      refine jm_icN (Y := YX6_swift) (pc := 109) 5 dX6_swift_109 rfl ?_
      refine jm_iload (Y := YX6_swift) (pc := 110) dX6_swift_110 rfl ?_
      refine jm_addN (Y := YX6_swift) (pc := 112) dX6_swift_112 ?_
      refine jm_iload (Y := YX6_swift) (pc := 113) dX6_swift_113 rfl ?_
      refine jm_iload (Y := YX6_swift) (pc := 115) dX6_swift_115 rfl ?_
      refine jm_S2ie (Y := YX6_swift) (pc := 117) dX6_swift_117 lk_RX6_142 ⟨_, rfl⟩ rfl rfl (by decide) (Nat.le_of_ble_eq_true rfl) ⟨by decide, by decide⟩ (c_has _ _ _ (by omega) (by omega)) ?_
      refine jm_if_eqB (Y := YX6_swift) (pc := 120) dX6_swift_120 rfl (fun h_120 => ?_) (fun h_120 => ?_)
      · refine jm_ald_n (Y := YX6_swift) (pc := 127) (i := 0) dX6_swift_127 rfl rfl ?_
        refine jm_getR (Y := YX6_swift) (pc := 128) dX6_swift_128 fr_RX6_25 rfl (by decide) rfl ?_
        refine jm_icN (Y := YX6_swift) (pc := 131) 5 dX6_swift_131 rfl ?_
        refine jm_iload (Y := YX6_swift) (pc := 132) dX6_swift_132 rfl ?_
        refine jm_addN (Y := YX6_swift) (pc := 134) dX6_swift_134 ?_
        refine jm_ialN (Y := YX6_swift) (pc := 135) dX6_swift_135 (by first | assumption | exact jm_arR1 ha | exact jm_arR2 ha | exact jm_arR3 ha | exact jm_arR1 hb | exact jm_arR2 hb | exact jm_arR3 hb | rfl) (by first | omega | exact jm_lt hb _) (by first | assumption | exact jm_rdW | exact jm_rdN (jm_17 hM) | rfl) ?_
        first | (refine jm_iasW (Y := YX6_swift) (pc := 136) (v := 3) (M0 := M0) (w := p_sd w s c) dX6_swift_136 rfl rfl (by omega) ?_; have e : p_sd w s (c + 1) = wU (p_sd w s c) (5 + c) 3 := by { show wU _ _ (if _ then _ else _) = _; rw [if_pos h_120] }; rw [← e]) | (refine jm_iasW (Y := YX6_swift) (pc := 136) (v := w (5 + c)) (M0 := M0) (w := p_sd w s c) dX6_swift_136 rfl rfl (by omega) ?_; have e : p_sd w s (c + 1) = wU (p_sd w s c) (5 + c) (w (5 + c)) := by { show wU _ _ (if _ then _ else _) = _; rw [if_neg h_120] }; rw [← e]) | fail
        refine jm_incN (Y := YX6_swift) (pc := 137) (m := 1) (ls' := [_, _, _, _, _, _, _]) dX6_swift_137 rfl rfl rfl rfl ?_
        refine jm_goto (Y := YX6_swift) (pc := 140) dX6_swift_140 rfl ?_
        exact ih (c + 1) (by omega) (by omega)
      · refine jm_icN (Y := YX6_swift) (pc := 123) 3 dX6_swift_123 rfl ?_
        refine jm_goto (Y := YX6_swift) (pc := 124) dX6_swift_124 rfl ?_
        first | (refine jm_iasW (Y := YX6_swift) (pc := 136) (v := 3) (M0 := M0) (w := p_sd w s c) dX6_swift_136 rfl rfl (by omega) ?_; have e : p_sd w s (c + 1) = wU (p_sd w s c) (5 + c) 3 := by { show wU _ _ (if _ then _ else _) = _; rw [if_pos h_120] }; rw [← e]) | (refine jm_iasW (Y := YX6_swift) (pc := 136) (v := w (5 + c)) (M0 := M0) (w := p_sd w s c) dX6_swift_136 rfl rfl (by omega) ?_; have e : p_sd w s (c + 1) = wU (p_sd w s c) (5 + c) (w (5 + c)) := by { show wU _ _ (if _ then _ else _) = _; rw [if_neg h_120] }; rw [← e]) | fail
        refine jm_incN (Y := YX6_swift) (pc := 137) (m := 1) (ls' := [_, _, _, _, _, _, _]) dX6_swift_137 rfl rfl rfl rfl ?_
        refine jm_goto (Y := YX6_swift) (pc := 140) dX6_swift_140 rfl ?_
        exact ih (c + 1) (by omega) (by omega)
theorem p_gn_le {w : Nat → Nat} (h : rG w) : ∀ n, n ≤ 7 → p_gn w n < 2 ^ n
  | 0, _ => by show 0 < 1; decide
  | n + 1, hn => by
    have i := p_gn_le h n (by omega)
    have g := (h.2.2.1 n (by omega)).2.2.2
    show p_gn w n ||| _ < _
    apply Nat.or_lt_two_pow
    · rw [Nat.pow_succ]; omega
    · have : w (17 + 4 * n + 3) * 2 ^ n ≤ 1 * 2 ^ n := Nat.mul_le_mul_right _ g
      have p1 : 0 < 2 ^ n := Nat.two_pow_pos n
      rw [Nat.pow_succ]; omega
theorem c_swift1 (w : Nat → Nat) (M0 : jm_M) (hM : M0 17 = jm_n w) (hg : rG w) (hm : w 4 ≤ 9999) (N : Nat) (hN : N ≤ 30) (a : Int32) (s : Nat) (hs : s < 4096) (o : Option Nat) (g : Nat → Nat) (hz : ∀ j, 45 ≤ j → g j = 0) (x y : Option Value) (q : Prop) [Decidable q] (Q : Option Value → jm_M → Prop) (K1 : q → p_ag w N s → ∀ x y g, (∀ j, 45 ≤ j → g j = 0) → jm_J none YX6_swift 35 [some (.ref 11), some (.int (nI N)), some (.int a), some (.int (nI s)), some (.int (nI (s + 1))), x, y] [] (jm_sf M0 19 (jm_n g)) Q) (K2 : ¬ (q ∧ p_ag w N s) → ∀ x y g, (∀ j, 45 ≤ j → g j = 0) → jm_J none YX6_swift 35 [some (.ref 11), some (.int (nI N)), some (.int a), some (.int (jm_o o)), some (.int (nI (s + 1))), x, y] [] (jm_sf M0 19 (jm_n g)) Q) : jm_J none YX6_swift 71 [some (.ref 11), some (.int (nI N)), some (.int a), some (.int (jm_o o)), some (.int (nI s)), x, y] [.int (jm_b q)] (jm_sf M0 19 (jm_n g)) Q := by
  have hb := hg.hb
  have h3 := hg.1.2.2.2.1
  have h2 := hg.1.2.2.1
  refine jm_ist (Y := YX6_swift) (pc := 71) (ls' := [_, _, _, _, _, _, _]) dX6_swift_71 (Nat.le_of_ble_eq_true rfl) rfl rfl ?_
  refine jm_iload (Y := YX6_swift) (pc := 73) dX6_swift_73 rfl ?_
  refine jm_if_eqB (Y := YX6_swift) (pc := 75) dX6_swift_75 rfl (fun h_75 => ?_) (fun h_75 => ?_)
  · refine jm_incN (Y := YX6_swift) (pc := 172) (m := 1) (ls' := [_, _, _, _, _, _, _]) dX6_swift_172 rfl rfl rfl rfl ?_
    refine jm_goto (Y := YX6_swift) (pc := 175) dX6_swift_175 rfl ?_
    first | exact K1 h_75 h_162 _ _ _ hG.z | exact K1 h_75 (Decidable.not_not.mp h_162) _ _ _ hG.z | exact K2 (fun z => h_162 z.2) _ _ _ hG.z | exact K2 (fun z => h_75 z.1) _ _ _ hz | fail
  · refine jm_ald_n (Y := YX6_swift) (pc := 78) (i := 0) dX6_swift_78 rfl rfl ?_
    refine jm_getR (Y := YX6_swift) (pc := 79) dX6_swift_79 fr_RX6_25 rfl (by decide) rfl ?_
    refine jm_icN (Y := YX6_swift) (pc := 82) 0 dX6_swift_82 rfl ?_
    refine jm_ald_n (Y := YX6_swift) (pc := 83) (i := 0) dX6_swift_83 rfl rfl ?_
    refine jm_getR (Y := YX6_swift) (pc := 84) dX6_swift_84 fr_RX6_31 rfl (by decide) rfl ?_
    refine jm_icN (Y := YX6_swift) (pc := 87) 0 dX6_swift_87 rfl ?_
    refine jm_S4ve (Y := YX6_swift) (pc := 88) dX6_swift_88 lk_RX6_135 rfl rfl rfl rfl rfl (by decide) (Nat.le_of_ble_eq_true rfl) ⟨by decide, by decide⟩ (c_cpT w _ M0 hM hg.z hz) ?_
    refine jm_icN (Y := YX6_swift) (pc := 91) 0 dX6_swift_91 rfl ?_
    refine jm_ist (Y := YX6_swift) (pc := 92) (ls' := [_, _, _, _, _, _, _]) dX6_swift_92 (Nat.le_of_ble_eq_true rfl) rfl rfl ?_
    refine c_swift2 w M0 hM hg hm N hN a s hs (jm_o o) _ Q (fun y => ?_) (w 2 + 1) 0 (by omega) (by omega)
    refine jm_ald_n (Y := YX6_swift) (pc := 143) (i := 0) dX6_swift_143 rfl rfl ?_
    refine jm_ild_n (Y := YX6_swift) (pc := 144) (i := 1) dX6_swift_144 rfl rfl ?_
    refine jm_V1ve (Y := YX6_swift) (pc := 145) dX6_swift_145 lk_RX6_192 rfl rfl rfl (by decide) (Nat.le_of_ble_eq_true rfl) ⟨by decide, by decide⟩ (c_goT (p_sd w s (w 2)) N M0 (p_sd_rG hg s (w 2) (by omega)) (by rw [p_sd_o w s (w 2) (by omega)]; omega)) ?_
    refine jm_ald_n (Y := YX6_swift) (pc := 148) (i := 0) dX6_swift_148 rfl rfl ?_
    have hGd := p_sd_rG hg s (w 2) (by omega)
    have hG := p_on_rG hGd N (by rw [p_sd_o w s (w 2) (by omega)]; omega)
    have e3 : p_on (p_sd w s (w 2)) N 3 = w 3 := by { rw [p_on_hd _ (by decide) (by decide), p_sd_o w s (w 2) (by omega)] }
    have gl := p_gn_le hG (w 3) (by omega)
    have g2 := p_2n (show w 3 ≤ 12 by omega)
    have g3 : 1 ≤ 2 ^ w 3 := Nat.one_le_two_pow
    refine jm_getR (Y := YX6_swift) (pc := 149) dX6_swift_149 fr_RX6_31 rfl (by decide) rfl ?_
    refine jm_S1ie (Y := YX6_swift) (pc := 152) dX6_swift_152 lk_RX6_172 ⟨_, rfl⟩ rfl (by decide) (Nat.le_of_ble_eq_true rfl) ⟨by decide, by decide⟩ (c_goneOf _ (p_on (p_sd w s (w 2)) N) _ rfl jm_rdF hG) ?_
    rw [e3]
    refine jm_ald_n (Y := YX6_swift) (pc := 155) (i := 0) dX6_swift_155 rfl rfl ?_
    refine jm_getR (Y := YX6_swift) (pc := 156) dX6_swift_156 fr_RX6_25 rfl (by decide) rfl ?_
    refine jm_S1ie (Y := YX6_swift) (pc := 159) dX6_swift_159 lk_RX6_199 ⟨_, rfl⟩ rfl (by decide) (Nat.le_of_ble_eq_true rfl) ⟨by decide, by decide⟩ (c_all _ w _ rfl (jm_17 hM) hg) ?_
    refine jm_icmp_neN (Y := YX6_swift) (pc := 162) dX6_swift_162 rfl (by first | omega | exact jm_lt hb _) (by first | omega | exact jm_lt hb _) (fun h_162 => ?_) (fun h_162 => ?_)
    · refine jm_ild_n (Y := YX6_swift) (pc := 170) (i := 3) dX6_swift_170 rfl rfl ?_
      refine jm_ist_n (Y := YX6_swift) (pc := 171) (i := 3) (ls' := [_, _, _, _, _, _, _]) dX6_swift_171 rfl (Nat.le_of_ble_eq_true rfl) rfl rfl ?_
      refine jm_incN (Y := YX6_swift) (pc := 172) (m := 1) (ls' := [_, _, _, _, _, _, _]) dX6_swift_172 rfl rfl rfl rfl ?_
      refine jm_goto (Y := YX6_swift) (pc := 175) dX6_swift_175 rfl ?_
      first | exact K1 h_75 h_162 _ _ _ hG.z | exact K1 h_75 (Decidable.not_not.mp h_162) _ _ _ hG.z | exact K2 (fun z => h_162 z.2) _ _ _ hG.z | fail
    · refine jm_iload (Y := YX6_swift) (pc := 165) dX6_swift_165 rfl ?_
      refine jm_goto (Y := YX6_swift) (pc := 167) dX6_swift_167 rfl ?_
      refine jm_ist_n (Y := YX6_swift) (pc := 171) (i := 3) (ls' := [_, _, _, _, _, _, _]) dX6_swift_171 rfl (Nat.le_of_ble_eq_true rfl) rfl rfl ?_
      refine jm_incN (Y := YX6_swift) (pc := 172) (m := 1) (ls' := [_, _, _, _, _, _, _]) dX6_swift_172 rfl rfl rfl rfl ?_
      refine jm_goto (Y := YX6_swift) (pc := 175) dX6_swift_175 rfl ?_
      first | exact K1 h_75 h_162 _ _ _ hG.z | exact K1 h_75 (Decidable.not_not.mp h_162) _ _ _ hG.z | exact K2 (fun z => h_162 z.2) _ _ _ hG.z | fail
theorem c_swift0 (w : Nat → Nat) (M0 : jm_M) (hM : M0 17 = jm_n w) (hg : rG w) (hm : w 4 ≤ 9999) (N : Nat) (hN : N ≤ 30) (a : Int32) : ∀ (m : Nat) (s : Nat) (g : Nat → Nat) (x y : Option Value), s ≤ 2 ^ w 2 → (∀ j, 45 ≤ j → g j = 0) → 2 ^ w 2 - s < m → jm_J none YX6_swift 35 [some (.ref 11), some (.int (nI N)), some (.int a), some (.int (jm_o (p_sw w N s))), some (.int (nI s)), x, y] [] (jm_sf M0 19 (jm_n g)) (jm_q M0 (if p_sw w N (2 ^ w 2) = none ∨ a.toInt = 1 then jm_o (p_sw w N (2 ^ w 2)) else nI (p_ones ((p_sw w N (2 ^ w 2)).getD 0)))) := by
  intro m
  induction m with
  | zero => intros; omega
  | succ m ih =>
    intro s g x y hs hz hmm
    have hb := hg.hb
    have h3 := hg.1.2.2.2.1
    have h2 := hg.1.2.2.1
    have g2 := p_2n (show w 2 ≤ 12 by omega)
    have on := jm_o_n (o := p_sw w N s) (fun b e => by have := p_sw_lt w N s b e; omega)
    refine jm_iload (Y := YX6_swift) (pc := 35) dX6_swift_35 rfl ?_
    refine jm_icN (Y := YX6_swift) (pc := 37) 1 dX6_swift_37 rfl ?_
    refine jm_ald_n (Y := YX6_swift) (pc := 38) (i := 0) dX6_swift_38 rfl rfl ?_
    refine jm_getR (Y := YX6_swift) (pc := 39) dX6_swift_39 fr_RX6_25 rfl (by decide) rfl ?_
    refine jm_icN (Y := YX6_swift) (pc := 42) 2 dX6_swift_42 rfl ?_
    refine jm_ialN (Y := YX6_swift) (pc := 43) dX6_swift_43 (by first | assumption | exact jm_arR1 ha | exact jm_arR2 ha | exact jm_arR3 ha | exact jm_arR1 hb | exact jm_arR2 hb | exact jm_arR3 hb | rfl) (by first | omega | exact jm_lt hb _) (by first | assumption | exact jm_rdW | exact jm_rdN (jm_17 hM) | rfl) ?_
    refine jm_shlN (Y := YX6_swift) (pc := 44) dX6_swift_44 (by omega) (by omega) ?_
    rw [Nat.one_mul]
    refine jm_icmp_geN (Y := YX6_swift) (pc := 45) dX6_swift_45 rfl (by first | omega | exact jm_lt hb _) (by first | omega | exact jm_lt hb _) (fun h_45 => ?_) (fun h_45 => ?_)
    · refine jm_ild_n (Y := YX6_swift) (pc := 178) (i := 3) dX6_swift_178 rfl rfl ?_
      refine jm_ldc (Y := YX6_swift) (pc := 179) (v := -1000000) dX6_swift_179 kc_RX6_47 ?_
      refine jm_icmp_eq (Y := YX6_swift) (pc := 181) dX6_swift_181 rfl (fun h_181 => ?_) (fun h_181 => ?_)
      · refine jm_ild_n (Y := YX6_swift) (pc := 189) (i := 3) dX6_swift_189 rfl rfl ?_
        refine jm_goto (Y := YX6_swift) (pc := 190) dX6_swift_190 rfl ?_
        refine jm_ret (Y := YX6_swift) (pc := 197) (st := []) dX6_swift_197 rfl rfl ?_
        have es9 : s = 2 ^ w 2 := (by omega); subst es9; first | exact jm_qi hz (by rw [if_pos (Or.inl (on.mp h_181))]) | exact jm_qi hz (by rw [if_pos (Or.inr (by rw [h_186]; decide))]) | exact jm_qi hz (by rw [if_pos (Or.inr (by rw [Decidable.not_not.mp h_186]; decide))])
      · refine jm_ild_n (Y := YX6_swift) (pc := 184) (i := 2) dX6_swift_184 rfl rfl ?_
        refine jm_icN (Y := YX6_swift) (pc := 185) 1 dX6_swift_185 rfl ?_
        refine jm_icmp_ne (Y := YX6_swift) (pc := 186) dX6_swift_186 rfl (fun h_186 => ?_) (fun h_186 => ?_)
        · have es : s = 2 ^ w 2 := by omega
          subst es
          obtain ⟨b, eb⟩ : ∃ b, p_sw w N (2 ^ w 2) = some b := by { cases hb9 : p_sw w N (2 ^ w 2); exact absurd (on.mpr hb9) h_181; exact ⟨_, rfl⟩ }
          have lb := p_sw_lt w N _ b eb
          rw [eb]
          refine jm_ild_n (Y := YX6_swift) (pc := 193) (i := 3) dX6_swift_193 rfl rfl ?_
          refine jm_S1ie (Y := YX6_swift) (pc := 194) dX6_swift_194 lk_RX6_205 ⟨_, rfl⟩ rfl (by decide) (Nat.le_of_ble_eq_true rfl) ⟨by decide, by decide⟩ (c_ones b _ (by omega)) ?_
          refine jm_ret (Y := YX6_swift) (pc := 197) (st := []) dX6_swift_197 rfl rfl ?_
          exact jm_qi hz (by rw [if_neg (by intro z; rcases z with z | z; cases z; exact h_186 (Int32.toInt_inj.mp (by rw [z]; decide)))]; rfl)
        · refine jm_ild_n (Y := YX6_swift) (pc := 189) (i := 3) dX6_swift_189 rfl rfl ?_
          refine jm_goto (Y := YX6_swift) (pc := 190) dX6_swift_190 rfl ?_
          refine jm_ret (Y := YX6_swift) (pc := 197) (st := []) dX6_swift_197 rfl rfl ?_
          have es9 : s = 2 ^ w 2 := (by omega); subst es9; first | exact jm_qi hz (by rw [if_pos (Or.inl (on.mp h_181))]) | exact jm_qi hz (by rw [if_pos (Or.inr (by rw [h_186]; decide))]) | exact jm_qi hz (by rw [if_pos (Or.inr (by rw [Decidable.not_not.mp h_186]; decide))])
    · refine jm_ild_n (Y := YX6_swift) (pc := 48) (i := 3) dX6_swift_48 rfl rfl ?_
      refine jm_ldc (Y := YX6_swift) (pc := 49) (v := -1000000) dX6_swift_49 kc_RX6_47 ?_
      refine jm_icmp_eq (Y := YX6_swift) (pc := 51) dX6_swift_51 rfl (fun h_51 => ?_) (fun h_51 => ?_)
      · refine jm_icN (Y := YX6_swift) (pc := 66) 1 dX6_swift_66 rfl ?_
        refine jm_goto (Y := YX6_swift) (pc := 67) dX6_swift_67 rfl ?_
        haveI _i : Decidable (p_fw (p_sw w N s) s) := Classical.propDecidable _
        have key := c_swift1 w M0 hM hg hm N hN a s (by omega) (p_sw w N s) g hz x y (p_fw (p_sw w N s) s) (jm_q M0 (if p_sw w N (2 ^ w 2) = none ∨ a.toInt = 1 then jm_o (p_sw w N (2 ^ w 2)) else nI (p_ones ((p_sw w N (2 ^ w 2)).getD 0)))) (fun hq ha x y g hz' => by { have k := ih (s + 1) g x y (by omega) hz' (by omega); rw [p_sw_t hq ha] at k; exact k }) (fun hn x y g hz' => by { have k := ih (s + 1) g x y (by omega) hz' (by omega); rw [p_sw_f hn] at k; exact k })
        first | (rw [jm_b_t (show p_fw (p_sw w N s) s from Or.inl (on.mp h_51))] at key; exact key) | (rw [jm_b_t (show p_fw (p_sw w N s) s by (rw [eb]; exact Or.inr h_63)), eb] at key; exact key) | (rw [jm_b_f (show ¬ p_fw (p_sw w N s) s by (rw [eb]; intro z; rcases z with z | z; cases z; exact absurd z (Nat.not_lt.mpr h_63))), eb] at key; exact key) | fail
      · refine jm_iload (Y := YX6_swift) (pc := 54) dX6_swift_54 rfl ?_
        refine jm_S1ie (Y := YX6_swift) (pc := 56) dX6_swift_56 lk_RX6_205 ⟨_, rfl⟩ rfl (by decide) (Nat.le_of_ble_eq_true rfl) ⟨by decide, by decide⟩ (c_ones _ _ (by omega)) ?_
        obtain ⟨b, eb⟩ : ∃ b, p_sw w N s = some b := by { cases hb9 : p_sw w N s; exact absurd (on.mpr hb9) h_51; exact ⟨_, rfl⟩ }
        have lb := p_sw_lt w N s b eb
        have o1 := p_on1_le s 12
        have o2 := p_on1_le b 12
        have u1 : p_ones s = p_on1 s 12 := rfl
        have u2 : p_ones b = p_on1 b 12 := rfl
        rw [eb]
        refine jm_ild_n (Y := YX6_swift) (pc := 59) (i := 3) dX6_swift_59 rfl rfl ?_
        refine jm_S1ie (Y := YX6_swift) (pc := 60) dX6_swift_60 lk_RX6_205 ⟨_, rfl⟩ rfl (by decide) (Nat.le_of_ble_eq_true rfl) ⟨by decide, by decide⟩ (c_ones b _ (by omega)) ?_
        refine jm_icmp_geN (Y := YX6_swift) (pc := 63) dX6_swift_63 rfl (by first | omega | exact jm_lt hb _) (by first | omega | exact jm_lt hb _) (fun h_63 => ?_) (fun h_63 => ?_)
        · refine jm_icN (Y := YX6_swift) (pc := 70) 0 dX6_swift_70 rfl ?_
          haveI _i : Decidable (p_fw (p_sw w N s) s) := Classical.propDecidable _
          have key := c_swift1 w M0 hM hg hm N hN a s (by omega) (p_sw w N s) g hz x y (p_fw (p_sw w N s) s) (jm_q M0 (if p_sw w N (2 ^ w 2) = none ∨ a.toInt = 1 then jm_o (p_sw w N (2 ^ w 2)) else nI (p_ones ((p_sw w N (2 ^ w 2)).getD 0)))) (fun hq ha x y g hz' => by { have k := ih (s + 1) g x y (by omega) hz' (by omega); rw [p_sw_t hq ha] at k; exact k }) (fun hn x y g hz' => by { have k := ih (s + 1) g x y (by omega) hz' (by omega); rw [p_sw_f hn] at k; exact k })
          first | (rw [jm_b_t (show p_fw (p_sw w N s) s from Or.inl (on.mp h_51))] at key; exact key) | (rw [jm_b_t (show p_fw (p_sw w N s) s by (rw [eb]; exact Or.inr h_63)), eb] at key; exact key) | (rw [jm_b_f (show ¬ p_fw (p_sw w N s) s by (rw [eb]; intro z; rcases z with z | z; cases z; exact absurd z (Nat.not_lt.mpr h_63))), eb] at key; exact key) | fail
        · refine jm_icN (Y := YX6_swift) (pc := 66) 1 dX6_swift_66 rfl ?_
          refine jm_goto (Y := YX6_swift) (pc := 67) dX6_swift_67 rfl ?_
          haveI _i : Decidable (p_fw (p_sw w N s) s) := Classical.propDecidable _
          have key := c_swift1 w M0 hM hg hm N hN a s (by omega) (p_sw w N s) g hz x y (p_fw (p_sw w N s) s) (jm_q M0 (if p_sw w N (2 ^ w 2) = none ∨ a.toInt = 1 then jm_o (p_sw w N (2 ^ w 2)) else nI (p_ones ((p_sw w N (2 ^ w 2)).getD 0)))) (fun hq ha x y g hz' => by { have k := ih (s + 1) g x y (by omega) hz' (by omega); rw [p_sw_t hq ha] at k; exact k }) (fun hn x y g hz' => by { have k := ih (s + 1) g x y (by omega) hz' (by omega); rw [p_sw_f hn] at k; exact k })
          first | (rw [jm_b_t (show p_fw (p_sw w N s) s from Or.inl (on.mp h_51))] at key; exact key) | (rw [jm_b_t (show p_fw (p_sw w N s) s by (rw [eb]; exact Or.inr h_63)), eb] at key; exact key) | (rw [jm_b_f (show ¬ p_fw (p_sw w N s) s by (rw [eb]; intro z; rcases z with z | z; cases z; exact absurd z (Nat.not_lt.mpr h_63))), eb] at key; exact key) | fail
noncomputable def q_swift (w : Nat → Nat) (n a : Int32) : Int32 := if w 2 = 0 then -1000002 else if 1 ≤ n.toInt ∧ n.toInt ≤ 30 ∧ 0 ≤ a.toInt ∧ a.toInt ≤ 1 then (if p_sw w n.toInt.toNat (2 ^ w 2) = none ∨ a.toInt = 1 then jm_o (p_sw w n.toInt.toNat (2 ^ w 2)) else nI (p_ones ((p_sw w n.toInt.toNat (2 ^ w 2)).getD 0))) else -1000001
theorem c_swift (w g : Nat → Nat) (M0 : jm_M) (hM : M0 17 = jm_n w) (hg : rG w) (hz : ∀ j, 45 ≤ j → g j = 0) (hm : w 4 ≤ 9999) (n a : Int32) : jm_J none YX6_swift 0 [some (.ref 11), some (.int n), some (.int a), none, none, none, none] [] (jm_sf M0 19 (jm_n g)) (jm_q M0 (q_swift w n a)) := by
  have hb := hg.hb
  have h3 := hg.1.2.2.2.1
  have h2 := hg.1.2.2.1
  refine jm_ald_n (Y := YX6_swift) (pc := 0) (i := 0) dX6_swift_0 rfl rfl ?_
  refine jm_V0ie (Y := YX6_swift) (pc := 1) dX6_swift_1 lk_RX6_161 ⟨_, rfl⟩ rfl (by decide) (Nat.le_of_ble_eq_true rfl) ⟨by decide, by decide⟩ (c_isRiver w _ (jm_17 hM) hg) ?_
  refine jm_if_neB (Y := YX6_swift) (pc := 4) dX6_swift_4 rfl (fun h_4 => ?_) (fun h_4 => ?_)
  · refine jm_ild_n (Y := YX6_swift) (pc := 10) (i := 1) dX6_swift_10 rfl rfl ?_
    refine jm_S1ie (Y := YX6_swift) (pc := 11) dX6_swift_11 lk_RX6_202 ⟨_, rfl⟩ rfl (by decide) (Nat.le_of_ble_eq_true rfl) ⟨by decide, by decide⟩ (c_isNearN _ _) ?_
    refine jm_if_eqB (Y := YX6_swift) (pc := 14) dX6_swift_14 rfl (fun h_14 => ?_) (fun h_14 => ?_)
    · refine jm_ldc (Y := YX6_swift) (pc := 26) (v := -1000001) dX6_swift_26 kc_RX6_61 ?_
      refine jm_ret (Y := YX6_swift) (pc := 28) (st := []) dX6_swift_28 rfl rfl ?_
      unfold q_swift
      first | exact jm_qi hz (by rw [if_pos (by omega)]) | exact jm_qi hz (by rw [if_neg (by omega), if_neg (by omega)]) | fail
    · refine jm_ild_n (Y := YX6_swift) (pc := 17) (i := 2) dX6_swift_17 rfl rfl ?_
      refine jm_icN (Y := YX6_swift) (pc := 18) 0 dX6_swift_18 rfl ?_
      refine jm_icN (Y := YX6_swift) (pc := 19) 1 dX6_swift_19 rfl ?_
      refine jm_S3ie (Y := YX6_swift) (pc := 20) dX6_swift_20 lk_RX6_53 ⟨_, rfl⟩ rfl rfl rfl (by decide) (Nat.le_of_ble_eq_true rfl) ⟨by decide, by decide⟩ (c_inN _ _ _ _ (by decide) (by decide)) ?_
      refine jm_if_neB (Y := YX6_swift) (pc := 23) dX6_swift_23 rfl (fun h_23 => ?_) (fun h_23 => ?_)
      · obtain ⟨N, h_N, rfl, t_N, n_N⟩ := jm_ofL (v := n) (n := 31) (by omega) (by omega)
        refine jm_ldc (Y := YX6_swift) (pc := 29) (v := -1000000) dX6_swift_29 kc_RX6_47 ?_
        refine jm_ist_n (Y := YX6_swift) (pc := 31) (i := 3) (ls' := [_, _, _, _, _, _, _]) dX6_swift_31 rfl (Nat.le_of_ble_eq_true rfl) rfl rfl ?_
        refine jm_icN (Y := YX6_swift) (pc := 32) 0 dX6_swift_32 rfl ?_
        refine jm_ist (Y := YX6_swift) (pc := 33) (ls' := [_, _, _, _, _, _, _]) dX6_swift_33 (Nat.le_of_ble_eq_true rfl) rfl rfl ?_
        have e : q_swift w (nI N) a = (if p_sw w N (2 ^ w 2) = none ∨ a.toInt = 1 then jm_o (p_sw w N (2 ^ w 2)) else nI (p_ones ((p_sw w N (2 ^ w 2)).getD 0))) := by { unfold q_swift; rw [if_neg (by omega), if_pos (by omega), n_N] }
        rw [e]
        exact c_swift0 w M0 hM hg hm N (by omega) a (2 ^ w 2 + 1) 0 g none none (Nat.zero_le _) hz (Nat.lt_succ_of_le (Nat.sub_le _ _))
      · refine jm_ldc (Y := YX6_swift) (pc := 26) (v := -1000001) dX6_swift_26 kc_RX6_61 ?_
        refine jm_ret (Y := YX6_swift) (pc := 28) (st := []) dX6_swift_28 rfl rfl ?_
        unfold q_swift
        first | exact jm_qi hz (by rw [if_pos (by omega)]) | exact jm_qi hz (by rw [if_neg (by omega), if_neg (by omega)]) | fail
  · refine jm_ldc (Y := YX6_swift) (pc := 7) (v := -1000002) dX6_swift_7 kc_RX6_164 ?_
    refine jm_ret (Y := YX6_swift) (pc := 9) (st := []) dX6_swift_9 rfl rfl ?_
    unfold q_swift
    first | exact jm_qi hz (by rw [if_pos (by omega)]) | exact jm_qi hz (by rw [if_neg (by omega), if_neg (by omega)]) | fail
