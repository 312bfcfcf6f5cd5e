/-! the class: its tape is read -/
def TS (M : jm_M) (f : Int32) (s : Nat × Nat) : jm_M := TT M s.1 (if s.2 = 0 then f else nI s.2)
theorem s_tk_d {t : Nat → Nat} {n p : Nat} : s_tk t n p = 2 ↔ 1 ≤ s_d t n p ∧ s_d t n p ≤ 2 := by
  unfold s_tk
  (repeat' split) <;> omega
theorem s_d_z {t : Nat → Nat} {n p : Nat} (h : p < n) (h1 : ¬ (48 ≤ t p ∧ t p ≤ 57)) : s_d t n p = 0 := s_d_0 (fun z => h1 z.2)
theorem s_tk_44 {t : Nat → Nat} {n p : Nat} : (p < n ∧ t p = 44) ↔ s_tk t n p = 3 := by
  constructor
  · rintro ⟨h, h1⟩
    rw [s_tk_1 (s_d_z h (by omega)) h, if_neg (by omega), if_pos h1]
  · intro h
    unfold s_tk at h
    (repeat' split at h) <;> omega
theorem s_tk_59 {t : Nat → Nat} {n p : Nat} : (p < n ∧ t p = 59) ↔ s_tk t n p = 4 := by
  constructor
  · rintro ⟨h, h1⟩
    rw [s_tk_1 (s_d_z h (by omega)) h, if_neg (by omega), if_neg (by omega), if_pos h1]
  · intro h
    unfold s_tk at h
    (repeat' split at h) <;> omega
theorem s_tk_le1 {t : Nat → Nat} {n p : Nat} (h : p < n) (h1 : 97 ≤ t p ∧ t p ≤ 122) : s_tk t n p = 1 := by
  rw [s_tk_1 (s_d_z h (by omega)) h, if_pos h1]
theorem s_tk_c {t : Nat → Nat} {n p c : Nat} (hc : 97 ≤ c ∧ c ≤ 122) : (p < n ∧ t p = c) ↔ (s_tk t n p = 1 ∧ t p = c) := by
  constructor
  · rintro ⟨h, h1⟩
    exact ⟨s_tk_le1 h (by omega), h1⟩
  · rintro ⟨h, h1⟩
    exact ⟨(s_tl_l h).2, h1⟩
theorem s_tk_e {t : Nat → Nat} {n p : Nat} (hp : p ≤ n) : s_tk t n p = 0 ↔ n ≤ p := by
  constructor
  · intro h
    unfold s_tk at h
    (repeat' split at h) <;> omega
  · intro h
    have e : p = n := by omega
    subst e
    unfold s_tk
    rw [if_neg (by rw [s_d_n]; omega), if_pos (Nat.le_refl _)]
theorem s_tl_d {t : Nat → Nat} {n p : Nat} (h : 1 ≤ s_d t n p) : s_tl t n p = s_d t n p := by unfold s_tl; rw [if_pos (by omega)]
theorem s_tl_o {t : Nat → Nat} {n p : Nat} (h : p < n) (h1 : ¬ (48 ≤ t p ∧ t p ≤ 57)) : s_tl t n p = 1 := s_tl_1 (s_d_z h h1) h
theorem s_d_fig {t : Nat → Nat} {n : Nat} : ∀ i p, i < s_d t n p → p + i < n ∧ 48 ≤ t (p + i) ∧ t (p + i) ≤ 57
  | 0, p, h => by
    by_cases q : p < n ∧ 48 ≤ t p ∧ t p ≤ 57
    · exact q
    · rw [s_d_0 q] at h; omega
  | i + 1, p, h => by
    by_cases q : p < n ∧ 48 ≤ t p ∧ t p ≤ 57
    · rw [s_d_s q.1 q.2] at h
      have := s_d_fig (t := t) (n := n) i (p + 1) (by omega)
      rw [show p + (i + 1) = p + 1 + i by omega]
      exact this
    · rw [s_d_0 q] at h; omega
theorem s_nv_s {t : Nat → Nat} {p i : Nat} (h : i < 2) (h2 : 48 ≤ t (p + i)) : s_nv t p i * 10 + t (p + i) - 48 = s_nv t p (i + 1) := by
  unfold s_nv
  rcases (show i = 0 ∨ i = 1 by omega) with rfl | rfl
  · simp
  · simp; omega
theorem s_nv_le {t : Nat → Nat} (hb : ∀ i, t i ≤ 255) (p i : Nat) : s_nv t p i ≤ 5000 := by
  have := hb p
  have := hb (p + 1)
  unfold s_nv
  (repeat' split) <;> omega
theorem t_num0 (t : Nat → Nat) (n : Nat) (M : jm_M) (hn : n ≤ 110) (hb : ∀ i, t i ≤ 255) (h7 : ∀ i, i < n → M 7 i = nI (t i)) (h1 : M 2 1 = nI n) (p : Nat) (f : Int32) (hp : p ≤ n) (lo hm : Nat) (hl : lo < 100) (hh : hm < 100) (h1d : 1 ≤ s_d t n p) (h2d : s_d t n p ≤ 2) : ∀ (m : Nat) (i : Nat), i ≤ s_d t n p → s_d t n p - i < m → jm_J none YX4_readNumber 33 [some (.ref 2), some (.int (nI lo)), some (.int (nI hm)), some (.int (nI (s_d t n p))), some (.int (nI (s_nv t p i))), some (.int (nI i))] [] (TT M p f) (jm_is (some (.int (if (x_fg t n lo (hm + 1) (p, 0)).2.2 = 0 then nI (x_fg t n lo (hm + 1) (p, 0)).1 else -1))) (TS M f (x_fg t n lo (hm + 1) (p, 0)).2)) := by
  intro m
  induction m with
  | zero => intros; omega
  | succ m ih =>
    intro i hi hmm
    have vl := s_nv_le hb p i
    have hpn := s_d_le (t := t) (n := n) (n - p) p (Nat.le_refl _) hp
    refine jm_iload (Y := YX4_readNumber) (pc := 33) dX4_readNumber_33 rfl ?_
    refine jm_ild_n (Y := YX4_readNumber) (pc := 35) (i := 3) dX4_readNumber_35 rfl rfl ?_
    refine jm_icmp_geN (Y := YX4_readNumber) (pc := 36) dX4_readNumber_36 rfl (by omega) (by omega) (fun h_36 => ?_) (fun h_36 => ?_)
    · have ei : i = s_d t n p := (by omega)
      have e2 : x_fg t n lo (hm + 1) (p, 0) = if lo ≤ x_v t n p ∧ x_v t n p < hm + 1 then (x_v t n p, p + s_tl t n p, 0) else (0, p, 2) := x_fg_2 (t := t) (n := n) (lo := lo) (hi := hm + 1) (s := (p, 0)) rfl (s_tk_d.mpr ⟨h1d, h2d⟩)
      have ev : x_v t n p = s_nv t p i := (by rw [ei]; rfl)
      have etl := s_tl_d h1d
      refine jm_iload (Y := YX4_readNumber) (pc := 68) dX4_readNumber_68 rfl ?_
      refine jm_ild_n (Y := YX4_readNumber) (pc := 70) (i := 1) dX4_readNumber_70 rfl rfl ?_
      refine jm_icmp_ltN (Y := YX4_readNumber) (pc := 71) dX4_readNumber_71 rfl (by omega) (by omega) (fun h_71 => ?_) (fun h_71 => ?_)
      · refine jm_ald_n (Y := YX4_readNumber) (pc := 80) (i := 0) dX4_readNumber_80 rfl rfl ?_
        refine jm_icN (Y := YX4_readNumber) (pc := 81) 2 dX4_readNumber_81 rfl ?_
        refine jm_V1ie (Y := YX4_readNumber) (pc := 82) dX4_readNumber_82 lk_RX4_58 ⟨_, rfl⟩ rfl rfl (by decide) (Nat.le_of_ble_eq_true rfl) ⟨by decide, by decide⟩ (t_faulty t n M hn hb h7 h1 p f (nI 2)) ?_
        refine jm_pop (Y := YX4_readNumber) (pc := 85) dX4_readNumber_85 rfl ?_
        refine jm_iconst (Y := YX4_readNumber) (pc := 86) (v := -1) dX4_readNumber_86 rfl ?_
        refine jm_ret (Y := YX4_readNumber) (pc := 87) (st := []) dX4_readNumber_87 rfl rfl ?_
        first
          | (rw [e2, if_neg (show ¬ (lo ≤ x_v t n p ∧ x_v t n p < hm + 1) by rw [ev]; omega)]; exact ⟨rfl, rfl⟩)
          | (rw [e2, if_pos (show lo ≤ x_v t n p ∧ x_v t n p < hm + 1 by rw [ev]; omega)]; exact ⟨congrArg (fun z => some (Value.int (nI z))) ev.symm, by show TT M (p + s_d t n p) f = TT M (p + s_tl t n p) f; rw [etl]⟩)
          | fail
      · refine jm_iload (Y := YX4_readNumber) (pc := 74) dX4_readNumber_74 rfl ?_
        refine jm_ild_n (Y := YX4_readNumber) (pc := 76) (i := 2) dX4_readNumber_76 rfl rfl ?_
        refine jm_icmp_leN (Y := YX4_readNumber) (pc := 77) dX4_readNumber_77 rfl (by omega) (by omega) (fun h_77 => ?_) (fun h_77 => ?_)
        · refine jm_ald_n (Y := YX4_readNumber) (pc := 88) (i := 0) dX4_readNumber_88 rfl rfl ?_
          refine jm_dup (Y := YX4_readNumber) (pc := 89) dX4_readNumber_89 rfl ?_
          refine jm_getE (Y := YX4_readNumber) (pc := 90) dX4_readNumber_90 fw_RX4_17 rfl (by decide) rfl (TT_2) ?_
          refine jm_ild_n (Y := YX4_readNumber) (pc := 93) (i := 3) dX4_readNumber_93 rfl rfl ?_
          refine jm_addN (Y := YX4_readNumber) (pc := 94) dX4_readNumber_94 ?_
          refine jm_put (Y := YX4_readNumber) (pc := 95) dX4_readNumber_95 fw_RX4_17 rfl (by decide) rfl ?_
          rw [TT_u2]
          refine jm_iload (Y := YX4_readNumber) (pc := 98) dX4_readNumber_98 rfl ?_
          refine jm_ret (Y := YX4_readNumber) (pc := 100) (st := []) dX4_readNumber_100 rfl rfl ?_
          first
            | (rw [e2, if_neg (show ¬ (lo ≤ x_v t n p ∧ x_v t n p < hm + 1) by rw [ev]; omega)]; exact ⟨rfl, rfl⟩)
            | (rw [e2, if_pos (show lo ≤ x_v t n p ∧ x_v t n p < hm + 1 by rw [ev]; omega)]; exact ⟨congrArg (fun z => some (Value.int (nI z))) ev.symm, by show TT M (p + s_d t n p) f = TT M (p + s_tl t n p) f; rw [etl]⟩)
            | fail
        · refine jm_ald_n (Y := YX4_readNumber) (pc := 80) (i := 0) dX4_readNumber_80 rfl rfl ?_
          refine jm_icN (Y := YX4_readNumber) (pc := 81) 2 dX4_readNumber_81 rfl ?_
          refine jm_V1ie (Y := YX4_readNumber) (pc := 82) dX4_readNumber_82 lk_RX4_58 ⟨_, rfl⟩ rfl rfl (by decide) (Nat.le_of_ble_eq_true rfl) ⟨by decide, by decide⟩ (t_faulty t n M hn hb h7 h1 p f (nI 2)) ?_
          refine jm_pop (Y := YX4_readNumber) (pc := 85) dX4_readNumber_85 rfl ?_
          refine jm_iconst (Y := YX4_readNumber) (pc := 86) (v := -1) dX4_readNumber_86 rfl ?_
          refine jm_ret (Y := YX4_readNumber) (pc := 87) (st := []) dX4_readNumber_87 rfl rfl ?_
          first
            | (rw [e2, if_neg (show ¬ (lo ≤ x_v t n p ∧ x_v t n p < hm + 1) by rw [ev]; omega)]; exact ⟨rfl, rfl⟩)
            | (rw [e2, if_pos (show lo ≤ x_v t n p ∧ x_v t n p < hm + 1 by rw [ev]; omega)]; exact ⟨congrArg (fun z => some (Value.int (nI z))) ev.symm, by show TT M (p + s_d t n p) f = TT M (p + s_tl t n p) f; rw [etl]⟩)
            | fail
    · have fg := s_d_fig i p (by omega)
      have es := s_nv_s (t := t) (p := p) (i := i) (by omega) fg.2.1
      have tb := hb (p + i)
      refine jm_iload (Y := YX4_readNumber) (pc := 39) dX4_readNumber_39 rfl ?_
      refine jm_bpN (Y := YX4_readNumber) (pc := 41) 10 dX4_readNumber_41 rfl ?_
      refine jm_mulN (Y := YX4_readNumber) (pc := 43) dX4_readNumber_43 ?_
      refine jm_ald_n (Y := YX4_readNumber) (pc := 44) (i := 0) dX4_readNumber_44 rfl rfl ?_
      refine jm_getR (Y := YX4_readNumber) (pc := 45) dX4_readNumber_45 fr_RX4_9 rfl (by decide) rfl ?_
      refine jm_ald_n (Y := YX4_readNumber) (pc := 48) (i := 0) dX4_readNumber_48 rfl rfl ?_
      refine jm_getE (Y := YX4_readNumber) (pc := 49) dX4_readNumber_49 fw_RX4_17 rfl (by decide) rfl (TT_2) ?_
      refine jm_iload (Y := YX4_readNumber) (pc := 52) dX4_readNumber_52 rfl ?_
      refine jm_addN (Y := YX4_readNumber) (pc := 54) dX4_readNumber_54 ?_
      refine jm_ialN (Y := YX4_readNumber) (pc := 55) dX4_readNumber_55 (by first | assumption | exact jm_arR1 ha | exact jm_arR2 ha | exact jm_arR3 ha | exact jm_arR1 hb | exact jm_arR2 hb | exact jm_arR3 hb | rfl) (by omega) ((show _ = nI (t (p + i)) from h7 (p + i) (by omega))) ?_
      refine jm_addN (Y := YX4_readNumber) (pc := 56) dX4_readNumber_56 ?_
      refine jm_bpN (Y := YX4_readNumber) (pc := 57) 48 dX4_readNumber_57 rfl ?_
      refine jm_subN (Y := YX4_readNumber) (pc := 59) dX4_readNumber_59 (by omega) ?_
      rw [es]
      refine jm_ist (Y := YX4_readNumber) (pc := 60) (ls' := [_, _, _, _, _, _]) dX4_readNumber_60 (Nat.le_of_ble_eq_true rfl) rfl rfl ?_
      refine jm_incN (Y := YX4_readNumber) (pc := 62) (m := 1) (ls' := [_, _, _, _, _, _]) dX4_readNumber_62 rfl rfl rfl rfl ?_
      refine jm_goto (Y := YX4_readNumber) (pc := 65) dX4_readNumber_65 rfl ?_
      exact ih (i + 1) (by omega) (by omega)
theorem t_num (t : Nat → Nat) (n : Nat) (M : jm_M) (hn : n ≤ 110) (hb : ∀ i, t i ≤ 255) (h7 : ∀ i, i < n → M 7 i = nI (t i)) (h1 : M 2 1 = nI n) (p : Nat) (f : Int32) (hp : p ≤ n) (lo hm : Nat) (hl : lo < 100) (hh : hm < 100) : jm_J none YX4_readNumber 0 [some (.ref 2), some (.int (nI lo)), some (.int (nI hm)), none, none, none] [] (TT M p f) (jm_is (some (.int (if (x_fg t n lo (hm + 1) (p, 0)).2.2 = 0 then nI (x_fg t n lo (hm + 1) (p, 0)).1 else -1))) (TS M f (x_fg t n lo (hm + 1) (p, 0)).2)) := by
  have hpn := s_d_le (t := t) (n := n) (n - p) p (Nat.le_refl _) hp
  refine jm_ald_n (Y := YX4_readNumber) (pc := 0) (i := 0) dX4_readNumber_0 rfl rfl ?_
  refine jm_ald_n (Y := YX4_readNumber) (pc := 1) (i := 0) dX4_readNumber_1 rfl rfl ?_
  refine jm_getE (Y := YX4_readNumber) (pc := 2) dX4_readNumber_2 fw_RX4_17 rfl (by decide) rfl (TT_2) ?_
  refine jm_V1ie (Y := YX4_readNumber) (pc := 5) dX4_readNumber_5 lk_RX4_89 ⟨_, rfl⟩ rfl rfl (by decide) (Nat.le_of_ble_eq_true rfl) ⟨by decide, by decide⟩ (t_figs t n M hn hb h7 h1 p f p hp) ?_
  refine jm_ist_n (Y := YX4_readNumber) (pc := 8) (i := 3) (ls' := [_, _, _, _, _, _]) dX4_readNumber_8 rfl (Nat.le_of_ble_eq_true rfl) rfl rfl ?_
  refine jm_ild_n (Y := YX4_readNumber) (pc := 9) (i := 3) dX4_readNumber_9 rfl rfl ?_
  refine jm_icN (Y := YX4_readNumber) (pc := 10) 1 dX4_readNumber_10 rfl ?_
  refine jm_icmp_ltN (Y := YX4_readNumber) (pc := 11) dX4_readNumber_11 rfl (by omega) (by omega) (fun h_11 => ?_) (fun h_11 => ?_)
  · refine jm_ald_n (Y := YX4_readNumber) (pc := 19) (i := 0) dX4_readNumber_19 rfl rfl ?_
    refine jm_icN (Y := YX4_readNumber) (pc := 20) 1 dX4_readNumber_20 rfl ?_
    refine jm_V1ie (Y := YX4_readNumber) (pc := 21) dX4_readNumber_21 lk_RX4_58 ⟨_, rfl⟩ rfl rfl (by decide) (Nat.le_of_ble_eq_true rfl) ⟨by decide, by decide⟩ (t_faulty t n M hn hb h7 h1 p f (nI 1)) ?_
    refine jm_pop (Y := YX4_readNumber) (pc := 24) dX4_readNumber_24 rfl ?_
    refine jm_iconst (Y := YX4_readNumber) (pc := 25) (v := -1) dX4_readNumber_25 rfl ?_
    refine jm_ret (Y := YX4_readNumber) (pc := 26) (st := []) dX4_readNumber_26 rfl rfl ?_
    rw [x_fg_1 (s := (p, 0)) rfl (fun z => by have := (s_tk_d (t := t) (n := n) (p := p)).mp z; omega)]
    exact ⟨rfl, rfl⟩
  · refine jm_ild_n (Y := YX4_readNumber) (pc := 14) (i := 3) dX4_readNumber_14 rfl rfl ?_
    refine jm_icN (Y := YX4_readNumber) (pc := 15) 2 dX4_readNumber_15 rfl ?_
    refine jm_icmp_leN (Y := YX4_readNumber) (pc := 16) dX4_readNumber_16 rfl (by omega) (by omega) (fun h_16 => ?_) (fun h_16 => ?_)
    · refine jm_icN (Y := YX4_readNumber) (pc := 27) 0 dX4_readNumber_27 rfl ?_
      refine jm_ist (Y := YX4_readNumber) (pc := 28) (ls' := [_, _, _, _, _, _]) dX4_readNumber_28 (Nat.le_of_ble_eq_true rfl) rfl rfl ?_
      refine jm_icN (Y := YX4_readNumber) (pc := 30) 0 dX4_readNumber_30 rfl ?_
      refine jm_ist (Y := YX4_readNumber) (pc := 31) (ls' := [_, _, _, _, _, _]) dX4_readNumber_31 (Nat.le_of_ble_eq_true rfl) rfl rfl ?_
      exact t_num0 t n M hn hb h7 h1 p f hp lo hm hl hh (by omega) (by omega) 3 0 (by omega) (by omega)
    · refine jm_ald_n (Y := YX4_readNumber) (pc := 19) (i := 0) dX4_readNumber_19 rfl rfl ?_
      refine jm_icN (Y := YX4_readNumber) (pc := 20) 1 dX4_readNumber_20 rfl ?_
      refine jm_V1ie (Y := YX4_readNumber) (pc := 21) dX4_readNumber_21 lk_RX4_58 ⟨_, rfl⟩ rfl rfl (by decide) (Nat.le_of_ble_eq_true rfl) ⟨by decide, by decide⟩ (t_faulty t n M hn hb h7 h1 p f (nI 1)) ?_
      refine jm_pop (Y := YX4_readNumber) (pc := 24) dX4_readNumber_24 rfl ?_
      refine jm_iconst (Y := YX4_readNumber) (pc := 25) (v := -1) dX4_readNumber_25 rfl ?_
      refine jm_ret (Y := YX4_readNumber) (pc := 26) (st := []) dX4_readNumber_26 rfl rfl ?_
      rw [x_fg_1 (s := (p, 0)) rfl (fun z => by have := (s_tk_d (t := t) (n := n) (p := p)).mp z; omega)]
      exact ⟨rfl, rfl⟩
theorem t_pass (t : Nat → Nat) (n : Nat) (M : jm_M) (hn : n ≤ 110) (hb : ∀ i, t i ≤ 255) (h7 : ∀ i, i < n → M 7 i = nI (t i)) (h1 : M 2 1 = nI n) (p : Nat) (f : Int32) (hp : p ≤ n) (c : Nat) (hc : c ≤ 255) (q : Prop) [Decidable q] (hq : (p < n ∧ t p = c) ↔ q) (hn9 : ¬ (48 ≤ c ∧ c ≤ 57)) : jm_J none YX4_passes 0 [some (.ref 2), some (.int (nI c))] [] (TT M p f) (jm_is (some (.int (jm_b ((x_tk t n (decide q) 1 (p, 0)).2 = 0)))) (TS M f (x_tk t n (decide q) 1 (p, 0)))) := by
  apply jm_wk (t_passes t n M hn hb h7 h1 p f hp c hc)
  intro o M1 h
  by_cases z : p < n ∧ t p = c
  · rw [if_pos z] at h
    rw [x_tk_1 (s := (p, 0)) rfl (decide_eq_true (hq.mp z))]
    have etl : s_tl t n p = 1 := s_tl_o z.1 (by omega)
    refine ⟨h.1, h.2.trans ?_⟩
    show TT M (p + 1) f = TT M (p + s_tl t n p) f
    rw [etl]
  · rw [if_neg z] at h
    rw [x_tk_2 (s := (p, 0)) rfl (fun y => z (hq.mpr (of_decide_eq_true y)))]
    exact ⟨h.1, h.2⟩
def x_o (r : Nat × Nat × Nat) : Int32 := if r.2.2 = 0 then nI r.1 else -1
theorem x_o_0 {r : Nat × Nat × Nat} (h : r.2.2 = 0) : x_o r = nI r.1 := if_pos h
theorem x_o_m {t : Nat → Nat} {n lo hi : Nat} {s : Nat × Nat} (hh : hi ≤ 100) : x_o (x_fg t n lo hi s) = -1 ↔ ¬ (x_fg t n lo hi s).2.2 = 0 := by
  unfold x_o
  by_cases h : (x_fg t n lo hi s).2.2 = 0
  · rw [if_pos h]
    have q := (x_fg_z h).2.2.2.1
    have e := jm_tI (show (x_fg t n lo hi s).1 < 2147483648 by omega)
    exact ⟨fun z => by rw [z] at e; have e1 : (-1 : Int32).toInt = -1 := (by decide); omega, fun z => absurd h z⟩
  · rw [if_neg h]; exact ⟨fun _ => h, fun _ => rfl⟩
theorem TS_w {M : jm_M} {f : Int32} {s : Nat × Nat} {i : Nat} (k : Nat) (x : Int32) (h : i ≠ 2) : jm_sf (TS M f s) i (upd (TS M f s i) k x) = TS (jm_sf M i (upd (M i) k x)) f s := by
  unfold TS TT
  rw [jm_sf_n M _ h, jm_sfc _ _ _ (fun z => h z.symm), jm_sf_n M _ (fun z => h z.symm)]
theorem TS_p {M : jm_M} {f : Int32} {s s' : Nat × Nat} {q : Nat} (h : s.2 = 0) (e : s' = (q, 0)) : jm_sf (TS M f s) 2 (upd (TS M f s 2) 2 (nI q)) = TS M f s' := by
  subst e
  unfold TS
  rw [if_pos h, if_pos rfl]
  exact TT_u2 q
theorem TS_pr {s : Nat × Nat} (h : s.2 = 0) : (s.1, 0) = s := by
  rw [← h]
def TQ (M : jm_M) (f : Int32) (s : Nat × Nat) (g : Nat → Nat) : Option Value → jm_M → Prop := fun o M1 => ∃ M2, M1 = TS M2 f s ∧ o = some (.int (jm_b (s.2 = 0))) ∧ RF 1 M M2 ∧ (s.2 = 0 → RV M2 1 g)
theorem TQ_f {M M2 : jm_M} {f : Int32} {s s' : Nat × Nat} {g : Nat → Nat} (h : ¬ s'.2 = 0) (e : s = s') (hR : RF 1 M M2) : TQ M f s g (some (.int (nI 0))) (TS M2 f s') := by
  subst e
  exact ⟨M2, rfl, by rw [jm_b_f h], hR, fun z => absurd z h⟩
theorem TQ_t {M M2 : jm_M} {f : Int32} {s s' : Nat × Nat} {g : Nat → Nat} (h : s'.2 = 0) (e : s = s') (hR : RF 1 M M2) (hV : RV M2 1 g) : TQ M f s g (some (.int (nI 1))) (TS M2 f s') := by
  subst e
  exact ⟨M2, rfl, by rw [jm_b_t h], hR, fun _ => hV⟩
theorem RF_0 (r : Nat) (M : jm_M) : RF r M M := fun _ _ => rfl
theorem RF_t {r : Nat} {M M1 M2 : jm_M} (h : RF r M M1) (h2 : RF r M1 M2) : RF r M M2 := fun i hi => (h2 i hi).trans (h i hi)
theorem TS_z {M : jm_M} {f : Int32} {s : Nat × Nat} (h : s.2 = 0) : TS M f s = TT M s.1 f := by
  unfold TS
  rw [if_pos h]
theorem t_numS (t : Nat → Nat) (n : Nat) (M : jm_M) (hn : n ≤ 110) (hb : ∀ i, t i ≤ 255) (h7 : ∀ i, i < n → M 7 i = nI (t i)) (h1 : M 2 1 = nI n) (f : Int32) (s : Nat × Nat) (hp : s.1 ≤ n) (hs : s.2 = 0) (lo hm hi : Nat) (hh : hi = hm + 1) (hl : lo < 100) (hx : hm < 100) : jm_J none YX4_readNumber 0 [some (.ref 2), some (.int (nI lo)), some (.int (nI hm)), none, none, none] [] (TS M f s) (jm_is (some (.int (x_o (x_fg t n lo hi s)))) (TS M f (x_fg t n lo hi s).2)) := by
  subst hh
  have h := t_num t n M hn hb h7 h1 s.1 f hp lo hm hl hx
  rw [TS_pr hs, ← TS_z hs] at h
  exact h
theorem t_passS (t : Nat → Nat) (n : Nat) (M : jm_M) (hn : n ≤ 110) (hb : ∀ i, t i ≤ 255) (h7 : ∀ i, i < n → M 7 i = nI (t i)) (h1 : M 2 1 = nI n) (f : Int32) (s : Nat × Nat) (hp : s.1 ≤ n) (hs : s.2 = 0) (c : Nat) (hc : c ≤ 255) (q : Prop) [Decidable q] (hq : (s.1 < n ∧ t s.1 = c) ↔ q) (hn9 : ¬ (48 ≤ c ∧ c ≤ 57)) : jm_J none YX4_passes 0 [some (.ref 2), some (.int (nI c))] [] (TS M f s) (jm_is (some (.int (jm_b ((x_tk t n (decide q) 1 s).2 = 0)))) (TS M f (x_tk t n (decide q) 1 s))) := by
  have h := t_pass t n M hn hb h7 h1 s.1 f hp c hc q hq hn9
  rw [TS_pr hs, ← TS_z hs] at h
  exact h
theorem t_isAtS (t : Nat → Nat) (n : Nat) (M : jm_M) (hn : n ≤ 110) (hb : ∀ i, t i ≤ 255) (h7 : ∀ i, i < n → M 7 i = nI (t i)) (h1 : M 2 1 = nI n) (f : Int32) (s : Nat × Nat) (hp : s.1 ≤ n) (hs : s.2 = 0) (c : Nat) (hc : c ≤ 255) : jm_J none YX4_isAt 0 [some (.ref 2), some (.int (nI c))] [] (TS M f s) (jm_is (some (.int (jm_b (s.1 < n ∧ t s.1 = c)))) (TS M f s)) := by
  have h := t_isAt t n M hn hb h7 h1 s.1 f hp c hc
  rw [← TS_z hs] at h
  exact h
theorem t_faultyS (t : Nat → Nat) (n : Nat) (M : jm_M) (hn : n ≤ 110) (hb : ∀ i, t i ≤ 255) (h7 : ∀ i, i < n → M 7 i = nI (t i)) (h1 : M 2 1 = nI n) (f : Int32) (s : Nat × Nat) (hp : s.1 ≤ n) (hs : s.2 = 0) (x : Nat) (hx : x ≠ 0) : jm_J none YX4_faulty 0 [some (.ref 2), some (.int (nI x))] [] (TS M f s) (jm_is (some (.int (jm_b False))) (TS M f (s.1, x))) := by
  have h := t_faulty t n M hn hb h7 h1 s.1 f (nI x)
  rw [← TS_z hs] at h
  have e : TS M f (s.1, x) = TT M s.1 (nI x) := by
    unfold TS
    rw [if_neg hx]
  rw [e]
  exact h
theorem RV_1 {M : jm_M} {r : Nat} {w : Nat → Nat} (hR : RV M r w) (x : Nat) : RV (jm_sf M (32 + 4 * r) (upd (M (32 + 4 * r)) 2 (nI x))) r (wU w 1 x) := by
  obtain ⟨⟨f0, f1, f2, f3, f4⟩, a, b⟩ := hR
  refine ⟨⟨?_, ?_, ?_, ?_, ?_⟩, fun c hc => ?_, fun k hk => ?_⟩
  · rw [jm_sf_s, upd_n _ _ (by decide), wU_n _ _ (by decide)]; exact f0
  · rw [jm_sf_s, upd_n _ _ (by decide), wU_n _ _ (by decide)]; exact f1
  · rw [jm_sf_s, upd_s, wU_s]
  · rw [jm_sf_s, upd_n _ _ (by decide), wU_n _ _ (by decide)]; exact f3
  · rw [jm_sf_s, upd_n _ _ (by decide), wU_n _ _ (by decide)]; exact f4
  · rw [wU_n _ _ (by decide)] at hc
    rw [jm_sf_n _ _ (by omega), wU_n _ _ (by omega)]; exact a c hc
  · rw [wU_n _ _ (by decide)] at hk
    rw [jm_sf_n _ _ (by omega), jm_sf_n _ _ (by omega), wU_n _ _ (by omega), wU_n _ _ (by omega), wU_n _ _ (by omega)]; exact b k hk
theorem RV_c {M : jm_M} {r : Nat} {w : Nat → Nat} (hR : RV M r w) (x : Nat) (h12 : w 2 < 12) : RV (jm_sf (jm_sf M (33 + 4 * r) (upd (M (33 + 4 * r)) (w 2) (nI x))) (32 + 4 * r) (upd (M (32 + 4 * r)) 0 (nI (w 2 + 1)))) r (wU (wU w (5 + w 2) x) 2 (w 2 + 1)) := by
  obtain ⟨⟨f0, f1, f2, f3, f4⟩, a, b⟩ := hR
  have o : ∀ j, j ≠ 2 → j ≠ 5 + w 2 → wU (wU w (5 + w 2) x) 2 (w 2 + 1) j = w j := fun j h1 h2 => by rw [wU_n _ _ h1, wU_n _ _ h2]
  have o2 : wU (wU w (5 + w 2) x) 2 (w 2 + 1) 2 = w 2 + 1 := wU_s _ _ _
  refine ⟨⟨?_, ?_, ?_, ?_, ?_⟩, fun d hd => ?_, fun k hk => ?_⟩
  · rw [jm_sf_s, upd_s, o2]
  · rw [jm_sf_s, upd_n _ _ (by decide), o _ (by decide) (by omega)]; exact f1
  · rw [jm_sf_s, upd_n _ _ (by decide), o _ (by decide) (by omega)]; exact f2
  · rw [jm_sf_s, upd_n _ _ (by decide), o _ (by decide) (by omega)]; exact f3
  · rw [jm_sf_s, upd_n _ _ (by decide), o _ (by decide) (by omega)]; exact f4
  · rw [o2] at hd
    rw [jm_sf_n _ _ (by omega), jm_sf_s]
    by_cases z : d = w 2
    · subst z; rw [upd_s, wU_n _ _ (by omega), wU_s]
    · rw [upd_n _ _ z, o _ (by omega) (by omega)]; exact a d (by omega)
  · rw [o 3 (by decide) (by omega)] at hk
    rw [jm_sf_n _ _ (by omega), jm_sf_n _ _ (by omega), jm_sf_n _ _ (by omega), jm_sf_n _ _ (by omega), o _ (by omega) (by omega), o _ (by omega) (by omega), o _ (by omega) (by omega)]; exact b k hk
theorem RV_w {M : jm_M} {r : Nat} {w : Nat → Nat} (hR : RV M r w) (kd x c : Nat) (h2 : w 2 ≤ 12) : RV (jm_sf (jm_sf (jm_sf M (34 + 4 * r) (upd (M (34 + 4 * r)) (w 3) (nI kd))) (35 + 4 * r) (upd (M (35 + 4 * r)) (w 3) (nI (16 * x + c)))) (32 + 4 * r) (upd (M (32 + 4 * r)) 1 (nI (w 3 + 1)))) r (wU (wU (wU (wU w (17 + 4 * w 3) kd) (17 + 4 * w 3 + 1) x) (17 + 4 * w 3 + 2) c) 3 (w 3 + 1)) := by
  obtain ⟨⟨f0, f1, f2, f3, f4⟩, a, b⟩ := hR
  have o : ∀ j, j ≠ 3 → j < 17 + 4 * w 3 → wU (wU (wU (wU w (17 + 4 * w 3) kd) (17 + 4 * w 3 + 1) x) (17 + 4 * w 3 + 2) c) 3 (w 3 + 1) j = w j := fun j h1 h2 => by rw [wU_n _ _ h1, wU_n _ _ (by omega), wU_n _ _ (by omega), wU_n _ _ (by omega)]
  have o3 : wU (wU (wU (wU w (17 + 4 * w 3) kd) (17 + 4 * w 3 + 1) x) (17 + 4 * w 3 + 2) c) 3 (w 3 + 1) 3 = w 3 + 1 := wU_s _ _ _
  have q0 : wU (wU (wU (wU w (17 + 4 * w 3) kd) (17 + 4 * w 3 + 1) x) (17 + 4 * w 3 + 2) c) 3 (w 3 + 1) (17 + 4 * w 3) = kd := by rw [wU_n _ _ (by omega), wU_n _ _ (by omega), wU_n _ _ (by omega), wU_s]
  have q1 : wU (wU (wU (wU w (17 + 4 * w 3) kd) (17 + 4 * w 3 + 1) x) (17 + 4 * w 3 + 2) c) 3 (w 3 + 1) (17 + 4 * w 3 + 1) = x := by rw [wU_n _ _ (by omega), wU_n _ _ (by omega), wU_s]
  have q2 : wU (wU (wU (wU w (17 + 4 * w 3) kd) (17 + 4 * w 3 + 1) x) (17 + 4 * w 3 + 2) c) 3 (w 3 + 1) (17 + 4 * w 3 + 2) = c := by rw [wU_n _ _ (by omega), wU_s]
  refine ⟨⟨?_, ?_, ?_, ?_, ?_⟩, fun d hd => ?_, fun k hk => ?_⟩
  · rw [jm_sf_s, upd_n _ _ (by decide), o _ (by decide) (by omega)]; exact f0
  · rw [jm_sf_s, upd_s, o3]
  · rw [jm_sf_s, upd_n _ _ (by decide), o _ (by decide) (by omega)]; exact f2
  · rw [jm_sf_s, upd_n _ _ (by decide), o _ (by decide) (by omega)]; exact f3
  · rw [jm_sf_s, upd_n _ _ (by decide), o _ (by decide) (by omega)]; exact f4
  · rw [o 2 (by decide) (by omega)] at hd
    rw [jm_sf_n _ _ (by omega), jm_sf_n _ _ (by omega), jm_sf_n _ _ (by omega), o _ (by omega) (by omega)]; exact a d hd
  · rw [o3] at hk
    rw [jm_sf_n _ _ (by omega), jm_sf_n _ _ (by omega), jm_sf_s, jm_sf_n _ _ (by omega), jm_sf_s]
    by_cases z : k = w 3
    · subst z
      rw [q0, q1, q2, upd_s, upd_s]
      exact ⟨rfl, rfl⟩
    · rw [upd_n _ _ z, upd_n _ _ z, o _ (by omega) (by omega), o _ (by omega) (by omega), o _ (by omega) (by omega)]; exact b k (by omega)
theorem x_r2_f {t : Nat → Nat} {n : Nat} (h : ¬ (x_r1 t n).2 = 0) : (x_r2 t n).2 = x_r1 t n := by unfold x_r2; rw [x_fg_0 h]
theorem x_r3_f {t : Nat → Nat} {n : Nat} (h : ¬ (x_tk t n (decide (s_tk t n (x_r2 t n).2.1 = 3)) 1 (x_r2 t n).2).2 = 0) : (x_r3 t n).2 = x_tk t n (decide (s_tk t n (x_r2 t n).2.1 = 3)) 1 (x_r2 t n).2 := by unfold x_r3 x_fo; rw [x_fg_0 h]
theorem x_r3_g {t : Nat → Nat} {n : Nat} (h : ¬ (x_r2 t n).2.2 = 0) : (x_r3 t n).2 = (x_r2 t n).2 := by
  have e : x_tk t n (decide (s_tk t n (x_r2 t n).2.1 = 3)) 1 (x_r2 t n).2 = (x_r2 t n).2 := x_tk_0 h
  rw [x_r3_f (by rw [e]; exact h), e]
theorem x_r4_f {t : Nat → Nat} {n : Nat} (h : ¬ (x_r3 t n).2.2 = 0) : x_r4 t n = (x_r3 t n).2 := x_tk_0 h
theorem t_law (t : Nat → Nat) (n : Nat) (M : jm_M) (hn : n ≤ 110) (hb : ∀ i, t i ≤ 255) (h7 : ∀ i, i < n → M 7 i = nI (t i)) (h1 : M 2 1 = nI n) (f : Int32) (hR : RV M 1 (fun _ => 0)) : jm_J none YX4_readLaw 0 [some (.ref 2), some (.ref 36)] [] (TS M f (0, 0)) (TQ M f (x_r4 t n) (x_g4 t n)) := by
  refine jm_ald_n (Y := YX4_readLaw) (pc := 0) (i := 0) dX4_readLaw_0 rfl rfl ?_
  refine jm_bpN (Y := YX4_readLaw) (pc := 1) 114 dX4_readLaw_1 rfl ?_
  refine jm_V1ie (Y := YX4_readLaw) (pc := 3) dX4_readLaw_3 lk_RX4_38 ⟨_, rfl⟩ rfl rfl (by decide) (Nat.le_of_ble_eq_true rfl) ⟨by decide, by decide⟩ ((show jm_J none YX4_passes 0 _ [] _ (jm_is (some (.int (jm_b ((x_r1 t n).2 = 0)))) (TS _ f (x_r1 t n))) from t_passS t n M hn hb h7 h1 f (0, 0) (Nat.zero_le _) rfl 114 (by decide) (s_tk t n 0 = 1 ∧ t 0 = 114) (s_tk_c (by decide)) (by decide))) ?_
  refine jm_if_neB (Y := YX4_readLaw) (pc := 6) dX4_readLaw_6 rfl (fun h_6 => ?_) (fun h_6 => ?_)
  · refine jm_ald_n (Y := YX4_readLaw) (pc := 11) (i := 1) dX4_readLaw_11 rfl rfl ?_
    refine jm_ald_n (Y := YX4_readLaw) (pc := 12) (i := 0) dX4_readLaw_12 rfl rfl ?_
    refine jm_icN (Y := YX4_readLaw) (pc := 13) 0 dX4_readLaw_13 rfl ?_
    refine jm_bpN (Y := YX4_readLaw) (pc := 14) 15 dX4_readLaw_14 rfl ?_
    refine jm_V2ie (Y := YX4_readLaw) (pc := 16) dX4_readLaw_16 lk_RX4_42 ⟨_, rfl⟩ rfl rfl rfl (by decide) (Nat.le_of_ble_eq_true rfl) ⟨by decide, by decide⟩ ((show jm_J none YX4_readNumber 0 _ [] _ (jm_is (some (.int (x_o (x_r2 t n)))) (TS _ f (x_r2 t n).2)) from t_numS t n M hn hb h7 h1 f (x_r1 t n) (x_r1_p t n) h_6 0 15 16 rfl (by decide) (by decide))) ?_
    refine jm_put (Y := YX4_readLaw) (pc := 19) dX4_readLaw_19 fw_RX4_46 rfl (by decide) rfl ?_
    rw [TS_w _ _ (by decide)]
    refine jm_ald_n (Y := YX4_readLaw) (pc := 22) (i := 1) dX4_readLaw_22 rfl rfl ?_
    refine jm_getE (Y := YX4_readLaw) (pc := 23) dX4_readLaw_23 fw_RX4_46 (by first | exact jm_obR ha | exact jm_obR hb | rfl) (by decide) (by first | exact jm_rf3 | rfl) ((show _ = x_o (x_r2 t n) from rfl)) ?_
    refine jm_iconst (Y := YX4_readLaw) (pc := 26) (v := -1) dX4_readLaw_26 rfl ?_
    refine jm_icmp_eq (Y := YX4_readLaw) (pc := 27) dX4_readLaw_27 rfl (fun h_27 => ?_) (fun h_27 => ?_)
    · refine jm_icN (Y := YX4_readLaw) (pc := 39) 0 dX4_readLaw_39 rfl ?_
      refine jm_ret (Y := YX4_readLaw) (pc := 40) (st := []) dX4_readLaw_40 rfl rfl ?_
      first
        | (have k9 := (x_o_m (by decide)).mp h_57; have e9 := x_r4_f k9; exact TQ_f k9 e9 (fun i hi => by rw [jm_sf_n _ _ (by omega), jm_sf_n _ _ (by omega)]))
        | exact TQ_t h_66 rfl (fun i hi => by rw [jm_sf_n _ _ (by omega), jm_sf_n _ _ (by omega)]) (RV_1 (RV_0 hR _) _)
        | exact TQ_f h_66 rfl (fun i hi => by rw [jm_sf_n _ _ (by omega), jm_sf_n _ _ (by omega)])
        | (have e8 := x_r3_f h_36; have e9 := x_r4_f (t := t) (n := n) (by rw [e8]; exact h_36); exact TQ_f h_36 (e9.trans e8) (fun i hi => jm_sf_n _ _ (by omega)))
        | (have k9 := (x_o_m (by decide)).mp h_27; have e8 := x_r3_g (t := t) (n := n) k9; have e9 := x_r4_f (t := t) (n := n) (by rw [e8]; exact k9); exact TQ_f k9 (e9.trans e8) (fun i hi => jm_sf_n _ _ (by omega)))
        | (have e7 := x_r2_f h_6; have e8 := x_r3_g (t := t) (n := n) (by rw [e7]; exact h_6); have e9 := x_r4_f (t := t) (n := n) (by rw [e8, e7]; exact h_6); exact TQ_f h_6 (e9.trans (e8.trans e7)) (RF_0 1 M))
        | fail
    · have k2 : (x_r2 t n).2.2 = 0 := (Decidable.not_not.mp (fun z => h_27 ((x_o_m (by decide)).mpr z)))
      rw [x_o_0 k2]
      refine jm_ald_n (Y := YX4_readLaw) (pc := 30) (i := 0) dX4_readLaw_30 rfl rfl ?_
      refine jm_bpN (Y := YX4_readLaw) (pc := 31) 44 dX4_readLaw_31 rfl ?_
      refine jm_V1ie (Y := YX4_readLaw) (pc := 33) dX4_readLaw_33 lk_RX4_38 ⟨_, rfl⟩ rfl rfl (by decide) (Nat.le_of_ble_eq_true rfl) ⟨by decide, by decide⟩ (t_passS t n (jm_sf M 36 (upd (M 36) 3 (nI (x_r2 t n).1))) hn hb h7 h1 f (x_r2 t n).2 (x_r2_p t n) k2 44 (by decide) (s_tk t n (x_r2 t n).2.1 = 3) s_tk_44 (by decide)) ?_
      refine jm_if_neB (Y := YX4_readLaw) (pc := 36) dX4_readLaw_36 rfl (fun h_36 => ?_) (fun h_36 => ?_)
      · refine jm_ald_n (Y := YX4_readLaw) (pc := 41) (i := 1) dX4_readLaw_41 rfl rfl ?_
        refine jm_ald_n (Y := YX4_readLaw) (pc := 42) (i := 0) dX4_readLaw_42 rfl rfl ?_
        refine jm_icN (Y := YX4_readLaw) (pc := 43) 0 dX4_readLaw_43 rfl ?_
        refine jm_bpN (Y := YX4_readLaw) (pc := 44) 10 dX4_readLaw_44 rfl ?_
        refine jm_V2ie (Y := YX4_readLaw) (pc := 46) dX4_readLaw_46 lk_RX4_42 ⟨_, rfl⟩ rfl rfl rfl (by decide) (Nat.le_of_ble_eq_true rfl) ⟨by decide, by decide⟩ ((show jm_J none YX4_readNumber 0 _ [] _ (jm_is (some (.int (x_o (x_r3 t n)))) (TS _ f (x_r3 t n).2)) from t_numS t n (jm_sf M 36 (upd (M 36) 3 (nI (x_r2 t n).1))) hn hb h7 h1 f (x_tk t n (decide (s_tk t n (x_r2 t n).2.1 = 3)) 1 (x_r2 t n).2) (x_tk_p (x_r2_p t n)) h_36 0 10 11 rfl (by decide) (by decide))) ?_
        refine jm_put (Y := YX4_readLaw) (pc := 49) dX4_readLaw_49 fw_RX4_49 rfl (by decide) rfl ?_
        rw [TS_w _ _ (by decide)]
        refine jm_ald_n (Y := YX4_readLaw) (pc := 52) (i := 1) dX4_readLaw_52 rfl rfl ?_
        refine jm_getE (Y := YX4_readLaw) (pc := 53) dX4_readLaw_53 fw_RX4_49 (by first | exact jm_obR ha | exact jm_obR hb | rfl) (by decide) (by first | exact jm_rf2 | rfl) ((show _ = x_o (x_r3 t n) from rfl)) ?_
        refine jm_iconst (Y := YX4_readLaw) (pc := 56) (v := -1) dX4_readLaw_56 rfl ?_
        refine jm_icmp_eq (Y := YX4_readLaw) (pc := 57) dX4_readLaw_57 rfl (fun h_57 => ?_) (fun h_57 => ?_)
        · refine jm_icN (Y := YX4_readLaw) (pc := 73) 0 dX4_readLaw_73 rfl ?_
          refine jm_ret (Y := YX4_readLaw) (pc := 74) (st := []) dX4_readLaw_74 rfl rfl ?_
          first
            | (have k9 := (x_o_m (by decide)).mp h_57; have e9 := x_r4_f k9; exact TQ_f k9 e9 (fun i hi => by rw [jm_sf_n _ _ (by omega), jm_sf_n _ _ (by omega)]))
            | exact TQ_t h_66 rfl (fun i hi => by rw [jm_sf_n _ _ (by omega), jm_sf_n _ _ (by omega)]) (RV_1 (RV_0 hR _) _)
            | exact TQ_f h_66 rfl (fun i hi => by rw [jm_sf_n _ _ (by omega), jm_sf_n _ _ (by omega)])
            | (have e8 := x_r3_f h_36; have e9 := x_r4_f (t := t) (n := n) (by rw [e8]; exact h_36); exact TQ_f h_36 (e9.trans e8) (fun i hi => jm_sf_n _ _ (by omega)))
            | (have k9 := (x_o_m (by decide)).mp h_27; have e8 := x_r3_g (t := t) (n := n) k9; have e9 := x_r4_f (t := t) (n := n) (by rw [e8]; exact k9); exact TQ_f k9 (e9.trans e8) (fun i hi => jm_sf_n _ _ (by omega)))
            | (have e7 := x_r2_f h_6; have e8 := x_r3_g (t := t) (n := n) (by rw [e7]; exact h_6); have e9 := x_r4_f (t := t) (n := n) (by rw [e8, e7]; exact h_6); exact TQ_f h_6 (e9.trans (e8.trans e7)) (RF_0 1 M))
            | fail
        · have k3 : (x_r3 t n).2.2 = 0 := (Decidable.not_not.mp (fun z => h_57 ((x_o_m (by decide)).mpr z)))
          rw [x_o_0 k3]
          refine jm_ald_n (Y := YX4_readLaw) (pc := 60) (i := 0) dX4_readLaw_60 rfl rfl ?_
          refine jm_bpN (Y := YX4_readLaw) (pc := 61) 59 dX4_readLaw_61 rfl ?_
          refine jm_V1ie (Y := YX4_readLaw) (pc := 63) dX4_readLaw_63 lk_RX4_38 ⟨_, rfl⟩ rfl rfl (by decide) (Nat.le_of_ble_eq_true rfl) ⟨by decide, by decide⟩ ((show jm_J none YX4_passes 0 _ [] _ (jm_is (some (.int (jm_b ((x_r4 t n).2 = 0)))) (TS _ f (x_r4 t n))) from t_passS t n (jm_sf (jm_sf M 36 (upd (M 36) 3 (nI (x_r2 t n).1))) 36 (upd ((jm_sf M 36 (upd (M 36) 3 (nI (x_r2 t n).1))) 36) 2 (nI (x_r3 t n).1))) hn hb h7 h1 f (x_r3 t n).2 (x_r3_p t n) k3 59 (by decide) (s_tk t n (x_r3 t n).2.1 = 4) s_tk_59 (by decide))) ?_
          refine jm_if_eqB (Y := YX4_readLaw) (pc := 66) dX4_readLaw_66 rfl (fun h_66 => ?_) (fun h_66 => ?_)
          · refine jm_icN (Y := YX4_readLaw) (pc := 73) 0 dX4_readLaw_73 rfl ?_
            refine jm_ret (Y := YX4_readLaw) (pc := 74) (st := []) dX4_readLaw_74 rfl rfl ?_
            first
              | (have k9 := (x_o_m (by decide)).mp h_57; have e9 := x_r4_f k9; exact TQ_f k9 e9 (fun i hi => by rw [jm_sf_n _ _ (by omega), jm_sf_n _ _ (by omega)]))
              | exact TQ_t h_66 rfl (fun i hi => by rw [jm_sf_n _ _ (by omega), jm_sf_n _ _ (by omega)]) (RV_1 (RV_0 hR _) _)
              | exact TQ_f h_66 rfl (fun i hi => by rw [jm_sf_n _ _ (by omega), jm_sf_n _ _ (by omega)])
              | (have e8 := x_r3_f h_36; have e9 := x_r4_f (t := t) (n := n) (by rw [e8]; exact h_36); exact TQ_f h_36 (e9.trans e8) (fun i hi => jm_sf_n _ _ (by omega)))
              | (have k9 := (x_o_m (by decide)).mp h_27; have e8 := x_r3_g (t := t) (n := n) k9; have e9 := x_r4_f (t := t) (n := n) (by rw [e8]; exact k9); exact TQ_f k9 (e9.trans e8) (fun i hi => jm_sf_n _ _ (by omega)))
              | (have e7 := x_r2_f h_6; have e8 := x_r3_g (t := t) (n := n) (by rw [e7]; exact h_6); have e9 := x_r4_f (t := t) (n := n) (by rw [e8, e7]; exact h_6); exact TQ_f h_6 (e9.trans (e8.trans e7)) (RF_0 1 M))
              | fail
          · refine jm_icN (Y := YX4_readLaw) (pc := 69) 1 dX4_readLaw_69 rfl ?_
            refine jm_goto (Y := YX4_readLaw) (pc := 70) dX4_readLaw_70 rfl ?_
            refine jm_ret (Y := YX4_readLaw) (pc := 74) (st := []) dX4_readLaw_74 rfl rfl ?_
            first
              | (have k9 := (x_o_m (by decide)).mp h_57; have e9 := x_r4_f k9; exact TQ_f k9 e9 (fun i hi => by rw [jm_sf_n _ _ (by omega), jm_sf_n _ _ (by omega)]))
              | exact TQ_t h_66 rfl (fun i hi => by rw [jm_sf_n _ _ (by omega), jm_sf_n _ _ (by omega)]) (RV_1 (RV_0 hR _) _)
              | exact TQ_f h_66 rfl (fun i hi => by rw [jm_sf_n _ _ (by omega), jm_sf_n _ _ (by omega)])
              | (have e8 := x_r3_f h_36; have e9 := x_r4_f (t := t) (n := n) (by rw [e8]; exact h_36); exact TQ_f h_36 (e9.trans e8) (fun i hi => jm_sf_n _ _ (by omega)))
              | (have k9 := (x_o_m (by decide)).mp h_27; have e8 := x_r3_g (t := t) (n := n) k9; have e9 := x_r4_f (t := t) (n := n) (by rw [e8]; exact k9); exact TQ_f k9 (e9.trans e8) (fun i hi => jm_sf_n _ _ (by omega)))
              | (have e7 := x_r2_f h_6; have e8 := x_r3_g (t := t) (n := n) (by rw [e7]; exact h_6); have e9 := x_r4_f (t := t) (n := n) (by rw [e8, e7]; exact h_6); exact TQ_f h_6 (e9.trans (e8.trans e7)) (RF_0 1 M))
              | fail
      · refine jm_icN (Y := YX4_readLaw) (pc := 39) 0 dX4_readLaw_39 rfl ?_
        refine jm_ret (Y := YX4_readLaw) (pc := 40) (st := []) dX4_readLaw_40 rfl rfl ?_
        first
          | (have k9 := (x_o_m (by decide)).mp h_57; have e9 := x_r4_f k9; exact TQ_f k9 e9 (fun i hi => by rw [jm_sf_n _ _ (by omega), jm_sf_n _ _ (by omega)]))
          | exact TQ_t h_66 rfl (fun i hi => by rw [jm_sf_n _ _ (by omega), jm_sf_n _ _ (by omega)]) (RV_1 (RV_0 hR _) _)
          | exact TQ_f h_66 rfl (fun i hi => by rw [jm_sf_n _ _ (by omega), jm_sf_n _ _ (by omega)])
          | (have e8 := x_r3_f h_36; have e9 := x_r4_f (t := t) (n := n) (by rw [e8]; exact h_36); exact TQ_f h_36 (e9.trans e8) (fun i hi => jm_sf_n _ _ (by omega)))
          | (have k9 := (x_o_m (by decide)).mp h_27; have e8 := x_r3_g (t := t) (n := n) k9; have e9 := x_r4_f (t := t) (n := n) (by rw [e8]; exact k9); exact TQ_f k9 (e9.trans e8) (fun i hi => jm_sf_n _ _ (by omega)))
          | (have e7 := x_r2_f h_6; have e8 := x_r3_g (t := t) (n := n) (by rw [e7]; exact h_6); have e9 := x_r4_f (t := t) (n := n) (by rw [e8, e7]; exact h_6); exact TQ_f h_6 (e9.trans (e8.trans e7)) (RF_0 1 M))
          | fail
  · refine jm_icN (Y := YX4_readLaw) (pc := 9) 0 dX4_readLaw_9 rfl ?_
    refine jm_ret (Y := YX4_readLaw) (pc := 10) (st := []) dX4_readLaw_10 rfl rfl ?_
    first
      | (have k9 := (x_o_m (by decide)).mp h_57; have e9 := x_r4_f k9; exact TQ_f k9 e9 (fun i hi => by rw [jm_sf_n _ _ (by omega), jm_sf_n _ _ (by omega)]))
      | exact TQ_t h_66 rfl (fun i hi => by rw [jm_sf_n _ _ (by omega), jm_sf_n _ _ (by omega)]) (RV_1 (RV_0 hR _) _)
      | exact TQ_f h_66 rfl (fun i hi => by rw [jm_sf_n _ _ (by omega), jm_sf_n _ _ (by omega)])
      | (have e8 := x_r3_f h_36; have e9 := x_r4_f (t := t) (n := n) (by rw [e8]; exact h_36); exact TQ_f h_36 (e9.trans e8) (fun i hi => jm_sf_n _ _ (by omega)))
      | (have k9 := (x_o_m (by decide)).mp h_27; have e8 := x_r3_g (t := t) (n := n) k9; have e9 := x_r4_f (t := t) (n := n) (by rw [e8]; exact k9); exact TQ_f k9 (e9.trans e8) (fun i hi => jm_sf_n _ _ (by omega)))
      | (have e7 := x_r2_f h_6; have e8 := x_r3_g (t := t) (n := n) (by rw [e7]; exact h_6); have e9 := x_r4_f (t := t) (n := n) (by rw [e8, e7]; exact h_6); exact TQ_f h_6 (e9.trans (e8.trans e7)) (RF_0 1 M))
      | fail
theorem t_cell (t : Nat → Nat) (n : Nat) (M : jm_M) (hn : n ≤ 110) (hb : ∀ i, t i ≤ 255) (h7 : ∀ i, i < n → M 7 i = nI (t i)) (h1 : M 2 1 = nI n) (f : Int32) (s : Nat × Nat) (hp : s.1 ≤ n) (hs : s.2 = 0) (g : Nat → Nat) (hR : RV M 1 g) (h12 : g 2 < 12) : jm_J none YX4_readCell 0 [some (.ref 2), some (.ref 36), none] [] (TS M f s) (TQ M f (if s_tk t n s.1 = 1 ∧ t s.1 = 99 then x_c3 t n g s else (s.1, 1)) (x_cg t n g s)) := by
  refine jm_ald_n (Y := YX4_readCell) (pc := 0) (i := 0) dX4_readCell_0 rfl rfl ?_
  refine jm_bpN (Y := YX4_readCell) (pc := 1) 99 dX4_readCell_1 rfl ?_
  refine jm_V1ie (Y := YX4_readCell) (pc := 3) dX4_readCell_3 lk_RX4_38 ⟨_, rfl⟩ rfl rfl (by decide) (Nat.le_of_ble_eq_true rfl) ⟨by decide, by decide⟩ (t_passS t n M hn hb h7 h1 f s hp hs 99 (by decide) (s_tk t n s.1 = 1 ∧ t s.1 = 99) (s_tk_c (by decide)) (by decide)) ?_
  refine jm_if_neB (Y := YX4_readCell) (pc := 6) dX4_readCell_6 rfl (fun h_6 => ?_) (fun h_6 => ?_)
  · obtain ⟨-, kq, -⟩ := x_tk_z (by decide) h_6
    have kt := of_decide_eq_true kq
    have e1 : x_tk t n (decide (s_tk t n s.1 = 1 ∧ t s.1 = 99)) 1 s = x_tk t n (decide (g 2 < 12)) 3 s := (by rw [x_tk_1 hs kq, x_tk_1 hs (decide_eq_true h12)])
    rw [e1]
    rw [e1] at h_6
    refine jm_ald_n (Y := YX4_readCell) (pc := 11) (i := 0) dX4_readCell_11 rfl rfl ?_
    refine jm_icN (Y := YX4_readCell) (pc := 12) 0 dX4_readCell_12 rfl ?_
    refine jm_icN (Y := YX4_readCell) (pc := 13) 3 dX4_readCell_13 rfl ?_
    refine jm_V2ie (Y := YX4_readCell) (pc := 14) dX4_readCell_14 lk_RX4_42 ⟨_, rfl⟩ rfl rfl rfl (by decide) (Nat.le_of_ble_eq_true rfl) ⟨by decide, by decide⟩ ((show jm_J none YX4_readNumber 0 _ [] _ (jm_is (some (.int (x_o (x_c1 t n g s)))) (TS _ f (x_c1 t n g s).2)) from t_numS t n M hn hb h7 h1 f (x_tk t n (decide (g 2 < 12)) 3 s) (x_tk_p hp) h_6 0 3 4 rfl (by decide) (by decide))) ?_
    refine jm_ist_n (Y := YX4_readCell) (pc := 17) (i := 2) (ls' := [_, _, _]) dX4_readCell_17 rfl (Nat.le_of_ble_eq_true rfl) rfl rfl ?_
    refine jm_ild_n (Y := YX4_readCell) (pc := 18) (i := 2) dX4_readCell_18 rfl rfl ?_
    refine jm_iconst (Y := YX4_readCell) (pc := 19) (v := -1) dX4_readCell_19 rfl ?_
    refine jm_icmp_eq (Y := YX4_readCell) (pc := 20) dX4_readCell_20 rfl (fun h_20 => ?_) (fun h_20 => ?_)
    · refine jm_icN (Y := YX4_readCell) (pc := 32) 0 dX4_readCell_32 rfl ?_
      refine jm_ret (Y := YX4_readCell) (pc := 33) (st := []) dX4_readCell_33 rfl rfl ?_
      first
        | exact TQ_f h_6 (by rw [if_neg (fun z => h_6 (by rw [x_tk_1 hs (decide_eq_true z)])), x_tk_2 hs (fun z => h_6 (by rw [x_tk_1 hs z]))]) (RF_0 1 M)
        | exact TQ_f ((x_o_m (by omega)).mp h_20) (by rw [if_pos kt]; exact x_tk_0 ((x_o_m (by omega)).mp h_20)) (RF_0 1 M)
        | exact TQ_f h_29 (by rw [if_pos kt]) (RF_0 1 M)
        | exact TQ_t h_29 (by rw [if_pos kt]) (fun i hi => by rw [jm_sf_n _ _ (by omega), jm_sf_n _ _ (by omega)]) (by rw [x_cg_y h_29]; exact RV_c hR _ h12)
        | fail
    · have k2 : (x_c1 t n g s).2.2 = 0 := (Decidable.not_not.mp (fun z => h_20 ((x_o_m (by omega)).mpr z)))
      rw [x_o_0 k2]
      refine jm_ald_n (Y := YX4_readCell) (pc := 23) (i := 0) dX4_readCell_23 rfl rfl ?_
      refine jm_bpN (Y := YX4_readCell) (pc := 24) 59 dX4_readCell_24 rfl ?_
      refine jm_V1ie (Y := YX4_readCell) (pc := 26) dX4_readCell_26 lk_RX4_38 ⟨_, rfl⟩ rfl rfl (by decide) (Nat.le_of_ble_eq_true rfl) ⟨by decide, by decide⟩ ((show jm_J none YX4_passes 0 _ [] _ (jm_is (some (.int (jm_b ((x_c3 t n g s).2 = 0)))) (TS _ f (x_c3 t n g s))) from t_passS t n M hn hb h7 h1 f (x_c1 t n g s).2 (x_c1_p hp) k2 59 (by decide) (s_tk t n (x_c1 t n g s).2.1 = 4) s_tk_59 (by decide))) ?_
      refine jm_if_neB (Y := YX4_readCell) (pc := 29) dX4_readCell_29 rfl (fun h_29 => ?_) (fun h_29 => ?_)
      · refine jm_ald_n (Y := YX4_readCell) (pc := 34) (i := 1) dX4_readCell_34 rfl rfl ?_
        refine jm_getR (Y := YX4_readCell) (pc := 35) dX4_readCell_35 fr_RX4_62 (by first | exact jm_obR ha | exact jm_obR hb | rfl) (by decide) (by first | exact jm_rf5 | rfl) ?_
        refine jm_ald_n (Y := YX4_readCell) (pc := 38) (i := 1) dX4_readCell_38 rfl rfl ?_
        refine jm_getE (Y := YX4_readCell) (pc := 39) dX4_readCell_39 fw_RX4_65 (by first | exact jm_obR ha | exact jm_obR hb | rfl) (by decide) (by first | exact jm_rf0 | rfl) ((show _ = nI (g 2) from hR.1.1)) ?_
        refine jm_ild_n (Y := YX4_readCell) (pc := 42) (i := 2) dX4_readCell_42 rfl rfl ?_
        refine jm_iasN (Y := YX4_readCell) (pc := 43) dX4_readCell_43 rfl (by omega) ?_
        rw [TS_w _ _ (by decide)]
        refine jm_ald_n (Y := YX4_readCell) (pc := 44) (i := 1) dX4_readCell_44 rfl rfl ?_
        refine jm_dup (Y := YX4_readCell) (pc := 45) dX4_readCell_45 rfl ?_
        refine jm_getE (Y := YX4_readCell) (pc := 46) dX4_readCell_46 fw_RX4_65 (by first | exact jm_obR ha | exact jm_obR hb | rfl) (by decide) (by first | exact jm_rf0 | rfl) ((show _ = nI (g 2) from hR.1.1)) ?_
        refine jm_icN (Y := YX4_readCell) (pc := 49) 1 dX4_readCell_49 rfl ?_
        refine jm_addN (Y := YX4_readCell) (pc := 50) dX4_readCell_50 ?_
        refine jm_put (Y := YX4_readCell) (pc := 51) dX4_readCell_51 fw_RX4_65 rfl (by decide) rfl ?_
        rw [TS_w _ _ (by decide)]
        refine jm_icN (Y := YX4_readCell) (pc := 54) 1 dX4_readCell_54 rfl ?_
        refine jm_ret (Y := YX4_readCell) (pc := 55) (st := []) dX4_readCell_55 rfl rfl ?_
        first
          | exact TQ_f h_6 (by rw [if_neg (fun z => h_6 (by rw [x_tk_1 hs (decide_eq_true z)])), x_tk_2 hs (fun z => h_6 (by rw [x_tk_1 hs z]))]) (RF_0 1 M)
          | exact TQ_f ((x_o_m (by omega)).mp h_20) (by rw [if_pos kt]; exact x_tk_0 ((x_o_m (by omega)).mp h_20)) (RF_0 1 M)
          | exact TQ_f h_29 (by rw [if_pos kt]) (RF_0 1 M)
          | exact TQ_t h_29 (by rw [if_pos kt]) (fun i hi => by rw [jm_sf_n _ _ (by omega), jm_sf_n _ _ (by omega)]) (by rw [x_cg_y h_29]; exact RV_c hR _ h12)
          | fail
      · refine jm_icN (Y := YX4_readCell) (pc := 32) 0 dX4_readCell_32 rfl ?_
        refine jm_ret (Y := YX4_readCell) (pc := 33) (st := []) dX4_readCell_33 rfl rfl ?_
        first
          | exact TQ_f h_6 (by rw [if_neg (fun z => h_6 (by rw [x_tk_1 hs (decide_eq_true z)])), x_tk_2 hs (fun z => h_6 (by rw [x_tk_1 hs z]))]) (RF_0 1 M)
          | exact TQ_f ((x_o_m (by omega)).mp h_20) (by rw [if_pos kt]; exact x_tk_0 ((x_o_m (by omega)).mp h_20)) (RF_0 1 M)
          | exact TQ_f h_29 (by rw [if_pos kt]) (RF_0 1 M)
          | exact TQ_t h_29 (by rw [if_pos kt]) (fun i hi => by rw [jm_sf_n _ _ (by omega), jm_sf_n _ _ (by omega)]) (by rw [x_cg_y h_29]; exact RV_c hR _ h12)
          | fail
  · refine jm_icN (Y := YX4_readCell) (pc := 9) 0 dX4_readCell_9 rfl ?_
    refine jm_ret (Y := YX4_readCell) (pc := 10) (st := []) dX4_readCell_10 rfl rfl ?_
    first
      | exact TQ_f h_6 (by rw [if_neg (fun z => h_6 (by rw [x_tk_1 hs (decide_eq_true z)])), x_tk_2 hs (fun z => h_6 (by rw [x_tk_1 hs z]))]) (RF_0 1 M)
      | exact TQ_f ((x_o_m (by omega)).mp h_20) (by rw [if_pos kt]; exact x_tk_0 ((x_o_m (by omega)).mp h_20)) (RF_0 1 M)
      | exact TQ_f h_29 (by rw [if_pos kt]) (RF_0 1 M)
      | exact TQ_t h_29 (by rw [if_pos kt]) (fun i hi => by rw [jm_sf_n _ _ (by omega), jm_sf_n _ _ (by omega)]) (by rw [x_cg_y h_29]; exact RV_c hR _ h12)
      | fail
theorem t_word (t : Nat → Nat) (n : Nat) (M : jm_M) (hn : n ≤ 110) (hb : ∀ i, t i ≤ 255) (h7 : ∀ i, i < n → M 7 i = nI (t i)) (h1 : M 2 1 = nI n) (f : Int32) (s : Nat × Nat) (hp : s.1 ≤ n) (hs : s.2 = 0) (hlt : s.1 < n) (g : Nat → Nat) (hR : RV M 1 g) (hg : rR g) (h4 : 4 ≤ g 2) (h37 : g 3 < 7) : jm_J none YX4_readWord 0 [some (.ref 2), some (.ref 36), none, none, none] [] (TS M f s) (TQ M f (if 0 < x_kN (t s.1) then x_w4 t n g s else (s.1, 1)) (x_wg t n g s)) := by
  have tb := hb s.1
  have g12 := hg.1.1.2.2.1
  refine jm_ald_n (Y := YX4_readWord) (pc := 0) (i := 0) dX4_readWord_0 rfl rfl ?_
  refine jm_getR (Y := YX4_readWord) (pc := 1) dX4_readWord_1 fr_RX4_9 rfl (by decide) rfl ?_
  refine jm_ald_n (Y := YX4_readWord) (pc := 4) (i := 0) dX4_readWord_4 rfl rfl ?_
  refine jm_getE (Y := YX4_readWord) (pc := 5) dX4_readWord_5 fw_RX4_17 rfl (by decide) rfl ((show _ = nI s.1 from rfl)) ?_
  refine jm_ialN (Y := YX4_readWord) (pc := 8) dX4_readWord_8 (by first | assumption | exact jm_arR1 ha | exact jm_arR2 ha | exact jm_arR3 ha | exact jm_arR1 hb | exact jm_arR2 hb | exact jm_arR3 hb | rfl) (by omega) ((show _ = nI (t s.1) from h7 s.1 hlt)) ?_
  refine jm_S1ie (Y := YX4_readWord) (pc := 9) dX4_readWord_9 lk_RX4_71 ⟨_, rfl⟩ rfl (by decide) (Nat.le_of_ble_eq_true rfl) ⟨by decide, by decide⟩ (k_byLetter _ (by omega) _) ?_
  refine jm_ist_n (Y := YX4_readWord) (pc := 12) (i := 2) (ls' := [_, _, _, _, _]) dX4_readWord_12 rfl (Nat.le_of_ble_eq_true rfl) rfl rfl ?_
  refine jm_ild_n (Y := YX4_readWord) (pc := 13) (i := 2) dX4_readWord_13 rfl rfl ?_
  refine jm_iconst (Y := YX4_readWord) (pc := 14) (v := -1) dX4_readWord_14 rfl ?_
  refine jm_icmp_ne (Y := YX4_readWord) (pc := 15) dX4_readWord_15 rfl (fun h_15 => ?_) (fun h_15 => ?_)
  · have kn : 0 < x_kN (t s.1) := Nat.pos_of_ne_zero (fun z => h_15 (if_pos z))
    have ek : k_by (t s.1) = nI (x_kN (t s.1)) := if_neg (by omega)
    rw [ek]
    have tl1 : s_tl t n s.1 = 1 := s_tl_o hlt (fun z => by unfold x_kN at kn; (repeat' split at kn) <;> omega)
    have e1 : x_tk t n (decide (g 3 < 7)) 3 s = (s.1 + 1, 0) := (by rw [x_tk_1 hs (decide_eq_true h37), tl1])
    refine jm_ald_n (Y := YX4_readWord) (pc := 24) (i := 0) dX4_readWord_24 rfl rfl ?_
    refine jm_dup (Y := YX4_readWord) (pc := 25) dX4_readWord_25 rfl ?_
    refine jm_getE (Y := YX4_readWord) (pc := 26) dX4_readWord_26 fw_RX4_17 rfl (by decide) rfl ((show _ = nI s.1 from rfl)) ?_
    refine jm_icN (Y := YX4_readWord) (pc := 29) 1 dX4_readWord_29 rfl ?_
    refine jm_addN (Y := YX4_readWord) (pc := 30) dX4_readWord_30 ?_
    refine jm_put (Y := YX4_readWord) (pc := 31) dX4_readWord_31 fw_RX4_17 rfl (by decide) rfl ?_
    rw [TS_p hs e1]
    refine jm_ald_n (Y := YX4_readWord) (pc := 34) (i := 0) dX4_readWord_34 rfl rfl ?_
    refine jm_icN (Y := YX4_readWord) (pc := 35) 1 dX4_readWord_35 rfl ?_
    refine jm_bpN (Y := YX4_readWord) (pc := 36) 60 dX4_readWord_36 rfl ?_
    refine jm_V2ie (Y := YX4_readWord) (pc := 38) dX4_readWord_38 lk_RX4_42 ⟨_, rfl⟩ rfl rfl rfl (by decide) (Nat.le_of_ble_eq_true rfl) ⟨by decide, by decide⟩ ((show jm_J none YX4_readNumber 0 _ [] _ (jm_is (some (.int (x_o (x_w2 t n g s)))) (TS _ f (x_w2 t n g s).2)) from t_numS t n M hn hb h7 h1 f (x_tk t n (decide (g 3 < 7)) 3 s) (x_tk_p hp) (by rw [e1]) 1 60 61 rfl (by decide) (by decide))) ?_
    refine jm_ist_n (Y := YX4_readWord) (pc := 41) (i := 3) (ls' := [_, _, _, _, _]) dX4_readWord_41 rfl (Nat.le_of_ble_eq_true rfl) rfl rfl ?_
    refine jm_ild_n (Y := YX4_readWord) (pc := 42) (i := 3) dX4_readWord_42 rfl rfl ?_
    refine jm_iconst (Y := YX4_readWord) (pc := 43) (v := -1) dX4_readWord_43 rfl ?_
    refine jm_icmp_eq (Y := YX4_readWord) (pc := 44) dX4_readWord_44 rfl (fun h_44 => ?_) (fun h_44 => ?_)
    · refine jm_icN (Y := YX4_readWord) (pc := 56) 0 dX4_readWord_56 rfl ?_
      refine jm_ret (Y := YX4_readWord) (pc := 57) (st := []) dX4_readWord_57 rfl rfl ?_
      first
        | exact TQ_f (s' := (s.1, 1)) (show ¬ (1 : Nat) = 0 by decide) (by rw [if_neg (fun z => by have e9 : k_by (t s.1) = nI (x_kN (t s.1)) := if_neg (by omega); first | exact h_15 (fun y => by rw [e9] at y; have e8 := jm_tI (show x_kN (t s.1) < 2147483648 by have := x_kN_le (t s.1); omega); rw [y] at e8; have e7 : (-1 : Int32).toInt = -1 := (by decide); omega) | (rw [e9] at h_15; have e8 := jm_tI (show x_kN (t s.1) < 2147483648 by have := x_kN_le (t s.1); omega); rw [h_15] at e8; have e7 : (-1 : Int32).toInt = -1 := (by decide); omega))]) (RF_0 1 M)
        | (have k9 : ¬ (x_w2 t n g s).2.2 = 0 := (x_o_m (by omega)).mp h_44; have a1 : x_tk t n (decide (s_tk t n (x_w2 t n g s).2.1 = 3)) 1 (x_w2 t n g s).2 = (x_w2 t n g s).2 := x_tk_0 k9; have a2 : (x_w3 t n g s).2 = (x_w2 t n g s).2 := (by unfold x_w3 x_fo; rw [a1, x_fg_0 k9]); have a3 : x_w4 t n g s = (x_w2 t n g s).2 := (by unfold x_w4; rw [a2]; exact x_tk_0 k9); exact TQ_f k9 (by rw [if_pos kn]; exact a3) (RF_0 1 M))
        | exact TQ_f h_53 (by rw [if_pos kn]; have a2 : (x_w3 t n g s).2 = x_tk t n (decide (s_tk t n (x_w2 t n g s).2.1 = 3)) 1 (x_w2 t n g s).2 := (by unfold x_w3 x_fo; rw [x_fg_0 h_53]); unfold x_w4; rw [a2]; exact x_tk_0 h_53) (RF_0 1 M)
        | exact TQ_f ((x_o_m (by omega)).mp h_74) (by rw [if_pos kn]; exact x_tk_0 ((x_o_m (by omega)).mp h_74)) (RF_0 1 M)
        | exact TQ_f h_83 (by rw [if_pos kn]) (RF_0 1 M)
        | exact TQ_t h_83 (by rw [if_pos kn]) (fun i hi => by rw [jm_sf_n _ _ (by omega), jm_sf_n _ _ (by omega), jm_sf_n _ _ (by omega)]) (by rw [x_wg_y h_83]; exact RV_w hR _ _ _ g12)
        | fail
    · have k2 : (x_w2 t n g s).2.2 = 0 := (Decidable.not_not.mp (fun z => h_44 ((x_o_m (by omega)).mpr z)))
      rw [x_o_0 k2]
      refine jm_ald_n (Y := YX4_readWord) (pc := 47) (i := 0) dX4_readWord_47 rfl rfl ?_
      refine jm_bpN (Y := YX4_readWord) (pc := 48) 44 dX4_readWord_48 rfl ?_
      refine jm_V1ie (Y := YX4_readWord) (pc := 50) dX4_readWord_50 lk_RX4_38 ⟨_, rfl⟩ rfl rfl (by decide) (Nat.le_of_ble_eq_true rfl) ⟨by decide, by decide⟩ (t_passS t n M hn hb h7 h1 f (x_w2 t n g s).2 (x_w2_p hp) k2 44 (by decide) (s_tk t n (x_w2 t n g s).2.1 = 3) s_tk_44 (by decide)) ?_
      refine jm_if_neB (Y := YX4_readWord) (pc := 53) dX4_readWord_53 rfl (fun h_53 => ?_) (fun h_53 => ?_)
      · refine jm_ald_n (Y := YX4_readWord) (pc := 58) (i := 0) dX4_readWord_58 rfl rfl ?_
        refine jm_icN (Y := YX4_readWord) (pc := 59) 0 dX4_readWord_59 rfl ?_
        refine jm_ald_n (Y := YX4_readWord) (pc := 60) (i := 1) dX4_readWord_60 rfl rfl ?_
        refine jm_getE (Y := YX4_readWord) (pc := 61) dX4_readWord_61 fw_RX4_65 (by first | exact jm_obR ha | exact jm_obR hb | rfl) (by decide) (by first | exact jm_rf0 | rfl) ((show _ = nI (g 2) from hR.1.1)) ?_
        refine jm_icN (Y := YX4_readWord) (pc := 64) 1 dX4_readWord_64 rfl ?_
        refine jm_subN (Y := YX4_readWord) (pc := 65) dX4_readWord_65 (by omega) ?_
        refine jm_V2ie (Y := YX4_readWord) (pc := 66) dX4_readWord_66 lk_RX4_42 ⟨_, rfl⟩ rfl rfl rfl (by decide) (Nat.le_of_ble_eq_true rfl) ⟨by decide, by decide⟩ ((show jm_J none YX4_readNumber 0 _ [] _ (jm_is (some (.int (x_o (x_w3 t n g s)))) (TS _ f (x_w3 t n g s).2)) from t_numS t n M hn hb h7 h1 f (x_tk t n (decide (s_tk t n (x_w2 t n g s).2.1 = 3)) 1 (x_w2 t n g s).2) (x_tk_p (x_w2_p hp)) h_53 0 (g 2 - 1) (g 2) (by omega) (by decide) (by omega))) ?_
        refine jm_ist (Y := YX4_readWord) (pc := 69) (ls' := [_, _, _, _, _]) dX4_readWord_69 (Nat.le_of_ble_eq_true rfl) rfl rfl ?_
        refine jm_iload (Y := YX4_readWord) (pc := 71) dX4_readWord_71 rfl ?_
        refine jm_iconst (Y := YX4_readWord) (pc := 73) (v := -1) dX4_readWord_73 rfl ?_
        refine jm_icmp_eq (Y := YX4_readWord) (pc := 74) dX4_readWord_74 rfl (fun h_74 => ?_) (fun h_74 => ?_)
        · refine jm_icN (Y := YX4_readWord) (pc := 86) 0 dX4_readWord_86 rfl ?_
          refine jm_ret (Y := YX4_readWord) (pc := 87) (st := []) dX4_readWord_87 rfl rfl ?_
          first
            | exact TQ_f (s' := (s.1, 1)) (show ¬ (1 : Nat) = 0 by decide) (by rw [if_neg (fun z => by have e9 : k_by (t s.1) = nI (x_kN (t s.1)) := if_neg (by omega); first | exact h_15 (fun y => by rw [e9] at y; have e8 := jm_tI (show x_kN (t s.1) < 2147483648 by have := x_kN_le (t s.1); omega); rw [y] at e8; have e7 : (-1 : Int32).toInt = -1 := (by decide); omega) | (rw [e9] at h_15; have e8 := jm_tI (show x_kN (t s.1) < 2147483648 by have := x_kN_le (t s.1); omega); rw [h_15] at e8; have e7 : (-1 : Int32).toInt = -1 := (by decide); omega))]) (RF_0 1 M)
            | (have k9 : ¬ (x_w2 t n g s).2.2 = 0 := (x_o_m (by omega)).mp h_44; have a1 : x_tk t n (decide (s_tk t n (x_w2 t n g s).2.1 = 3)) 1 (x_w2 t n g s).2 = (x_w2 t n g s).2 := x_tk_0 k9; have a2 : (x_w3 t n g s).2 = (x_w2 t n g s).2 := (by unfold x_w3 x_fo; rw [a1, x_fg_0 k9]); have a3 : x_w4 t n g s = (x_w2 t n g s).2 := (by unfold x_w4; rw [a2]; exact x_tk_0 k9); exact TQ_f k9 (by rw [if_pos kn]; exact a3) (RF_0 1 M))
            | exact TQ_f h_53 (by rw [if_pos kn]; have a2 : (x_w3 t n g s).2 = x_tk t n (decide (s_tk t n (x_w2 t n g s).2.1 = 3)) 1 (x_w2 t n g s).2 := (by unfold x_w3 x_fo; rw [x_fg_0 h_53]); unfold x_w4; rw [a2]; exact x_tk_0 h_53) (RF_0 1 M)
            | exact TQ_f ((x_o_m (by omega)).mp h_74) (by rw [if_pos kn]; exact x_tk_0 ((x_o_m (by omega)).mp h_74)) (RF_0 1 M)
            | exact TQ_f h_83 (by rw [if_pos kn]) (RF_0 1 M)
            | exact TQ_t h_83 (by rw [if_pos kn]) (fun i hi => by rw [jm_sf_n _ _ (by omega), jm_sf_n _ _ (by omega), jm_sf_n _ _ (by omega)]) (by rw [x_wg_y h_83]; exact RV_w hR _ _ _ g12)
            | fail
        · have k3 : (x_w3 t n g s).2.2 = 0 := (Decidable.not_not.mp (fun z => h_74 ((x_o_m (by omega)).mpr z)))
          rw [x_o_0 k3]
          refine jm_ald_n (Y := YX4_readWord) (pc := 77) (i := 0) dX4_readWord_77 rfl rfl ?_
          refine jm_bpN (Y := YX4_readWord) (pc := 78) 59 dX4_readWord_78 rfl ?_
          refine jm_V1ie (Y := YX4_readWord) (pc := 80) dX4_readWord_80 lk_RX4_38 ⟨_, rfl⟩ rfl rfl (by decide) (Nat.le_of_ble_eq_true rfl) ⟨by decide, by decide⟩ ((show jm_J none YX4_passes 0 _ [] _ (jm_is (some (.int (jm_b ((x_w4 t n g s).2 = 0)))) (TS _ f (x_w4 t n g s))) from t_passS t n M hn hb h7 h1 f (x_w3 t n g s).2 (x_w3_p hp) k3 59 (by decide) (s_tk t n (x_w3 t n g s).2.1 = 4) s_tk_59 (by decide))) ?_
          refine jm_if_neB (Y := YX4_readWord) (pc := 83) dX4_readWord_83 rfl (fun h_83 => ?_) (fun h_83 => ?_)
          · obtain ⟨z1, z2, z3, z4, z5, z6⟩ := x_w4_z h_83
            refine jm_ald_n (Y := YX4_readWord) (pc := 88) (i := 1) dX4_readWord_88 rfl rfl ?_
            refine jm_getR (Y := YX4_readWord) (pc := 89) dX4_readWord_89 fr_RX4_77 (by first | exact jm_obR ha | exact jm_obR hb | rfl) (by decide) (by first | exact jm_rf6 | rfl) ?_
            refine jm_ald_n (Y := YX4_readWord) (pc := 92) (i := 1) dX4_readWord_92 rfl rfl ?_
            refine jm_getE (Y := YX4_readWord) (pc := 93) dX4_readWord_93 fw_RX4_80 (by first | exact jm_obR ha | exact jm_obR hb | rfl) (by decide) (by first | exact jm_rf1 | rfl) ((show _ = nI (g 3) from hR.1.2.1)) ?_
            refine jm_ild_n (Y := YX4_readWord) (pc := 96) (i := 2) dX4_readWord_96 rfl rfl ?_
            refine jm_iasN (Y := YX4_readWord) (pc := 97) dX4_readWord_97 rfl (by omega) ?_
            rw [TS_w _ _ (by decide)]
            refine jm_ald_n (Y := YX4_readWord) (pc := 98) (i := 1) dX4_readWord_98 rfl rfl ?_
            refine jm_getR (Y := YX4_readWord) (pc := 99) dX4_readWord_99 fr_RX4_83 (by first | exact jm_obR ha | exact jm_obR hb | rfl) (by decide) (by first | exact jm_rf7 | rfl) ?_
            refine jm_ald_n (Y := YX4_readWord) (pc := 102) (i := 1) dX4_readWord_102 rfl rfl ?_
            refine jm_getE (Y := YX4_readWord) (pc := 103) dX4_readWord_103 fw_RX4_80 (by first | exact jm_obR ha | exact jm_obR hb | rfl) (by decide) (by first | exact jm_rf1 | rfl) ((show _ = nI (g 3) from hR.1.2.1)) ?_
            refine jm_ild_n (Y := YX4_readWord) (pc := 106) (i := 3) dX4_readWord_106 rfl rfl ?_
            refine jm_iload (Y := YX4_readWord) (pc := 107) dX4_readWord_107 rfl ?_
            refine jm_S2ie (Y := YX4_readWord) (pc := 109) dX4_readWord_109 lk_RX4_86 ⟨_, rfl⟩ rfl rfl (by decide) (Nat.le_of_ble_eq_true rfl) ⟨by decide, by decide⟩ (m_packed _ _ _ (by omega) (by omega)) ?_
            refine jm_iasN (Y := YX4_readWord) (pc := 112) dX4_readWord_112 rfl (by omega) ?_
            rw [TS_w _ _ (by decide)]
            refine jm_ald_n (Y := YX4_readWord) (pc := 113) (i := 1) dX4_readWord_113 rfl rfl ?_
            refine jm_dup (Y := YX4_readWord) (pc := 114) dX4_readWord_114 rfl ?_
            refine jm_getE (Y := YX4_readWord) (pc := 115) dX4_readWord_115 fw_RX4_80 (by first | exact jm_obR ha | exact jm_obR hb | rfl) (by decide) (by first | exact jm_rf1 | rfl) ((show _ = nI (g 3) from hR.1.2.1)) ?_
            refine jm_icN (Y := YX4_readWord) (pc := 118) 1 dX4_readWord_118 rfl ?_
            refine jm_addN (Y := YX4_readWord) (pc := 119) dX4_readWord_119 ?_
            refine jm_put (Y := YX4_readWord) (pc := 120) dX4_readWord_120 fw_RX4_80 rfl (by decide) rfl ?_
            rw [TS_w _ _ (by decide)]
            refine jm_icN (Y := YX4_readWord) (pc := 123) 1 dX4_readWord_123 rfl ?_
            refine jm_ret (Y := YX4_readWord) (pc := 124) (st := []) dX4_readWord_124 rfl rfl ?_
            first
              | exact TQ_f (s' := (s.1, 1)) (show ¬ (1 : Nat) = 0 by decide) (by rw [if_neg (fun z => by have e9 : k_by (t s.1) = nI (x_kN (t s.1)) := if_neg (by omega); first | exact h_15 (fun y => by rw [e9] at y; have e8 := jm_tI (show x_kN (t s.1) < 2147483648 by have := x_kN_le (t s.1); omega); rw [y] at e8; have e7 : (-1 : Int32).toInt = -1 := (by decide); omega) | (rw [e9] at h_15; have e8 := jm_tI (show x_kN (t s.1) < 2147483648 by have := x_kN_le (t s.1); omega); rw [h_15] at e8; have e7 : (-1 : Int32).toInt = -1 := (by decide); omega))]) (RF_0 1 M)
              | (have k9 : ¬ (x_w2 t n g s).2.2 = 0 := (x_o_m (by omega)).mp h_44; have a1 : x_tk t n (decide (s_tk t n (x_w2 t n g s).2.1 = 3)) 1 (x_w2 t n g s).2 = (x_w2 t n g s).2 := x_tk_0 k9; have a2 : (x_w3 t n g s).2 = (x_w2 t n g s).2 := (by unfold x_w3 x_fo; rw [a1, x_fg_0 k9]); have a3 : x_w4 t n g s = (x_w2 t n g s).2 := (by unfold x_w4; rw [a2]; exact x_tk_0 k9); exact TQ_f k9 (by rw [if_pos kn]; exact a3) (RF_0 1 M))
              | exact TQ_f h_53 (by rw [if_pos kn]; have a2 : (x_w3 t n g s).2 = x_tk t n (decide (s_tk t n (x_w2 t n g s).2.1 = 3)) 1 (x_w2 t n g s).2 := (by unfold x_w3 x_fo; rw [x_fg_0 h_53]); unfold x_w4; rw [a2]; exact x_tk_0 h_53) (RF_0 1 M)
              | exact TQ_f ((x_o_m (by omega)).mp h_74) (by rw [if_pos kn]; exact x_tk_0 ((x_o_m (by omega)).mp h_74)) (RF_0 1 M)
              | exact TQ_f h_83 (by rw [if_pos kn]) (RF_0 1 M)
              | exact TQ_t h_83 (by rw [if_pos kn]) (fun i hi => by rw [jm_sf_n _ _ (by omega), jm_sf_n _ _ (by omega), jm_sf_n _ _ (by omega)]) (by rw [x_wg_y h_83]; exact RV_w hR _ _ _ g12)
              | fail
          · refine jm_icN (Y := YX4_readWord) (pc := 86) 0 dX4_readWord_86 rfl ?_
            refine jm_ret (Y := YX4_readWord) (pc := 87) (st := []) dX4_readWord_87 rfl rfl ?_
            first
              | exact TQ_f (s' := (s.1, 1)) (show ¬ (1 : Nat) = 0 by decide) (by rw [if_neg (fun z => by have e9 : k_by (t s.1) = nI (x_kN (t s.1)) := if_neg (by omega); first | exact h_15 (fun y => by rw [e9] at y; have e8 := jm_tI (show x_kN (t s.1) < 2147483648 by have := x_kN_le (t s.1); omega); rw [y] at e8; have e7 : (-1 : Int32).toInt = -1 := (by decide); omega) | (rw [e9] at h_15; have e8 := jm_tI (show x_kN (t s.1) < 2147483648 by have := x_kN_le (t s.1); omega); rw [h_15] at e8; have e7 : (-1 : Int32).toInt = -1 := (by decide); omega))]) (RF_0 1 M)
              | (have k9 : ¬ (x_w2 t n g s).2.2 = 0 := (x_o_m (by omega)).mp h_44; have a1 : x_tk t n (decide (s_tk t n (x_w2 t n g s).2.1 = 3)) 1 (x_w2 t n g s).2 = (x_w2 t n g s).2 := x_tk_0 k9; have a2 : (x_w3 t n g s).2 = (x_w2 t n g s).2 := (by unfold x_w3 x_fo; rw [a1, x_fg_0 k9]); have a3 : x_w4 t n g s = (x_w2 t n g s).2 := (by unfold x_w4; rw [a2]; exact x_tk_0 k9); exact TQ_f k9 (by rw [if_pos kn]; exact a3) (RF_0 1 M))
              | exact TQ_f h_53 (by rw [if_pos kn]; have a2 : (x_w3 t n g s).2 = x_tk t n (decide (s_tk t n (x_w2 t n g s).2.1 = 3)) 1 (x_w2 t n g s).2 := (by unfold x_w3 x_fo; rw [x_fg_0 h_53]); unfold x_w4; rw [a2]; exact x_tk_0 h_53) (RF_0 1 M)
              | exact TQ_f ((x_o_m (by omega)).mp h_74) (by rw [if_pos kn]; exact x_tk_0 ((x_o_m (by omega)).mp h_74)) (RF_0 1 M)
              | exact TQ_f h_83 (by rw [if_pos kn]) (RF_0 1 M)
              | exact TQ_t h_83 (by rw [if_pos kn]) (fun i hi => by rw [jm_sf_n _ _ (by omega), jm_sf_n _ _ (by omega), jm_sf_n _ _ (by omega)]) (by rw [x_wg_y h_83]; exact RV_w hR _ _ _ g12)
              | fail
      · refine jm_icN (Y := YX4_readWord) (pc := 56) 0 dX4_readWord_56 rfl ?_
        refine jm_ret (Y := YX4_readWord) (pc := 57) (st := []) dX4_readWord_57 rfl rfl ?_
        first
          | exact TQ_f (s' := (s.1, 1)) (show ¬ (1 : Nat) = 0 by decide) (by rw [if_neg (fun z => by have e9 : k_by (t s.1) = nI (x_kN (t s.1)) := if_neg (by omega); first | exact h_15 (fun y => by rw [e9] at y; have e8 := jm_tI (show x_kN (t s.1) < 2147483648 by have := x_kN_le (t s.1); omega); rw [y] at e8; have e7 : (-1 : Int32).toInt = -1 := (by decide); omega) | (rw [e9] at h_15; have e8 := jm_tI (show x_kN (t s.1) < 2147483648 by have := x_kN_le (t s.1); omega); rw [h_15] at e8; have e7 : (-1 : Int32).toInt = -1 := (by decide); omega))]) (RF_0 1 M)
          | (have k9 : ¬ (x_w2 t n g s).2.2 = 0 := (x_o_m (by omega)).mp h_44; have a1 : x_tk t n (decide (s_tk t n (x_w2 t n g s).2.1 = 3)) 1 (x_w2 t n g s).2 = (x_w2 t n g s).2 := x_tk_0 k9; have a2 : (x_w3 t n g s).2 = (x_w2 t n g s).2 := (by unfold x_w3 x_fo; rw [a1, x_fg_0 k9]); have a3 : x_w4 t n g s = (x_w2 t n g s).2 := (by unfold x_w4; rw [a2]; exact x_tk_0 k9); exact TQ_f k9 (by rw [if_pos kn]; exact a3) (RF_0 1 M))
          | exact TQ_f h_53 (by rw [if_pos kn]; have a2 : (x_w3 t n g s).2 = x_tk t n (decide (s_tk t n (x_w2 t n g s).2.1 = 3)) 1 (x_w2 t n g s).2 := (by unfold x_w3 x_fo; rw [x_fg_0 h_53]); unfold x_w4; rw [a2]; exact x_tk_0 h_53) (RF_0 1 M)
          | exact TQ_f ((x_o_m (by omega)).mp h_74) (by rw [if_pos kn]; exact x_tk_0 ((x_o_m (by omega)).mp h_74)) (RF_0 1 M)
          | exact TQ_f h_83 (by rw [if_pos kn]) (RF_0 1 M)
          | exact TQ_t h_83 (by rw [if_pos kn]) (fun i hi => by rw [jm_sf_n _ _ (by omega), jm_sf_n _ _ (by omega), jm_sf_n _ _ (by omega)]) (by rw [x_wg_y h_83]; exact RV_w hR _ _ _ g12)
          | fail
  · refine jm_ald_n (Y := YX4_readWord) (pc := 18) (i := 0) dX4_readWord_18 rfl rfl ?_
    refine jm_icN (Y := YX4_readWord) (pc := 19) 1 dX4_readWord_19 rfl ?_
    refine jm_V1ie (Y := YX4_readWord) (pc := 20) dX4_readWord_20 lk_RX4_58 ⟨_, rfl⟩ rfl rfl (by decide) (Nat.le_of_ble_eq_true rfl) ⟨by decide, by decide⟩ (t_faultyS t n M hn hb h7 h1 f s hp hs 1 (by decide)) ?_
    refine jm_ret (Y := YX4_readWord) (pc := 23) (st := []) dX4_readWord_23 rfl (jm_nb _) ?_
    first
      | exact TQ_f (s' := (s.1, 1)) (show ¬ (1 : Nat) = 0 by decide) (by rw [if_neg (fun z => by have e9 : k_by (t s.1) = nI (x_kN (t s.1)) := if_neg (by omega); first | exact h_15 (fun y => by rw [e9] at y; have e8 := jm_tI (show x_kN (t s.1) < 2147483648 by have := x_kN_le (t s.1); omega); rw [y] at e8; have e7 : (-1 : Int32).toInt = -1 := (by decide); omega) | (rw [e9] at h_15; have e8 := jm_tI (show x_kN (t s.1) < 2147483648 by have := x_kN_le (t s.1); omega); rw [h_15] at e8; have e7 : (-1 : Int32).toInt = -1 := (by decide); omega))]) (RF_0 1 M)
      | (have k9 : ¬ (x_w2 t n g s).2.2 = 0 := (x_o_m (by omega)).mp h_44; have a1 : x_tk t n (decide (s_tk t n (x_w2 t n g s).2.1 = 3)) 1 (x_w2 t n g s).2 = (x_w2 t n g s).2 := x_tk_0 k9; have a2 : (x_w3 t n g s).2 = (x_w2 t n g s).2 := (by unfold x_w3 x_fo; rw [a1, x_fg_0 k9]); have a3 : x_w4 t n g s = (x_w2 t n g s).2 := (by unfold x_w4; rw [a2]; exact x_tk_0 k9); exact TQ_f k9 (by rw [if_pos kn]; exact a3) (RF_0 1 M))
      | exact TQ_f h_53 (by rw [if_pos kn]; have a2 : (x_w3 t n g s).2 = x_tk t n (decide (s_tk t n (x_w2 t n g s).2.1 = 3)) 1 (x_w2 t n g s).2 := (by unfold x_w3 x_fo; rw [x_fg_0 h_53]); unfold x_w4; rw [a2]; exact x_tk_0 h_53) (RF_0 1 M)
      | exact TQ_f ((x_o_m (by omega)).mp h_74) (by rw [if_pos kn]; exact x_tk_0 ((x_o_m (by omega)).mp h_74)) (RF_0 1 M)
      | exact TQ_f h_83 (by rw [if_pos kn]) (RF_0 1 M)
      | exact TQ_t h_83 (by rw [if_pos kn]) (fun i hi => by rw [jm_sf_n _ _ (by omega), jm_sf_n _ _ (by omega), jm_sf_n _ _ (by omega)]) (by rw [x_wg_y h_83]; exact RV_w hR _ _ _ g12)
      | fail
theorem x_cells_0 {t : Nat → Nat} {n m : Nat} {g : Nat → Nat} {s : Nat × Nat} (h : ¬ (s.2 = 0 ∧ s_tk t n s.1 = 1 ∧ t s.1 = 99)) : x_cells t n m g s = (g, s) := by
  cases m with
  | zero => rfl
  | succ m => exact if_neg h
theorem x_cells_1 {t : Nat → Nat} {n m : Nat} {g : Nat → Nat} {s : Nat × Nat} (h : s.2 = 0 ∧ s_tk t n s.1 = 1 ∧ t s.1 = 99) : x_cells t n (m + 1) g s = x_cells t n m (x_cg t n g s) (x_c3 t n g s) := if_pos h
theorem x_cells_f {t : Nat → Nat} {n m : Nat} {g : Nat → Nat} {s : Nat × Nat} (h : s.2 = 0 ∧ s_tk t n s.1 = 1 ∧ t s.1 = 99) (hf : ¬ (x_c3 t n g s).2 = 0) : x_cells t n (m + 1) g s = (g, x_c3 t n g s) := by
  rw [x_cells_1 h, x_cg_n hf, x_cells_0 (fun z => hf z.1)]
theorem x_words_0 {t : Nat → Nat} {n m : Nat} {g : Nat → Nat} {s : Nat × Nat} (h : ¬ (s.2 = 0 ∧ s_tk t n s.1 = 1 ∧ 0 < x_kN (t s.1))) : x_words t n m g s = (g, s) := by
  cases m with
  | zero => rfl
  | succ m => exact if_neg h
theorem x_words_1 {t : Nat → Nat} {n m : Nat} {g : Nat → Nat} {s : Nat × Nat} (h : s.2 = 0 ∧ s_tk t n s.1 = 1 ∧ 0 < x_kN (t s.1)) : x_words t n (m + 1) g s = x_words t n m (x_wg t n g s) (x_w4 t n g s) := if_pos h
theorem x_words_f {t : Nat → Nat} {n m : Nat} {g : Nat → Nat} {s : Nat × Nat} (h : s.2 = 0 ∧ s_tk t n s.1 = 1 ∧ 0 < x_kN (t s.1)) (hf : ¬ (x_w4 t n g s).2 = 0) : x_words t n (m + 1) g s = (g, x_w4 t n g s) := by
  rw [x_words_1 h, x_wg_n hf, x_words_0 (fun z => hf z.1)]
def x_fin (t : Nat → Nat) (n : Nat) (r : (Nat → Nat) × Nat × Nat) : Nat × Nat := if 3 < r.1 2 then r.2 else x_tk t n false 1 r.2
theorem x_fin_f {t : Nat → Nat} {n : Nat} {r : (Nat → Nat) × Nat × Nat} (h : ¬ r.2.2 = 0) : x_fin t n r = r.2 := by
  unfold x_fin
  rw [x_tk_0 h]
  split <;> rfl
theorem x_fin_y {t : Nat → Nat} {n : Nat} {r : (Nat → Nat) × Nat × Nat} (h : 3 < r.1 2) : x_fin t n r = r.2 := if_pos h
theorem x_fin_n {t : Nat → Nat} {n : Nat} {r : (Nat → Nat) × Nat × Nat} (h : ¬ 3 < r.1 2) (h0 : r.2.2 = 0) : x_fin t n r = (r.2.1, 1) := by
  unfold x_fin
  rw [if_neg h, x_tk_2 h0 (by decide)]
def x_fio (t : Nat → Nat) (n : Nat) (s : Nat × Nat) : Nat × Nat := if s_tk t n s.1 = 0 then s else x_tk t n false 1 s
theorem x_fio_f {t : Nat → Nat} {n : Nat} {s : Nat × Nat} (h : ¬ s.2 = 0) : x_fio t n s = s := by
  unfold x_fio
  rw [x_tk_0 h]
  split <;> rfl
theorem x_fio_y {t : Nat → Nat} {n : Nat} {s : Nat × Nat} (h : s_tk t n s.1 = 0) : x_fio t n s = s := if_pos h
theorem x_fio_n {t : Nat → Nat} {n : Nat} {s : Nat × Nat} (h : ¬ s_tk t n s.1 = 0) (h0 : s.2 = 0) : x_fio t n s = (s.1, 1) := by
  unfold x_fio
  rw [if_neg h, x_tk_2 h0 (by decide)]
theorem x_c3_full {t : Nat → Nat} {n : Nat} {g : Nat → Nat} {s : Nat × Nat} (h0 : s.2 = 0) (h : ¬ g 2 < 12) : x_c3 t n g s = (s.1, 3) := by
  have e : x_tk t n (decide (g 2 < 12)) 3 s = (s.1, 3) := x_tk_2 h0 (fun z => h (of_decide_eq_true z))
  have e2 : x_c1 t n g s = (0, (s.1, 3)) := by
    unfold x_c1
    rw [e]
    exact x_fg_0 (show ¬ (3 : Nat) = 0 by decide)
  unfold x_c3
  rw [e2]
  exact x_tk_0 (show ¬ (3 : Nat) = 0 by decide)
theorem x_w4_full {t : Nat → Nat} {n : Nat} {g : Nat → Nat} {s : Nat × Nat} (h0 : s.2 = 0) (h : ¬ g 3 < 7) : x_w4 t n g s = (s.1, 3) := by
  have e : x_tk t n (decide (g 3 < 7)) 3 s = (s.1, 3) := x_tk_2 h0 (fun z => h (of_decide_eq_true z))
  have e2 : x_w2 t n g s = (0, (s.1, 3)) := by
    unfold x_w2
    rw [e]
    exact x_fg_0 (show ¬ (3 : Nat) = 0 by decide)
  have e3 : x_w3 t n g s = (0, (s.1, 3)) := by
    unfold x_w3 x_fo
    rw [e2, x_tk_0 (show ¬ (3 : Nat) = 0 by decide)]
    exact x_fg_0 (show ¬ (3 : Nat) = 0 by decide)
  unfold x_w4
  rw [e3]
  exact x_tk_0 (show ¬ (3 : Nat) = 0 by decide)
theorem TQ_d {M M1 : jm_M} {f v : Int32} {s : Nat × Nat} {g : Nat → Nat} (h : TQ M f s g (some (.int v)) M1) : ∃ M2, M1 = TS M2 f s ∧ v = jm_b (s.2 = 0) ∧ RF 1 M M2 ∧ (s.2 = 0 → RV M2 1 g) := by
  obtain ⟨M2, e1, e2, e3, e4⟩ := h
  injection e2 with e2
  injection e2 with e2
  exact ⟨M2, e1, e2, e3, e4⟩
theorem t_cells0 (t : Nat → Nat) (n : Nat) (hn : n ≤ 110) (hb : ∀ i, t i ≤ 255) (M0 : jm_M) (h70 : ∀ i, i < n → M0 7 i = nI (t i)) (h10 : M0 2 1 = nI n) (f : Int32) : ∀ (m : Nat) (M : jm_M) (g : Nat → Nat) (s : Nat × Nat), RF 1 M0 M → RV M 1 g → rR g → s.1 ≤ n → s.2 = 0 → x_ms n s < m → jm_J none YX4_readCells 2 [some (.ref 2), some (.ref 36), some (.int (nI (g 2)))] [] (TS M f s) (TQ M0 f (x_fin t n (x_cells t n m g s)) (x_cells t n m g s).1) := by
  intro m
  induction m with
  | zero => intros; omega
  | succ m ih =>
    intro M g s hF hR hg hp hs hmm
    have h7 : ∀ i, i < n → M 7 i = nI (t i) := fun i hi => by rw [hF 7 (by omega)]; exact h70 i hi
    have h1 : M 2 1 = nI n := by rw [hF 2 (by omega)]; exact h10
    have g12 := hg.1.1.2.2.1
    have g37 := hg.1.1.2.2.2.1
    have tb := hb s.1
    refine jm_ild_n (Y := YX4_readCells) (pc := 2) (i := 2) dX4_readCells_2 rfl rfl ?_
    refine jm_bpN (Y := YX4_readCells) (pc := 3) 12 dX4_readCells_3 rfl ?_
    refine jm_icmp_geN (Y := YX4_readCells) (pc := 5) dX4_readCells_5 rfl (by omega) (by omega) (fun h_5 => ?_) (fun h_5 => ?_)
    · refine jm_ald_n (Y := YX4_readCells) (pc := 38) (i := 0) dX4_readCells_38 rfl rfl ?_
      refine jm_bpN (Y := YX4_readCells) (pc := 39) 99 dX4_readCells_39 rfl ?_
      refine jm_V1ie (Y := YX4_readCells) (pc := 41) dX4_readCells_41 lk_RX4_52 ⟨_, rfl⟩ rfl rfl (by decide) (Nat.le_of_ble_eq_true rfl) ⟨by decide, by decide⟩ (t_isAtS t n M hn hb h7 h1 f s hp hs 99 (by decide)) ?_
      refine jm_if_eqB (Y := YX4_readCells) (pc := 44) dX4_readCells_44 rfl (fun h_44 => ?_) (fun h_44 => ?_)
      · refine jm_icN (Y := YX4_readCells) (pc := 55) 1 dX4_readCells_55 rfl ?_
        refine jm_goto (Y := YX4_readCells) (pc := 56) dX4_readCells_56 rfl ?_
        refine jm_ret (Y := YX4_readCells) (pc := 60) (st := []) dX4_readCells_60 rfl rfl ?_
        by_cases kt : s_tk t n s.1 = 1 ∧ t s.1 = 99
        · have ku := (s_tk_c (t := t) (n := n) (p := s.1) (c := 99) (by decide)).mpr kt
          first
          | exact absurd ku h_44
          | exact absurd ku h_19
          | (rw [if_pos kt] at h_27 ⊢; exact TQ_f h_27 (by rw [x_cells_f ⟨hs, kt⟩ h_27]; exact x_fin_f h_27) (RF_t hF e3))
          | (have e8 := x_c3_full (t := t) (n := n) (g := g) hs (show ¬ g 2 < 12 by omega); exact TQ_f (s' := (s.1, 3)) (show ¬ (3 : Nat) = 0 by decide) (by rw [x_cells_f ⟨hs, kt⟩ (by rw [e8]; exact (show ¬ (3 : Nat) = 0 by decide)), x_fin_f (by rw [e8]; exact (show ¬ (3 : Nat) = 0 by decide)), e8]) hF)
          | fail
        · have kv : ¬ (s.1 < n ∧ t s.1 = 99) := fun z => kt ((s_tk_c (by decide)).mp z)
          have ec : x_cells t n (m + 1) g s = (g, s) := x_cells_0 (fun z => kt z.2)
          rw [ec]
          first
          | exact absurd h_44 kv
          | (rw [if_neg kt]; exact TQ_f (s' := (s.1, 1)) (show ¬ (1 : Nat) = 0 by decide) (x_fin_n (show ¬ 3 < g 2 by have h19 := kv; omega) hs) (RF_t hF e3))
          | exact TQ_t hs (x_fin_y (show 3 < g 2 by omega)) hF hR
          | fail
      · refine jm_ald_n (Y := YX4_readCells) (pc := 47) (i := 0) dX4_readCells_47 rfl rfl ?_
        refine jm_icN (Y := YX4_readCells) (pc := 48) 3 dX4_readCells_48 rfl ?_
        refine jm_V1ie (Y := YX4_readCells) (pc := 49) dX4_readCells_49 lk_RX4_58 ⟨_, rfl⟩ rfl rfl (by decide) (Nat.le_of_ble_eq_true rfl) ⟨by decide, by decide⟩ (t_faultyS t n M hn hb h7 h1 f s hp hs 3 (by decide)) ?_
        refine jm_if_eqB (Y := YX4_readCells) (pc := 52) dX4_readCells_52 rfl (fun _ => ?_) (fun h => h.elim)
        refine jm_icN (Y := YX4_readCells) (pc := 59) 0 dX4_readCells_59 rfl ?_
        refine jm_ret (Y := YX4_readCells) (pc := 60) (st := []) dX4_readCells_60 rfl rfl ?_
        by_cases kt : s_tk t n s.1 = 1 ∧ t s.1 = 99
        · have ku := (s_tk_c (t := t) (n := n) (p := s.1) (c := 99) (by decide)).mpr kt
          first
          | exact absurd ku h_44
          | exact absurd ku h_19
          | (rw [if_pos kt] at h_27 ⊢; exact TQ_f h_27 (by rw [x_cells_f ⟨hs, kt⟩ h_27]; exact x_fin_f h_27) (RF_t hF e3))
          | (have e8 := x_c3_full (t := t) (n := n) (g := g) hs (show ¬ g 2 < 12 by omega); exact TQ_f (s' := (s.1, 3)) (show ¬ (3 : Nat) = 0 by decide) (by rw [x_cells_f ⟨hs, kt⟩ (by rw [e8]; exact (show ¬ (3 : Nat) = 0 by decide)), x_fin_f (by rw [e8]; exact (show ¬ (3 : Nat) = 0 by decide)), e8]) hF)
          | fail
        · have kv : ¬ (s.1 < n ∧ t s.1 = 99) := fun z => kt ((s_tk_c (by decide)).mp z)
          have ec : x_cells t n (m + 1) g s = (g, s) := x_cells_0 (fun z => kt z.2)
          rw [ec]
          first
          | exact absurd h_44 kv
          | (rw [if_neg kt]; exact TQ_f (s' := (s.1, 1)) (show ¬ (1 : Nat) = 0 by decide) (x_fin_n (show ¬ 3 < g 2 by have h19 := kv; omega) hs) (RF_t hF e3))
          | exact TQ_t hs (x_fin_y (show 3 < g 2 by omega)) hF hR
          | fail
    · refine jm_ild_n (Y := YX4_readCells) (pc := 8) (i := 2) dX4_readCells_8 rfl rfl ?_
      refine jm_icN (Y := YX4_readCells) (pc := 9) 4 dX4_readCells_9 rfl ?_
      refine jm_icmp_ltN (Y := YX4_readCells) (pc := 10) dX4_readCells_10 rfl (by omega) (by omega) (fun h_10 => ?_) (fun h_10 => ?_)
      · refine jm_ald_n (Y := YX4_readCells) (pc := 22) (i := 0) dX4_readCells_22 rfl rfl ?_
        refine jm_ald_n (Y := YX4_readCells) (pc := 23) (i := 1) dX4_readCells_23 rfl rfl ?_
        refine jm_V1i (Y := YX4_readCells) (pc := 24) dX4_readCells_24 lk_RX4_55 ⟨_, rfl⟩ rfl rfl (by decide) (Nat.le_of_ble_eq_true rfl) ⟨by decide, by decide⟩ (t_cell t n M hn hb h7 h1 f s hp hs g hR (by omega)) (fun r_24 M_24 q_24 => ?_)
        obtain ⟨M2, e1, e2, e3, e4⟩ := TQ_d q_24
        subst e1 e2
        refine jm_if_neB (Y := YX4_readCells) (pc := 27) dX4_readCells_27 rfl (fun h_27 => ?_) (fun h_27 => ?_)
        · refine jm_incN (Y := YX4_readCells) (pc := 32) (m := 1) (ls' := [_, _, _]) dX4_readCells_32 rfl rfl rfl rfl ?_
          refine jm_goto (Y := YX4_readCells) (pc := 35) dX4_readCells_35 rfl ?_
          by_cases kt : s_tk t n s.1 = 1 ∧ t s.1 = 99
          · have ec : x_cells t n (m + 1) g s = x_cells t n m (x_cg t n g s) (x_c3 t n g s) := x_cells_1 ⟨hs, kt⟩
            rw [if_pos kt] at h_27 e4 ⊢
            rw [ec]
            have eg : nI (g 2 + 1) = nI (x_cg t n g s 2) := by rw [x_cg_y h_27, wU_s]
            rw [eg]
            exact ih M2 (x_cg t n g s) (x_c3 t n g s) (RF_t hF e3) (e4 h_27) (rR_c hg) (x_c3_p hp) h_27 (x_ms_c hp hs kt.1 hmm)
          · rw [if_neg kt] at h_27
            exact absurd h_27 (show ¬ (1 : Nat) = 0 by decide)
        · refine jm_icN (Y := YX4_readCells) (pc := 30) 0 dX4_readCells_30 rfl ?_
          refine jm_ret (Y := YX4_readCells) (pc := 31) (st := []) dX4_readCells_31 rfl rfl ?_
          by_cases kt : s_tk t n s.1 = 1 ∧ t s.1 = 99
          · have ku := (s_tk_c (t := t) (n := n) (p := s.1) (c := 99) (by decide)).mpr kt
            first
            | exact absurd ku h_44
            | exact absurd ku h_19
            | (rw [if_pos kt] at h_27 ⊢; exact TQ_f h_27 (by rw [x_cells_f ⟨hs, kt⟩ h_27]; exact x_fin_f h_27) (RF_t hF e3))
            | (have e8 := x_c3_full (t := t) (n := n) (g := g) hs (show ¬ g 2 < 12 by omega); exact TQ_f (s' := (s.1, 3)) (show ¬ (3 : Nat) = 0 by decide) (by rw [x_cells_f ⟨hs, kt⟩ (by rw [e8]; exact (show ¬ (3 : Nat) = 0 by decide)), x_fin_f (by rw [e8]; exact (show ¬ (3 : Nat) = 0 by decide)), e8]) hF)
            | fail
          · have kv : ¬ (s.1 < n ∧ t s.1 = 99) := fun z => kt ((s_tk_c (by decide)).mp z)
            have ec : x_cells t n (m + 1) g s = (g, s) := x_cells_0 (fun z => kt z.2)
            rw [ec]
            first
            | exact absurd h_44 kv
            | (rw [if_neg kt]; exact TQ_f (s' := (s.1, 1)) (show ¬ (1 : Nat) = 0 by decide) (x_fin_n (show ¬ 3 < g 2 by have h19 := kv; omega) hs) (RF_t hF e3))
            | exact TQ_t hs (x_fin_y (show 3 < g 2 by omega)) hF hR
            | fail
      · refine jm_ald_n (Y := YX4_readCells) (pc := 13) (i := 0) dX4_readCells_13 rfl rfl ?_
        refine jm_bpN (Y := YX4_readCells) (pc := 14) 99 dX4_readCells_14 rfl ?_
        refine jm_V1ie (Y := YX4_readCells) (pc := 16) dX4_readCells_16 lk_RX4_52 ⟨_, rfl⟩ rfl rfl (by decide) (Nat.le_of_ble_eq_true rfl) ⟨by decide, by decide⟩ (t_isAtS t n M hn hb h7 h1 f s hp hs 99 (by decide)) ?_
        refine jm_if_eqB (Y := YX4_readCells) (pc := 19) dX4_readCells_19 rfl (fun h_19 => ?_) (fun h_19 => ?_)
        · refine jm_ald_n (Y := YX4_readCells) (pc := 38) (i := 0) dX4_readCells_38 rfl rfl ?_
          refine jm_bpN (Y := YX4_readCells) (pc := 39) 99 dX4_readCells_39 rfl ?_
          refine jm_V1ie (Y := YX4_readCells) (pc := 41) dX4_readCells_41 lk_RX4_52 ⟨_, rfl⟩ rfl rfl (by decide) (Nat.le_of_ble_eq_true rfl) ⟨by decide, by decide⟩ (t_isAtS t n M hn hb h7 h1 f s hp hs 99 (by decide)) ?_
          refine jm_if_eqB (Y := YX4_readCells) (pc := 44) dX4_readCells_44 rfl (fun h_44 => ?_) (fun h_44 => ?_)
          · refine jm_icN (Y := YX4_readCells) (pc := 55) 1 dX4_readCells_55 rfl ?_
            refine jm_goto (Y := YX4_readCells) (pc := 56) dX4_readCells_56 rfl ?_
            refine jm_ret (Y := YX4_readCells) (pc := 60) (st := []) dX4_readCells_60 rfl rfl ?_
            by_cases kt : s_tk t n s.1 = 1 ∧ t s.1 = 99
            · have ku := (s_tk_c (t := t) (n := n) (p := s.1) (c := 99) (by decide)).mpr kt
              first
              | exact absurd ku h_44
              | exact absurd ku h_19
              | (rw [if_pos kt] at h_27 ⊢; exact TQ_f h_27 (by rw [x_cells_f ⟨hs, kt⟩ h_27]; exact x_fin_f h_27) (RF_t hF e3))
              | (have e8 := x_c3_full (t := t) (n := n) (g := g) hs (show ¬ g 2 < 12 by omega); exact TQ_f (s' := (s.1, 3)) (show ¬ (3 : Nat) = 0 by decide) (by rw [x_cells_f ⟨hs, kt⟩ (by rw [e8]; exact (show ¬ (3 : Nat) = 0 by decide)), x_fin_f (by rw [e8]; exact (show ¬ (3 : Nat) = 0 by decide)), e8]) hF)
              | fail
            · have kv : ¬ (s.1 < n ∧ t s.1 = 99) := fun z => kt ((s_tk_c (by decide)).mp z)
              have ec : x_cells t n (m + 1) g s = (g, s) := x_cells_0 (fun z => kt z.2)
              rw [ec]
              first
              | exact absurd h_44 kv
              | (rw [if_neg kt]; exact TQ_f (s' := (s.1, 1)) (show ¬ (1 : Nat) = 0 by decide) (x_fin_n (show ¬ 3 < g 2 by have h19 := kv; omega) hs) (RF_t hF e3))
              | exact TQ_t hs (x_fin_y (show 3 < g 2 by omega)) hF hR
              | fail
          · refine jm_ald_n (Y := YX4_readCells) (pc := 47) (i := 0) dX4_readCells_47 rfl rfl ?_
            refine jm_icN (Y := YX4_readCells) (pc := 48) 3 dX4_readCells_48 rfl ?_
            refine jm_V1ie (Y := YX4_readCells) (pc := 49) dX4_readCells_49 lk_RX4_58 ⟨_, rfl⟩ rfl rfl (by decide) (Nat.le_of_ble_eq_true rfl) ⟨by decide, by decide⟩ (t_faultyS t n M hn hb h7 h1 f s hp hs 3 (by decide)) ?_
            refine jm_if_eqB (Y := YX4_readCells) (pc := 52) dX4_readCells_52 rfl (fun _ => ?_) (fun h => h.elim)
            refine jm_icN (Y := YX4_readCells) (pc := 59) 0 dX4_readCells_59 rfl ?_
            refine jm_ret (Y := YX4_readCells) (pc := 60) (st := []) dX4_readCells_60 rfl rfl ?_
            by_cases kt : s_tk t n s.1 = 1 ∧ t s.1 = 99
            · have ku := (s_tk_c (t := t) (n := n) (p := s.1) (c := 99) (by decide)).mpr kt
              first
              | exact absurd ku h_44
              | exact absurd ku h_19
              | (rw [if_pos kt] at h_27 ⊢; exact TQ_f h_27 (by rw [x_cells_f ⟨hs, kt⟩ h_27]; exact x_fin_f h_27) (RF_t hF e3))
              | (have e8 := x_c3_full (t := t) (n := n) (g := g) hs (show ¬ g 2 < 12 by omega); exact TQ_f (s' := (s.1, 3)) (show ¬ (3 : Nat) = 0 by decide) (by rw [x_cells_f ⟨hs, kt⟩ (by rw [e8]; exact (show ¬ (3 : Nat) = 0 by decide)), x_fin_f (by rw [e8]; exact (show ¬ (3 : Nat) = 0 by decide)), e8]) hF)
              | fail
            · have kv : ¬ (s.1 < n ∧ t s.1 = 99) := fun z => kt ((s_tk_c (by decide)).mp z)
              have ec : x_cells t n (m + 1) g s = (g, s) := x_cells_0 (fun z => kt z.2)
              rw [ec]
              first
              | exact absurd h_44 kv
              | (rw [if_neg kt]; exact TQ_f (s' := (s.1, 1)) (show ¬ (1 : Nat) = 0 by decide) (x_fin_n (show ¬ 3 < g 2 by have h19 := kv; omega) hs) (RF_t hF e3))
              | exact TQ_t hs (x_fin_y (show 3 < g 2 by omega)) hF hR
              | fail
        · refine jm_ald_n (Y := YX4_readCells) (pc := 22) (i := 0) dX4_readCells_22 rfl rfl ?_
          refine jm_ald_n (Y := YX4_readCells) (pc := 23) (i := 1) dX4_readCells_23 rfl rfl ?_
          refine jm_V1i (Y := YX4_readCells) (pc := 24) dX4_readCells_24 lk_RX4_55 ⟨_, rfl⟩ rfl rfl (by decide) (Nat.le_of_ble_eq_true rfl) ⟨by decide, by decide⟩ (t_cell t n M hn hb h7 h1 f s hp hs g hR (by omega)) (fun r_24 M_24 q_24 => ?_)
          obtain ⟨M2, e1, e2, e3, e4⟩ := TQ_d q_24
          subst e1 e2
          refine jm_if_neB (Y := YX4_readCells) (pc := 27) dX4_readCells_27 rfl (fun h_27 => ?_) (fun h_27 => ?_)
          · refine jm_incN (Y := YX4_readCells) (pc := 32) (m := 1) (ls' := [_, _, _]) dX4_readCells_32 rfl rfl rfl rfl ?_
            refine jm_goto (Y := YX4_readCells) (pc := 35) dX4_readCells_35 rfl ?_
            by_cases kt : s_tk t n s.1 = 1 ∧ t s.1 = 99
            · have ec : x_cells t n (m + 1) g s = x_cells t n m (x_cg t n g s) (x_c3 t n g s) := x_cells_1 ⟨hs, kt⟩
              rw [if_pos kt] at h_27 e4 ⊢
              rw [ec]
              have eg : nI (g 2 + 1) = nI (x_cg t n g s 2) := by rw [x_cg_y h_27, wU_s]
              rw [eg]
              exact ih M2 (x_cg t n g s) (x_c3 t n g s) (RF_t hF e3) (e4 h_27) (rR_c hg) (x_c3_p hp) h_27 (x_ms_c hp hs kt.1 hmm)
            · rw [if_neg kt] at h_27
              exact absurd h_27 (show ¬ (1 : Nat) = 0 by decide)
          · refine jm_icN (Y := YX4_readCells) (pc := 30) 0 dX4_readCells_30 rfl ?_
            refine jm_ret (Y := YX4_readCells) (pc := 31) (st := []) dX4_readCells_31 rfl rfl ?_
            by_cases kt : s_tk t n s.1 = 1 ∧ t s.1 = 99
            · have ku := (s_tk_c (t := t) (n := n) (p := s.1) (c := 99) (by decide)).mpr kt
              first
              | exact absurd ku h_44
              | exact absurd ku h_19
              | (rw [if_pos kt] at h_27 ⊢; exact TQ_f h_27 (by rw [x_cells_f ⟨hs, kt⟩ h_27]; exact x_fin_f h_27) (RF_t hF e3))
              | (have e8 := x_c3_full (t := t) (n := n) (g := g) hs (show ¬ g 2 < 12 by omega); exact TQ_f (s' := (s.1, 3)) (show ¬ (3 : Nat) = 0 by decide) (by rw [x_cells_f ⟨hs, kt⟩ (by rw [e8]; exact (show ¬ (3 : Nat) = 0 by decide)), x_fin_f (by rw [e8]; exact (show ¬ (3 : Nat) = 0 by decide)), e8]) hF)
              | fail
            · have kv : ¬ (s.1 < n ∧ t s.1 = 99) := fun z => kt ((s_tk_c (by decide)).mp z)
              have ec : x_cells t n (m + 1) g s = (g, s) := x_cells_0 (fun z => kt z.2)
              rw [ec]
              first
              | exact absurd h_44 kv
              | (rw [if_neg kt]; exact TQ_f (s' := (s.1, 1)) (show ¬ (1 : Nat) = 0 by decide) (x_fin_n (show ¬ 3 < g 2 by have h19 := kv; omega) hs) (RF_t hF e3))
              | exact TQ_t hs (x_fin_y (show 3 < g 2 by omega)) hF hR
              | fail
theorem t_words0 (t : Nat → Nat) (n : Nat) (hn : n ≤ 110) (hb : ∀ i, t i ≤ 255) (M0 : jm_M) (h70 : ∀ i, i < n → M0 7 i = nI (t i)) (h10 : M0 2 1 = nI n) (f : Int32) : ∀ (m : Nat) (M : jm_M) (g : Nat → Nat) (s : Nat × Nat), RF 1 M0 M → RV M 1 g → rR g → s.1 ≤ n → s.2 = 0 → 4 ≤ g 2 → x_ms n s < m → jm_J none YX4_readWords 2 [some (.ref 2), some (.ref 36), some (.int (nI (g 3)))] [] (TS M f s) (TQ M0 f (x_fio t n (x_words t n m g s).2) (x_words t n m g s).1) := by
  intro m
  induction m with
  | zero => intros; omega
  | succ m ih =>
    intro M g s hF hR hg hp hs h4 hmm
    have h7 : ∀ i, i < n → M 7 i = nI (t i) := fun i hi => by rw [hF 7 (by omega)]; exact h70 i hi
    have h1 : M 2 1 = nI n := by rw [hF 2 (by omega)]; exact h10
    have g12 := hg.1.1.2.2.1
    have g37 := hg.1.1.2.2.2.1
    have tb := hb s.1
    refine jm_ild_n (Y := YX4_readWords) (pc := 2) (i := 2) dX4_readWords_2 rfl rfl ?_
    refine jm_bpN (Y := YX4_readWords) (pc := 3) 7 dX4_readWords_3 rfl ?_
    refine jm_icmp_geN (Y := YX4_readWords) (pc := 5) dX4_readWords_5 rfl (by omega) (by omega) (fun h_5 => ?_) (fun h_5 => ?_)
    · refine jm_ald_n (Y := YX4_readWords) (pc := 35) (i := 0) dX4_readWords_35 rfl rfl ?_
      refine jm_getE (Y := YX4_readWords) (pc := 36) dX4_readWords_36 fw_RX4_17 rfl (by decide) rfl ((show _ = nI s.1 from rfl)) ?_
      refine jm_ald_n (Y := YX4_readWords) (pc := 39) (i := 0) dX4_readWords_39 rfl rfl ?_
      refine jm_getE (Y := YX4_readWords) (pc := 40) dX4_readWords_40 fw_RX4_13 rfl (by decide) rfl ((show _ = nI n from h1)) ?_
      refine jm_icmp_ltN (Y := YX4_readWords) (pc := 43) dX4_readWords_43 rfl (by omega) (by omega) (fun h_43 => ?_) (fun h_43 => ?_)
      · refine jm_ald_n (Y := YX4_readWords) (pc := 48) (i := 0) dX4_readWords_48 rfl rfl ?_
        refine jm_ald_n (Y := YX4_readWords) (pc := 49) (i := 0) dX4_readWords_49 rfl rfl ?_
        refine jm_getR (Y := YX4_readWords) (pc := 50) dX4_readWords_50 fr_RX4_9 rfl (by decide) rfl ?_
        refine jm_ald_n (Y := YX4_readWords) (pc := 53) (i := 0) dX4_readWords_53 rfl rfl ?_
        refine jm_getE (Y := YX4_readWords) (pc := 54) dX4_readWords_54 fw_RX4_17 rfl (by decide) rfl ((show _ = nI s.1 from rfl)) ?_
        refine jm_ialN (Y := YX4_readWords) (pc := 57) dX4_readWords_57 (by first | assumption | exact jm_arR1 ha | exact jm_arR2 ha | exact jm_arR3 ha | exact jm_arR1 hb | exact jm_arR2 hb | exact jm_arR3 hb | rfl) (by omega) ((show _ = nI (t s.1) from h7 s.1 (by omega))) ?_
        refine jm_S1ie (Y := YX4_readWords) (pc := 58) dX4_readWords_58 lk_RX4_71 ⟨_, rfl⟩ rfl (by decide) (Nat.le_of_ble_eq_true rfl) ⟨by decide, by decide⟩ (k_byLetter _ (hb s.1) _) ?_
        refine jm_iconst (Y := YX4_readWords) (pc := 61) (v := -1) dX4_readWords_61 rfl ?_
        refine jm_icmp_ne (Y := YX4_readWords) (pc := 62) dX4_readWords_62 rfl (fun h_62 => ?_) (fun h_62 => ?_)
        · refine jm_icN (Y := YX4_readWords) (pc := 69) 3 dX4_readWords_69 rfl ?_
          refine jm_V1ie (Y := YX4_readWords) (pc := 70) dX4_readWords_70 lk_RX4_58 ⟨_, rfl⟩ rfl rfl (by decide) (Nat.le_of_ble_eq_true rfl) ⟨by decide, by decide⟩ (t_faultyS t n M hn hb h7 h1 f s hp hs _ (by decide)) ?_
          refine jm_ret (Y := YX4_readWords) (pc := 73) (st := []) dX4_readWords_73 rfl (jm_nb _) ?_
          by_cases kt : 0 < x_kN (t s.1)
          · by_cases kp : s.1 < n
            · have ktk : s_tk t n s.1 = 1 := s_tk_le1 kp (by unfold x_kN at kt; (repeat' split at kt) <;> omega)
              first
              | (rw [if_pos kt] at h_24 ⊢; exact TQ_f h_24 (by rw [x_words_f ⟨hs, ktk, kt⟩ h_24]; exact x_fio_f h_24) (RF_t hF e3))
              | exact absurd kp (by omega)
              | (have e8 := x_w4_full (t := t) (n := n) (g := g) hs (show ¬ g 3 < 7 by omega); exact TQ_f (s' := (s.1, 3)) (show ¬ (3 : Nat) = 0 by decide) (by rw [x_words_f ⟨hs, ktk, kt⟩ (by rw [e8]; exact (show ¬ (3 : Nat) = 0 by decide)), e8]; exact x_fio_f (show ¬ (3 : Nat) = 0 by decide)) hF)
              | exact absurd h_62 (by unfold k_by; rw [if_neg (by omega)]; intro y; have e8 := jm_tI (show x_kN (t s.1) < 2147483648 by have := x_kN_le (t s.1); omega); rw [y] at e8; have e7 : (-1 : Int32).toInt = -1 := (by decide); omega)
              | exact absurd (show ¬ k_by (t s.1) = -1 by unfold k_by; rw [if_neg (by omega)]; intro y; have e8 := jm_tI (show x_kN (t s.1) < 2147483648 by have := x_kN_le (t s.1); omega); rw [y] at e8; have e7 : (-1 : Int32).toInt = -1 := (by decide); omega) h_62
              | fail
            · have ktk : s_tk t n s.1 = 0 := (s_tk_e hp).mpr (by omega)
              rw [x_words_0 (fun z => absurd z.2.1 (by rw [ktk]; decide))]
              first | exact TQ_t hs (x_fio_y ktk) hF hR | exact absurd (show s.1 < n by omega) kp | fail
          · rw [x_words_0 (fun z => kt z.2.2)]
            have k1 : k_by (t s.1) = -1 := if_pos (by omega)
            first
            | exact absurd k1 h_62
            | (rw [if_neg kt]; exact TQ_f (s' := (s.1, 1)) (show ¬ (1 : Nat) = 0 by decide) (x_fio_n (fun z => by have := (s_tk_e hp).mp z; omega) hs) (RF_t hF e3))
            | exact TQ_f (s' := (s.1, 1)) (show ¬ (1 : Nat) = 0 by decide) (x_fio_n (fun z => by have := (s_tk_e hp).mp z; omega) hs) hF
            | exact TQ_t hs (x_fio_y ((s_tk_e hp).mpr (by omega))) hF hR
            | fail
        · refine jm_icN (Y := YX4_readWords) (pc := 65) 1 dX4_readWords_65 rfl ?_
          refine jm_goto (Y := YX4_readWords) (pc := 66) dX4_readWords_66 rfl ?_
          refine jm_V1ie (Y := YX4_readWords) (pc := 70) dX4_readWords_70 lk_RX4_58 ⟨_, rfl⟩ rfl rfl (by decide) (Nat.le_of_ble_eq_true rfl) ⟨by decide, by decide⟩ (t_faultyS t n M hn hb h7 h1 f s hp hs _ (by decide)) ?_
          refine jm_ret (Y := YX4_readWords) (pc := 73) (st := []) dX4_readWords_73 rfl (jm_nb _) ?_
          by_cases kt : 0 < x_kN (t s.1)
          · by_cases kp : s.1 < n
            · have ktk : s_tk t n s.1 = 1 := s_tk_le1 kp (by unfold x_kN at kt; (repeat' split at kt) <;> omega)
              first
              | (rw [if_pos kt] at h_24 ⊢; exact TQ_f h_24 (by rw [x_words_f ⟨hs, ktk, kt⟩ h_24]; exact x_fio_f h_24) (RF_t hF e3))
              | exact absurd kp (by omega)
              | (have e8 := x_w4_full (t := t) (n := n) (g := g) hs (show ¬ g 3 < 7 by omega); exact TQ_f (s' := (s.1, 3)) (show ¬ (3 : Nat) = 0 by decide) (by rw [x_words_f ⟨hs, ktk, kt⟩ (by rw [e8]; exact (show ¬ (3 : Nat) = 0 by decide)), e8]; exact x_fio_f (show ¬ (3 : Nat) = 0 by decide)) hF)
              | exact absurd h_62 (by unfold k_by; rw [if_neg (by omega)]; intro y; have e8 := jm_tI (show x_kN (t s.1) < 2147483648 by have := x_kN_le (t s.1); omega); rw [y] at e8; have e7 : (-1 : Int32).toInt = -1 := (by decide); omega)
              | exact absurd (show ¬ k_by (t s.1) = -1 by unfold k_by; rw [if_neg (by omega)]; intro y; have e8 := jm_tI (show x_kN (t s.1) < 2147483648 by have := x_kN_le (t s.1); omega); rw [y] at e8; have e7 : (-1 : Int32).toInt = -1 := (by decide); omega) h_62
              | fail
            · have ktk : s_tk t n s.1 = 0 := (s_tk_e hp).mpr (by omega)
              rw [x_words_0 (fun z => absurd z.2.1 (by rw [ktk]; decide))]
              first | exact TQ_t hs (x_fio_y ktk) hF hR | exact absurd (show s.1 < n by omega) kp | fail
          · rw [x_words_0 (fun z => kt z.2.2)]
            have k1 : k_by (t s.1) = -1 := if_pos (by omega)
            first
            | exact absurd k1 h_62
            | (rw [if_neg kt]; exact TQ_f (s' := (s.1, 1)) (show ¬ (1 : Nat) = 0 by decide) (x_fio_n (fun z => by have := (s_tk_e hp).mp z; omega) hs) (RF_t hF e3))
            | exact TQ_f (s' := (s.1, 1)) (show ¬ (1 : Nat) = 0 by decide) (x_fio_n (fun z => by have := (s_tk_e hp).mp z; omega) hs) hF
            | exact TQ_t hs (x_fio_y ((s_tk_e hp).mpr (by omega))) hF hR
            | fail
      · refine jm_icN (Y := YX4_readWords) (pc := 46) 1 dX4_readWords_46 rfl ?_
        refine jm_ret (Y := YX4_readWords) (pc := 47) (st := []) dX4_readWords_47 rfl rfl ?_
        by_cases kt : 0 < x_kN (t s.1)
        · by_cases kp : s.1 < n
          · have ktk : s_tk t n s.1 = 1 := s_tk_le1 kp (by unfold x_kN at kt; (repeat' split at kt) <;> omega)
            first
            | (rw [if_pos kt] at h_24 ⊢; exact TQ_f h_24 (by rw [x_words_f ⟨hs, ktk, kt⟩ h_24]; exact x_fio_f h_24) (RF_t hF e3))
            | exact absurd kp (by omega)
            | (have e8 := x_w4_full (t := t) (n := n) (g := g) hs (show ¬ g 3 < 7 by omega); exact TQ_f (s' := (s.1, 3)) (show ¬ (3 : Nat) = 0 by decide) (by rw [x_words_f ⟨hs, ktk, kt⟩ (by rw [e8]; exact (show ¬ (3 : Nat) = 0 by decide)), e8]; exact x_fio_f (show ¬ (3 : Nat) = 0 by decide)) hF)
            | exact absurd h_62 (by unfold k_by; rw [if_neg (by omega)]; intro y; have e8 := jm_tI (show x_kN (t s.1) < 2147483648 by have := x_kN_le (t s.1); omega); rw [y] at e8; have e7 : (-1 : Int32).toInt = -1 := (by decide); omega)
            | exact absurd (show ¬ k_by (t s.1) = -1 by unfold k_by; rw [if_neg (by omega)]; intro y; have e8 := jm_tI (show x_kN (t s.1) < 2147483648 by have := x_kN_le (t s.1); omega); rw [y] at e8; have e7 : (-1 : Int32).toInt = -1 := (by decide); omega) h_62
            | fail
          · have ktk : s_tk t n s.1 = 0 := (s_tk_e hp).mpr (by omega)
            rw [x_words_0 (fun z => absurd z.2.1 (by rw [ktk]; decide))]
            first | exact TQ_t hs (x_fio_y ktk) hF hR | exact absurd (show s.1 < n by omega) kp | fail
        · rw [x_words_0 (fun z => kt z.2.2)]
          have k1 : k_by (t s.1) = -1 := if_pos (by omega)
          first
          | exact absurd k1 h_62
          | (rw [if_neg kt]; exact TQ_f (s' := (s.1, 1)) (show ¬ (1 : Nat) = 0 by decide) (x_fio_n (fun z => by have := (s_tk_e hp).mp z; omega) hs) (RF_t hF e3))
          | exact TQ_f (s' := (s.1, 1)) (show ¬ (1 : Nat) = 0 by decide) (x_fio_n (fun z => by have := (s_tk_e hp).mp z; omega) hs) hF
          | exact TQ_t hs (x_fio_y ((s_tk_e hp).mpr (by omega))) hF hR
          | fail
    · refine jm_ald_n (Y := YX4_readWords) (pc := 8) (i := 0) dX4_readWords_8 rfl rfl ?_
      refine jm_getE (Y := YX4_readWords) (pc := 9) dX4_readWords_9 fw_RX4_17 rfl (by decide) rfl ((show _ = nI s.1 from rfl)) ?_
      refine jm_ald_n (Y := YX4_readWords) (pc := 12) (i := 0) dX4_readWords_12 rfl rfl ?_
      refine jm_getE (Y := YX4_readWords) (pc := 13) dX4_readWords_13 fw_RX4_13 rfl (by decide) rfl ((show _ = nI n from h1)) ?_
      refine jm_icmp_geN (Y := YX4_readWords) (pc := 16) dX4_readWords_16 rfl (by omega) (by omega) (fun h_16 => ?_) (fun h_16 => ?_)
      · refine jm_ald_n (Y := YX4_readWords) (pc := 35) (i := 0) dX4_readWords_35 rfl rfl ?_
        refine jm_getE (Y := YX4_readWords) (pc := 36) dX4_readWords_36 fw_RX4_17 rfl (by decide) rfl ((show _ = nI s.1 from rfl)) ?_
        refine jm_ald_n (Y := YX4_readWords) (pc := 39) (i := 0) dX4_readWords_39 rfl rfl ?_
        refine jm_getE (Y := YX4_readWords) (pc := 40) dX4_readWords_40 fw_RX4_13 rfl (by decide) rfl ((show _ = nI n from h1)) ?_
        refine jm_icmp_ltN (Y := YX4_readWords) (pc := 43) dX4_readWords_43 rfl (by omega) (by omega) (fun h_43 => ?_) (fun h_43 => ?_)
        · refine jm_ald_n (Y := YX4_readWords) (pc := 48) (i := 0) dX4_readWords_48 rfl rfl ?_
          refine jm_ald_n (Y := YX4_readWords) (pc := 49) (i := 0) dX4_readWords_49 rfl rfl ?_
          refine jm_getR (Y := YX4_readWords) (pc := 50) dX4_readWords_50 fr_RX4_9 rfl (by decide) rfl ?_
          refine jm_ald_n (Y := YX4_readWords) (pc := 53) (i := 0) dX4_readWords_53 rfl rfl ?_
          refine jm_getE (Y := YX4_readWords) (pc := 54) dX4_readWords_54 fw_RX4_17 rfl (by decide) rfl ((show _ = nI s.1 from rfl)) ?_
          refine jm_ialN (Y := YX4_readWords) (pc := 57) dX4_readWords_57 (by first | assumption | exact jm_arR1 ha | exact jm_arR2 ha | exact jm_arR3 ha | exact jm_arR1 hb | exact jm_arR2 hb | exact jm_arR3 hb | rfl) (by omega) ((show _ = nI (t s.1) from h7 s.1 (by omega))) ?_
          refine jm_S1ie (Y := YX4_readWords) (pc := 58) dX4_readWords_58 lk_RX4_71 ⟨_, rfl⟩ rfl (by decide) (Nat.le_of_ble_eq_true rfl) ⟨by decide, by decide⟩ (k_byLetter _ (hb s.1) _) ?_
          refine jm_iconst (Y := YX4_readWords) (pc := 61) (v := -1) dX4_readWords_61 rfl ?_
          refine jm_icmp_ne (Y := YX4_readWords) (pc := 62) dX4_readWords_62 rfl (fun h_62 => ?_) (fun h_62 => ?_)
          · refine jm_icN (Y := YX4_readWords) (pc := 69) 3 dX4_readWords_69 rfl ?_
            refine jm_V1ie (Y := YX4_readWords) (pc := 70) dX4_readWords_70 lk_RX4_58 ⟨_, rfl⟩ rfl rfl (by decide) (Nat.le_of_ble_eq_true rfl) ⟨by decide, by decide⟩ (t_faultyS t n M hn hb h7 h1 f s hp hs _ (by decide)) ?_
            refine jm_ret (Y := YX4_readWords) (pc := 73) (st := []) dX4_readWords_73 rfl (jm_nb _) ?_
            by_cases kt : 0 < x_kN (t s.1)
            · by_cases kp : s.1 < n
              · have ktk : s_tk t n s.1 = 1 := s_tk_le1 kp (by unfold x_kN at kt; (repeat' split at kt) <;> omega)
                first
                | (rw [if_pos kt] at h_24 ⊢; exact TQ_f h_24 (by rw [x_words_f ⟨hs, ktk, kt⟩ h_24]; exact x_fio_f h_24) (RF_t hF e3))
                | exact absurd kp (by omega)
                | (have e8 := x_w4_full (t := t) (n := n) (g := g) hs (show ¬ g 3 < 7 by omega); exact TQ_f (s' := (s.1, 3)) (show ¬ (3 : Nat) = 0 by decide) (by rw [x_words_f ⟨hs, ktk, kt⟩ (by rw [e8]; exact (show ¬ (3 : Nat) = 0 by decide)), e8]; exact x_fio_f (show ¬ (3 : Nat) = 0 by decide)) hF)
                | exact absurd h_62 (by unfold k_by; rw [if_neg (by omega)]; intro y; have e8 := jm_tI (show x_kN (t s.1) < 2147483648 by have := x_kN_le (t s.1); omega); rw [y] at e8; have e7 : (-1 : Int32).toInt = -1 := (by decide); omega)
                | exact absurd (show ¬ k_by (t s.1) = -1 by unfold k_by; rw [if_neg (by omega)]; intro y; have e8 := jm_tI (show x_kN (t s.1) < 2147483648 by have := x_kN_le (t s.1); omega); rw [y] at e8; have e7 : (-1 : Int32).toInt = -1 := (by decide); omega) h_62
                | fail
              · have ktk : s_tk t n s.1 = 0 := (s_tk_e hp).mpr (by omega)
                rw [x_words_0 (fun z => absurd z.2.1 (by rw [ktk]; decide))]
                first | exact TQ_t hs (x_fio_y ktk) hF hR | exact absurd (show s.1 < n by omega) kp | fail
            · rw [x_words_0 (fun z => kt z.2.2)]
              have k1 : k_by (t s.1) = -1 := if_pos (by omega)
              first
              | exact absurd k1 h_62
              | (rw [if_neg kt]; exact TQ_f (s' := (s.1, 1)) (show ¬ (1 : Nat) = 0 by decide) (x_fio_n (fun z => by have := (s_tk_e hp).mp z; omega) hs) (RF_t hF e3))
              | exact TQ_f (s' := (s.1, 1)) (show ¬ (1 : Nat) = 0 by decide) (x_fio_n (fun z => by have := (s_tk_e hp).mp z; omega) hs) hF
              | exact TQ_t hs (x_fio_y ((s_tk_e hp).mpr (by omega))) hF hR
              | fail
          · refine jm_icN (Y := YX4_readWords) (pc := 65) 1 dX4_readWords_65 rfl ?_
            refine jm_goto (Y := YX4_readWords) (pc := 66) dX4_readWords_66 rfl ?_
            refine jm_V1ie (Y := YX4_readWords) (pc := 70) dX4_readWords_70 lk_RX4_58 ⟨_, rfl⟩ rfl rfl (by decide) (Nat.le_of_ble_eq_true rfl) ⟨by decide, by decide⟩ (t_faultyS t n M hn hb h7 h1 f s hp hs _ (by decide)) ?_
            refine jm_ret (Y := YX4_readWords) (pc := 73) (st := []) dX4_readWords_73 rfl (jm_nb _) ?_
            by_cases kt : 0 < x_kN (t s.1)
            · by_cases kp : s.1 < n
              · have ktk : s_tk t n s.1 = 1 := s_tk_le1 kp (by unfold x_kN at kt; (repeat' split at kt) <;> omega)
                first
                | (rw [if_pos kt] at h_24 ⊢; exact TQ_f h_24 (by rw [x_words_f ⟨hs, ktk, kt⟩ h_24]; exact x_fio_f h_24) (RF_t hF e3))
                | exact absurd kp (by omega)
                | (have e8 := x_w4_full (t := t) (n := n) (g := g) hs (show ¬ g 3 < 7 by omega); exact TQ_f (s' := (s.1, 3)) (show ¬ (3 : Nat) = 0 by decide) (by rw [x_words_f ⟨hs, ktk, kt⟩ (by rw [e8]; exact (show ¬ (3 : Nat) = 0 by decide)), e8]; exact x_fio_f (show ¬ (3 : Nat) = 0 by decide)) hF)
                | exact absurd h_62 (by unfold k_by; rw [if_neg (by omega)]; intro y; have e8 := jm_tI (show x_kN (t s.1) < 2147483648 by have := x_kN_le (t s.1); omega); rw [y] at e8; have e7 : (-1 : Int32).toInt = -1 := (by decide); omega)
                | exact absurd (show ¬ k_by (t s.1) = -1 by unfold k_by; rw [if_neg (by omega)]; intro y; have e8 := jm_tI (show x_kN (t s.1) < 2147483648 by have := x_kN_le (t s.1); omega); rw [y] at e8; have e7 : (-1 : Int32).toInt = -1 := (by decide); omega) h_62
                | fail
              · have ktk : s_tk t n s.1 = 0 := (s_tk_e hp).mpr (by omega)
                rw [x_words_0 (fun z => absurd z.2.1 (by rw [ktk]; decide))]
                first | exact TQ_t hs (x_fio_y ktk) hF hR | exact absurd (show s.1 < n by omega) kp | fail
            · rw [x_words_0 (fun z => kt z.2.2)]
              have k1 : k_by (t s.1) = -1 := if_pos (by omega)
              first
              | exact absurd k1 h_62
              | (rw [if_neg kt]; exact TQ_f (s' := (s.1, 1)) (show ¬ (1 : Nat) = 0 by decide) (x_fio_n (fun z => by have := (s_tk_e hp).mp z; omega) hs) (RF_t hF e3))
              | exact TQ_f (s' := (s.1, 1)) (show ¬ (1 : Nat) = 0 by decide) (x_fio_n (fun z => by have := (s_tk_e hp).mp z; omega) hs) hF
              | exact TQ_t hs (x_fio_y ((s_tk_e hp).mpr (by omega))) hF hR
              | fail
        · refine jm_icN (Y := YX4_readWords) (pc := 46) 1 dX4_readWords_46 rfl ?_
          refine jm_ret (Y := YX4_readWords) (pc := 47) (st := []) dX4_readWords_47 rfl rfl ?_
          by_cases kt : 0 < x_kN (t s.1)
          · by_cases kp : s.1 < n
            · have ktk : s_tk t n s.1 = 1 := s_tk_le1 kp (by unfold x_kN at kt; (repeat' split at kt) <;> omega)
              first
              | (rw [if_pos kt] at h_24 ⊢; exact TQ_f h_24 (by rw [x_words_f ⟨hs, ktk, kt⟩ h_24]; exact x_fio_f h_24) (RF_t hF e3))
              | exact absurd kp (by omega)
              | (have e8 := x_w4_full (t := t) (n := n) (g := g) hs (show ¬ g 3 < 7 by omega); exact TQ_f (s' := (s.1, 3)) (show ¬ (3 : Nat) = 0 by decide) (by rw [x_words_f ⟨hs, ktk, kt⟩ (by rw [e8]; exact (show ¬ (3 : Nat) = 0 by decide)), e8]; exact x_fio_f (show ¬ (3 : Nat) = 0 by decide)) hF)
              | exact absurd h_62 (by unfold k_by; rw [if_neg (by omega)]; intro y; have e8 := jm_tI (show x_kN (t s.1) < 2147483648 by have := x_kN_le (t s.1); omega); rw [y] at e8; have e7 : (-1 : Int32).toInt = -1 := (by decide); omega)
              | exact absurd (show ¬ k_by (t s.1) = -1 by unfold k_by; rw [if_neg (by omega)]; intro y; have e8 := jm_tI (show x_kN (t s.1) < 2147483648 by have := x_kN_le (t s.1); omega); rw [y] at e8; have e7 : (-1 : Int32).toInt = -1 := (by decide); omega) h_62
              | fail
            · have ktk : s_tk t n s.1 = 0 := (s_tk_e hp).mpr (by omega)
              rw [x_words_0 (fun z => absurd z.2.1 (by rw [ktk]; decide))]
              first | exact TQ_t hs (x_fio_y ktk) hF hR | exact absurd (show s.1 < n by omega) kp | fail
          · rw [x_words_0 (fun z => kt z.2.2)]
            have k1 : k_by (t s.1) = -1 := if_pos (by omega)
            first
            | exact absurd k1 h_62
            | (rw [if_neg kt]; exact TQ_f (s' := (s.1, 1)) (show ¬ (1 : Nat) = 0 by decide) (x_fio_n (fun z => by have := (s_tk_e hp).mp z; omega) hs) (RF_t hF e3))
            | exact TQ_f (s' := (s.1, 1)) (show ¬ (1 : Nat) = 0 by decide) (x_fio_n (fun z => by have := (s_tk_e hp).mp z; omega) hs) hF
            | exact TQ_t hs (x_fio_y ((s_tk_e hp).mpr (by omega))) hF hR
            | fail
      · refine jm_ald_n (Y := YX4_readWords) (pc := 19) (i := 0) dX4_readWords_19 rfl rfl ?_
        refine jm_ald_n (Y := YX4_readWords) (pc := 20) (i := 1) dX4_readWords_20 rfl rfl ?_
        refine jm_V1i (Y := YX4_readWords) (pc := 21) dX4_readWords_21 lk_RX4_68 ⟨_, rfl⟩ rfl rfl (by decide) (Nat.le_of_ble_eq_true rfl) ⟨by decide, by decide⟩ (t_word t n M hn hb h7 h1 f s hp hs (by omega) g hR hg h4 (by omega)) (fun r_21 M_21 q_21 => ?_)
        obtain ⟨M2, e1, e2, e3, e4⟩ := TQ_d q_21
        subst e1 e2
        refine jm_if_neB (Y := YX4_readWords) (pc := 24) dX4_readWords_24 rfl (fun h_24 => ?_) (fun h_24 => ?_)
        · refine jm_incN (Y := YX4_readWords) (pc := 29) (m := 1) (ls' := [_, _, _]) dX4_readWords_29 rfl rfl rfl rfl ?_
          refine jm_goto (Y := YX4_readWords) (pc := 32) dX4_readWords_32 rfl ?_
          by_cases kt : 0 < x_kN (t s.1)
          · have ktk : s_tk t n s.1 = 1 := s_tk_le1 (by omega) (by unfold x_kN at kt; (repeat' split at kt) <;> omega)
            have ec : x_words t n (m + 1) g s = x_words t n m (x_wg t n g s) (x_w4 t n g s) := x_words_1 ⟨hs, ktk, kt⟩
            rw [if_pos kt] at h_24 e4 ⊢
            rw [ec]
            have eg : nI (g 3 + 1) = nI (x_wg t n g s 3) := by rw [x_wg_y h_24, wU_s]
            have e2 : x_wg t n g s 2 = g 2 := by rw [x_wg_y h_24, wU_n _ _ (by omega), wU_n _ _ (by omega), wU_n _ _ (by omega), wU_n _ _ (by omega)]
            rw [eg]
            exact ih M2 (x_wg t n g s) (x_w4 t n g s) (RF_t hF e3) (e4 h_24) (rR_w kt hg) (x_w4_p hp) h_24 (by rw [e2]; exact h4) (x_ms_w hp hs ktk hmm)
          · rw [if_neg kt] at h_24
            exact absurd h_24 (show ¬ (1 : Nat) = 0 by decide)
        · refine jm_icN (Y := YX4_readWords) (pc := 27) 0 dX4_readWords_27 rfl ?_
          refine jm_ret (Y := YX4_readWords) (pc := 28) (st := []) dX4_readWords_28 rfl rfl ?_
          by_cases kt : 0 < x_kN (t s.1)
          · by_cases kp : s.1 < n
            · have ktk : s_tk t n s.1 = 1 := s_tk_le1 kp (by unfold x_kN at kt; (repeat' split at kt) <;> omega)
              first
              | (rw [if_pos kt] at h_24 ⊢; exact TQ_f h_24 (by rw [x_words_f ⟨hs, ktk, kt⟩ h_24]; exact x_fio_f h_24) (RF_t hF e3))
              | exact absurd kp (by omega)
              | (have e8 := x_w4_full (t := t) (n := n) (g := g) hs (show ¬ g 3 < 7 by omega); exact TQ_f (s' := (s.1, 3)) (show ¬ (3 : Nat) = 0 by decide) (by rw [x_words_f ⟨hs, ktk, kt⟩ (by rw [e8]; exact (show ¬ (3 : Nat) = 0 by decide)), e8]; exact x_fio_f (show ¬ (3 : Nat) = 0 by decide)) hF)
              | exact absurd h_62 (by unfold k_by; rw [if_neg (by omega)]; intro y; have e8 := jm_tI (show x_kN (t s.1) < 2147483648 by have := x_kN_le (t s.1); omega); rw [y] at e8; have e7 : (-1 : Int32).toInt = -1 := (by decide); omega)
              | exact absurd (show ¬ k_by (t s.1) = -1 by unfold k_by; rw [if_neg (by omega)]; intro y; have e8 := jm_tI (show x_kN (t s.1) < 2147483648 by have := x_kN_le (t s.1); omega); rw [y] at e8; have e7 : (-1 : Int32).toInt = -1 := (by decide); omega) h_62
              | fail
            · have ktk : s_tk t n s.1 = 0 := (s_tk_e hp).mpr (by omega)
              rw [x_words_0 (fun z => absurd z.2.1 (by rw [ktk]; decide))]
              first | exact TQ_t hs (x_fio_y ktk) hF hR | exact absurd (show s.1 < n by omega) kp | fail
          · rw [x_words_0 (fun z => kt z.2.2)]
            have k1 : k_by (t s.1) = -1 := if_pos (by omega)
            first
            | exact absurd k1 h_62
            | (rw [if_neg kt]; exact TQ_f (s' := (s.1, 1)) (show ¬ (1 : Nat) = 0 by decide) (x_fio_n (fun z => by have := (s_tk_e hp).mp z; omega) hs) (RF_t hF e3))
            | exact TQ_f (s' := (s.1, 1)) (show ¬ (1 : Nat) = 0 by decide) (x_fio_n (fun z => by have := (s_tk_e hp).mp z; omega) hs) hF
            | exact TQ_t hs (x_fio_y ((s_tk_e hp).mpr (by omega))) hF hR
            | fail
theorem t_cells (t : Nat → Nat) (n : Nat) (M : jm_M) (hn : n ≤ 110) (hb : ∀ i, t i ≤ 255) (h7 : ∀ i, i < n → M 7 i = nI (t i)) (h1 : M 2 1 = nI n) (f : Int32) (g : Nat → Nat) (s : Nat × Nat) (hR : RV M 1 g) (hg : rR g) (hp : s.1 ≤ n) (hs : s.2 = 0) (h0 : g 2 = 0) : jm_J none YX4_readCells 0 [some (.ref 2), some (.ref 36), none] [] (TS M f s) (TQ M f (x_fin t n (x_cells t n (n + 2) g s)) (x_cells t n (n + 2) g s).1) := by
  refine jm_icN (Y := YX4_readCells) (pc := 0) 0 dX4_readCells_0 rfl ?_
  refine jm_ist_n (Y := YX4_readCells) (pc := 1) (i := 2) (ls' := [_, _, _]) dX4_readCells_1 rfl (Nat.le_of_ble_eq_true rfl) rfl rfl ?_
  have key := t_cells0 t n hn hb M h7 h1 f (n + 2) M g s (RF_0 1 M) hR hg hp hs (x_ms_le n s)
  rw [h0] at key
  exact key
theorem t_words (t : Nat → Nat) (n : Nat) (M : jm_M) (hn : n ≤ 110) (hb : ∀ i, t i ≤ 255) (h7 : ∀ i, i < n → M 7 i = nI (t i)) (h1 : M 2 1 = nI n) (f : Int32) (g : Nat → Nat) (s : Nat × Nat) (hR : RV M 1 g) (hg : rR g) (hp : s.1 ≤ n) (hs : s.2 = 0) (h4 : 4 ≤ g 2) (h0 : g 3 = 0) : jm_J none YX4_readWords 0 [some (.ref 2), some (.ref 36), none] [] (TS M f s) (TQ M f (x_fio t n (x_words t n (n + 2) g s).2) (x_words t n (n + 2) g s).1) := by
  refine jm_icN (Y := YX4_readWords) (pc := 0) 0 dX4_readWords_0 rfl ?_
  refine jm_ist_n (Y := YX4_readWords) (pc := 1) (i := 2) (ls' := [_, _, _]) dX4_readWords_1 rfl (Nat.le_of_ble_eq_true rfl) rfl rfl ?_
  have key := t_words0 t n hn hb M h7 h1 f (n + 2) M g s (RF_0 1 M) hR hg hp hs h4 (x_ms_le n s)
  rw [h0] at key
  exact key
theorem x_cells_3 {t : Nat → Nat} {n : Nat} : ∀ (m : Nat) (g : Nat → Nat) (s : Nat × Nat), (x_cells t n m g s).1 3 = g 3
  | 0, g, s => rfl
  | m + 1, g, s => by
    by_cases h : s.2 = 0 ∧ s_tk t n s.1 = 1 ∧ t s.1 = 99
    · rw [x_cells_1 h, x_cells_3 m]
      by_cases z : (x_c3 t n g s).2 = 0
      · rw [x_cg_y z, wU_n _ _ (by decide), wU_n _ _ (by omega)]
      · rw [x_cg_n z]
    · rw [x_cells_0 h]
theorem TS_st {M : jm_M} : jm_sf M 2 (upd (M 2) 2 (nI 0)) = TS M (M 2 3) (0, 0) := by
  unfold TS TT
  congr 1
  funext j
  by_cases h : j = 2
  · subst h; rw [upd_s]; rfl
  · rw [upd_n _ _ h, if_neg h]
    by_cases h3 : j = 3
    · subst h3; rfl
    · rw [if_neg h3]
theorem TS_sl {M M6 : jm_M} {f : Int32} (h : M6 2 = TS M f (0, 0) 2) : M6 = TS M6 f (0, 0) := by
  unfold TS TT
  refine (jm_sfid (funext fun j => ?_)).symm
  have e := congrFun h j
  by_cases h2 : j = 2
  · subst h2; rw [e]; rfl
  · rw [if_neg h2]
    by_cases h3 : j = 3
    · subst h3; rw [e]; rfl
    · rw [if_neg h3]
theorem RV_fr {M M1 : jm_M} {r : Nat} {w : Nat → Nat} (h : ∀ i, 32 + 4 * r ≤ i → i < 36 + 4 * r → M1 i = M i) (hR : RV M r w) : RV M1 r w := by
  obtain ⟨⟨f0, f1, f2, f3, f4⟩, a, b⟩ := hR
  refine ⟨⟨?_, ?_, ?_, ?_, ?_⟩, fun c hc => ?_, fun k hk => ?_⟩
  · rw [h _ (by omega) (by omega)]; exact f0
  · rw [h _ (by omega) (by omega)]; exact f1
  · rw [h _ (by omega) (by omega)]; exact f2
  · rw [h _ (by omega) (by omega)]; exact f3
  · rw [h _ (by omega) (by omega)]; exact f4
  · rw [h _ (by omega) (by omega)]; exact a c hc
  · rw [h _ (by omega) (by omega), h _ (by omega) (by omega)]; exact b k hk
/-- the world after a text is read -/
def TI (M : jm_M) (s : Nat × Nat) (g : Nat → Nat) (o : Option Value) (M1 : jm_M) : Prop := o = some (.int (jm_b (s.2 = 0))) ∧ (∀ i, i ≠ 2 → ¬ (36 ≤ i ∧ i < 40) → M1 i = M i) ∧ M1 2 1 = M 2 1 ∧ M1 2 2 = nI s.1 ∧ M1 2 3 = (if s.2 = 0 then M 2 3 else nI s.2) ∧ (s.2 = 0 → RV M1 1 g)
theorem TI_of {M M6 M2 : jm_M} {s s' : Nat × Nat} {g : Nat → Nat} {v : Int32} (hF : RF 1 (TS M (M 2 3) (0, 0)) M6) (h2 : RF 1 M6 M2) (e : s' = s) (hv : v = jm_b (s.2 = 0)) (hV : s.2 = 0 → RV M2 1 g) : TI M s' g (some (.int v)) (TS M2 (M 2 3) s) := by
  subst e hv
  have k2 : M2 2 = TS M (M 2 3) (0, 0) 2 := (h2 2 (by omega)).trans (hF 2 (by omega))
  refine ⟨rfl, fun i h1 h3 => ?_, ?_, rfl, rfl, fun z => RV_fr (fun i a b => TT_o (by omega)) (hV z)⟩
  · have e1 : TS M2 (M 2 3) s' i = M2 i := TT_o h1
    rw [e1, h2 i (by omega), hF i (by omega)]
    exact TT_o h1
  · show M2 2 1 = M 2 1
    rw [k2]
    rfl
theorem x_r5_d (t : Nat → Nat) (n : Nat) : x_cells t n (n + 2) (x_g4 t n) (x_r4 t n) = x_r5 t n := by unfold x_r5; rfl
theorem x_r6_d (t : Nat → Nat) (n : Nat) : x_fin t n (x_r5 t n) = x_r6 t n := by unfold x_r6 x_fin; rfl
theorem x_r7_d (t : Nat → Nat) (n : Nat) : x_words t n (n + 2) (x_r5 t n).1 (x_r6 t n) = x_r7 t n := by unfold x_r7; rfl
theorem x_r8_d (t : Nat → Nat) (n : Nat) : x_fio t n (x_r7 t n).2 = x_r8 t n := by unfold x_r8 x_fio; rfl
theorem x_fs6 {t : Nat → Nat} {n : Nat} {r5 r7 : (Nat → Nat) × Nat × Nat} {s6 s8 : Nat × Nat} (e7 : x_words t n (n + 2) r5.1 s6 = r7) (e8 : x_fio t n r7.2 = s8) (h : ¬ s6.2 = 0) : s8 = s6 := by
  rw [x_words_0 (fun z => h z.1)] at e7
  subst e7
  exact e8.symm.trans (x_fio_f h)
theorem x_fs4 {t : Nat → Nat} {n : Nat} {g4 : Nat → Nat} {r5 r7 : (Nat → Nat) × Nat × Nat} {s4 s6 s8 : Nat × Nat} (e5 : x_cells t n (n + 2) g4 s4 = r5) (e6 : x_fin t n r5 = s6) (e7 : x_words t n (n + 2) r5.1 s6 = r7) (e8 : x_fio t n r7.2 = s8) (h : ¬ s4.2 = 0) : s8 = s4 := by
  rw [x_cells_0 (fun z => h z.1)] at e5
  have e : s6 = s4 := by
    rw [← e6, ← e5]
    exact x_fin_f h
  exact (x_fs6 e7 e8 (by rw [e]; exact h)).trans e
theorem t_readInto0 (t : Nat → Nat) (n : Nat) (M : jm_M) (hn : n ≤ 110) (hb : ∀ i, t i ≤ 255) (h7 : ∀ i, i < n → M 7 i = nI (t i)) (h1 : M 2 1 = nI n) (g4 : Nat → Nat) (s4 s6 s8 : Nat × Nat) (r5 r7 : (Nat → Nat) × Nat × Nat) (e5 : x_cells t n (n + 2) g4 s4 = r5) (e6 : x_fin t n r5 = s6) (e7 : x_words t n (n + 2) r5.1 s6 = r7) (e8 : x_fio t n r7.2 = s8) (hL : ∀ M f, (∀ i, i < n → M 7 i = nI (t i)) → M 2 1 = nI n → RV M 1 (fun _ => 0) → jm_J none YX4_readLaw 0 [some (.ref 2), some (.ref 36)] [] (TS M f (0, 0)) (TQ M f s4 g4)) (hg4 : rR g4) (hp4 : s4.1 ≤ n) (h42 : g4 2 = 0) (hg5 : rR r5.1) (hp6 : s6.1 ≤ n) (h64 : s6.2 = 0 → 4 ≤ r5.1 2) (h53 : r5.1 3 = 0) : jm_J none YX4_readInto 0 [some (.ref 2), some (.ref 36)] [] M (TI M s8 r7.1) := by
  refine jm_ald_n (Y := YX4_readInto) (pc := 0) (i := 0) dX4_readInto_0 rfl rfl ?_
  refine jm_icN (Y := YX4_readInto) (pc := 1) 0 dX4_readInto_1 rfl ?_
  refine jm_put (Y := YX4_readInto) (pc := 2) dX4_readInto_2 fw_RX4_17 rfl (by decide) rfl ?_
  rw [TS_st]
  refine jm_ald_n (Y := YX4_readInto) (pc := 5) (i := 1) dX4_readInto_5 rfl rfl ?_
  refine jm_V0v (Y := YX4_readInto) (pc := 6) dX4_readInto_6 lk_RX4_23 rfl (by first | exact jm_obR ha | exact jm_obR hb | rfl) (by decide) (Nat.le_of_ble_eq_true rfl) ⟨by decide, by decide⟩ (m_empty 1 (by decide) _) (fun M_6 q_6 => ?_)
  obtain ⟨-, hV, hF⟩ := q_6
  have e60 : M_6 = TS M_6 (M 2 3) (0, 0) := TS_sl (hF 2 (by omega))
  have h76 : ∀ i, i < n → M_6 7 i = nI (t i) := fun i hi => by rw [hF 7 (by omega)]; exact h7 i hi
  have h16 : M_6 2 1 = nI n := by rw [hF 2 (by omega)]; exact h1
  rw [e60]
  refine jm_ald_n (Y := YX4_readInto) (pc := 9) (i := 0) dX4_readInto_9 rfl rfl ?_
  refine jm_ald_n (Y := YX4_readInto) (pc := 10) (i := 1) dX4_readInto_10 rfl rfl ?_
  refine jm_V1i (Y := YX4_readInto) (pc := 11) dX4_readInto_11 lk_RX4_28 ⟨_, rfl⟩ rfl rfl (by decide) (Nat.le_of_ble_eq_true rfl) ⟨by decide, by decide⟩ (hL M_6 (M 2 3) h76 h16 hV) (fun r_11 M_11 q_11 => ?_)
  obtain ⟨Ma, e1, e2, ea, eav⟩ := TQ_d q_11
  subst e1 e2
  have h7a : ∀ i, i < n → Ma 7 i = nI (t i) := fun i hi => by rw [ea 7 (by omega)]; exact h76 i hi
  have h1a : Ma 2 1 = nI n := by rw [ea 2 (by omega)]; exact h16
  refine jm_if_eqB (Y := YX4_readInto) (pc := 14) dX4_readInto_14 rfl (fun h_14 => ?_) (fun h_14 => ?_)
  · refine jm_icN (Y := YX4_readInto) (pc := 37) 0 dX4_readInto_37 rfl ?_
    refine jm_ret (Y := YX4_readInto) (pc := 38) (st := []) dX4_readInto_38 rfl rfl ?_
    first
      | exact TI_of hF ea (x_fs4 e5 e6 e7 e8 h_14) (jm_b_f h_14).symm (fun z => absurd z h_14)
      | exact TI_of hF (RF_t ea eb) (x_fs6 e7 e8 h_22) (jm_b_f h_22).symm (fun z => absurd z h_22)
      | exact TI_of hF (RF_t (RF_t ea eb) ec) rfl (jm_b_f h_30).symm (fun z => absurd z h_30)
      | exact TI_of hF (RF_t (RF_t ea eb) ec) rfl (jm_b_t h_30).symm ecv
      | fail
  · refine jm_ald_n (Y := YX4_readInto) (pc := 17) (i := 0) dX4_readInto_17 rfl rfl ?_
    refine jm_ald_n (Y := YX4_readInto) (pc := 18) (i := 1) dX4_readInto_18 rfl rfl ?_
    refine jm_V1i (Y := YX4_readInto) (pc := 19) dX4_readInto_19 lk_RX4_32 ⟨_, rfl⟩ rfl rfl (by decide) (Nat.le_of_ble_eq_true rfl) ⟨by decide, by decide⟩ (t_cells t n Ma hn hb h7a h1a (M 2 3) g4 s4 (eav h_14) hg4 hp4 h_14 h42) (fun r_19 M_19 q_19 => ?_)
    rw [e5, e6] at q_19
    obtain ⟨Mb, e1, e2, eb, ebv⟩ := TQ_d q_19
    subst e1 e2
    have h7b : ∀ i, i < n → Mb 7 i = nI (t i) := fun i hi => by rw [eb 7 (by omega)]; exact h7a i hi
    have h1b : Mb 2 1 = nI n := by rw [eb 2 (by omega)]; exact h1a
    refine jm_if_eqB (Y := YX4_readInto) (pc := 22) dX4_readInto_22 rfl (fun h_22 => ?_) (fun h_22 => ?_)
    · refine jm_icN (Y := YX4_readInto) (pc := 37) 0 dX4_readInto_37 rfl ?_
      refine jm_ret (Y := YX4_readInto) (pc := 38) (st := []) dX4_readInto_38 rfl rfl ?_
      first
        | exact TI_of hF ea (x_fs4 e5 e6 e7 e8 h_14) (jm_b_f h_14).symm (fun z => absurd z h_14)
        | exact TI_of hF (RF_t ea eb) (x_fs6 e7 e8 h_22) (jm_b_f h_22).symm (fun z => absurd z h_22)
        | exact TI_of hF (RF_t (RF_t ea eb) ec) rfl (jm_b_f h_30).symm (fun z => absurd z h_30)
        | exact TI_of hF (RF_t (RF_t ea eb) ec) rfl (jm_b_t h_30).symm ecv
        | fail
    · refine jm_ald_n (Y := YX4_readInto) (pc := 25) (i := 0) dX4_readInto_25 rfl rfl ?_
      refine jm_ald_n (Y := YX4_readInto) (pc := 26) (i := 1) dX4_readInto_26 rfl rfl ?_
      refine jm_V1i (Y := YX4_readInto) (pc := 27) dX4_readInto_27 lk_RX4_35 ⟨_, rfl⟩ rfl rfl (by decide) (Nat.le_of_ble_eq_true rfl) ⟨by decide, by decide⟩ (t_words t n Mb hn hb h7b h1b (M 2 3) r5.1 s6 (ebv h_22) hg5 hp6 h_22 (h64 h_22) h53) (fun r_27 M_27 q_27 => ?_)
      rw [e7, e8] at q_27
      obtain ⟨Mc, e1, e2, ec, ecv⟩ := TQ_d q_27
      subst e1 e2
      refine jm_if_eqB (Y := YX4_readInto) (pc := 30) dX4_readInto_30 rfl (fun h_30 => ?_) (fun h_30 => ?_)
      · refine jm_icN (Y := YX4_readInto) (pc := 37) 0 dX4_readInto_37 rfl ?_
        refine jm_ret (Y := YX4_readInto) (pc := 38) (st := []) dX4_readInto_38 rfl rfl ?_
        first
          | exact TI_of hF ea (x_fs4 e5 e6 e7 e8 h_14) (jm_b_f h_14).symm (fun z => absurd z h_14)
          | exact TI_of hF (RF_t ea eb) (x_fs6 e7 e8 h_22) (jm_b_f h_22).symm (fun z => absurd z h_22)
          | exact TI_of hF (RF_t (RF_t ea eb) ec) rfl (jm_b_f h_30).symm (fun z => absurd z h_30)
          | exact TI_of hF (RF_t (RF_t ea eb) ec) rfl (jm_b_t h_30).symm ecv
          | fail
      · refine jm_icN (Y := YX4_readInto) (pc := 33) 1 dX4_readInto_33 rfl ?_
        refine jm_goto (Y := YX4_readInto) (pc := 34) dX4_readInto_34 rfl ?_
        refine jm_ret (Y := YX4_readInto) (pc := 38) (st := []) dX4_readInto_38 rfl rfl ?_
        first
          | exact TI_of hF ea (x_fs4 e5 e6 e7 e8 h_14) (jm_b_f h_14).symm (fun z => absurd z h_14)
          | exact TI_of hF (RF_t ea eb) (x_fs6 e7 e8 h_22) (jm_b_f h_22).symm (fun z => absurd z h_22)
          | exact TI_of hF (RF_t (RF_t ea eb) ec) rfl (jm_b_f h_30).symm (fun z => absurd z h_30)
          | exact TI_of hF (RF_t (RF_t ea eb) ec) rfl (jm_b_t h_30).symm ecv
          | fail
theorem t_readInto (t : Nat → Nat) (n : Nat) (M : jm_M) (hn : n ≤ 110) (hb : ∀ i, t i ≤ 255) (h7 : ∀ i, i < n → M 7 i = nI (t i)) (h1 : M 2 1 = nI n) : jm_J none YX4_readInto 0 [some (.ref 2), some (.ref 36)] [] M (TI M (x_r8 t n) (x_r7 t n).1) :=
  t_readInto0 t n M hn hb h7 h1 (x_g4 t n) (x_r4 t n) (x_r6 t n) (x_r8 t n) (x_r5 t n) (x_r7 t n) (x_r5_d t n) (x_r6_d t n) (x_r7_d t n) (x_r8_d t n) (fun M f h7 h1 hR => t_law t n M hn hb h7 h1 f hR) (x_g4_R t n) (x_r4_p t n) (by unfold x_g4; rw [wU_n _ _ (by decide), wU_n _ _ (by decide)]) (x_r5_R t n).1 (x_r6_p t n) x_r6_4 (by rw [← x_r5_d, x_cells_3]; unfold x_g4; rw [wU_n _ _ (by decide), wU_n _ _ (by decide)])
