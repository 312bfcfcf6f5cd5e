/-! the smallest methods of both sides -/
def jm_b (p : Prop) [Decidable p] : Int32 := if p then nI 1 else nI 0
theorem jm_b_t {p : Prop} [Decidable p] (h : p) : jm_b p = nI 1 := if_pos h
theorem jm_b_f {p : Prop} [Decidable p] (h : ¬ p) : jm_b p = nI 0 := if_neg h
theorem jm_b_c {p q : Prop} [Decidable p] [Decidable q] (h : p ↔ q) : jm_b p = jm_b q := by
  by_cases hp : p
  · rw [jm_b_t hp, jm_b_t (h.mp hp)]
  · rw [jm_b_f hp, jm_b_f (fun z => hp (h.mpr z))]
theorem jm_nb (p : Prop) [Decidable p] : narrow .boolean (.int (jm_b p)) = .int (jm_b p) := by
  by_cases hp : p
  · rw [jm_b_t hp]; rfl
  · rw [jm_b_f hp]; rfl
theorem jm_if_eqB {sc : jm_S} {Y : jm_Y} {pc : Nat} {ls : jm_Ls} {st : List Value} {M : jm_M} {Q : Option Value → jm_M → Prop} {p : Prop} [Decidable p] {off : Int} {tgt : Nat} (d : decode Y.2.1 pc = .ok (.ifCond .eq off, 3)) (ht : (pc : Int) + off = (tgt : Int)) (kt : ¬ p → jm_J sc Y tgt ls st M Q) (kf : p → jm_J sc Y (pc + 3) ls st M Q) : jm_J sc Y pc ls (.int (jm_b p) :: st) M Q := by
  refine jm_if_eq d ht (fun h => kt (fun hp => ?_)) (fun h => kf ?_)
  · rw [jm_b_t hp] at h; exact absurd h (by decide)
  · by_cases hp : p
    · exact hp
    · rw [jm_b_f hp] at h; exact absurd rfl h
theorem jm_if_neB {sc : jm_S} {Y : jm_Y} {pc : Nat} {ls : jm_Ls} {st : List Value} {M : jm_M} {Q : Option Value → jm_M → Prop} {p : Prop} [Decidable p] {off : Int} {tgt : Nat} (d : decode Y.2.1 pc = .ok (.ifCond .ne off, 3)) (ht : (pc : Int) + off = (tgt : Int)) (kt : p → jm_J sc Y tgt ls st M Q) (kf : ¬ p → jm_J sc Y (pc + 3) ls st M Q) : jm_J sc Y pc ls (.int (jm_b p) :: st) M Q := by
  refine jm_if_ne d ht (fun h => kt ?_) (fun h => kf (fun hp => ?_))
  · by_cases hp : p
    · exact hp
    · rw [jm_b_f hp] at h; exact absurd rfl h
  · rw [jm_b_t hp] at h
    first | exact absurd h (by decide) | exact h (by decide)
theorem jm_bf {p : Prop} [Decidable p] {M : jm_M} (h : ¬ p) : jm_is (some (.int (jm_b p))) M (some (.int (nI 0))) M := ⟨by rw [jm_b_f h], rfl⟩
theorem jm_bt {p : Prop} [Decidable p] {M : jm_M} (h : p) : jm_is (some (.int (jm_b p))) M (some (.int (nI 1))) M := ⟨by rw [jm_b_t h], rfl⟩
theorem i_nle {a b : Int32} (h : a < b) : ¬ b ≤ a := Int32.not_le.mpr h
theorem i_le {a b : Int32} (h : ¬ a < b) : b ≤ a := Int32.not_lt.mp h
theorem i_lt {a b : Int32} (h : ¬ a ≤ b) : b < a := Int32.not_le.mp h
theorem c_in (v lo hi : Int32) (M : jm_M) : jm_J none YX6_in 0 [some (.int v), some (.int lo), some (.int hi)] [] M (jm_is (some (.int (jm_b (lo ≤ v ∧ v ≤ hi)))) M) := by
  refine jm_ild_n (Y := YX6_in) (pc := 0) (i := 0) dX6_in_0 rfl rfl ?_
  refine jm_ild_n (Y := YX6_in) (pc := 1) (i := 1) dX6_in_1 rfl rfl ?_
  refine jm_icmp_lt (Y := YX6_in) (pc := 2) dX6_in_2 rfl (fun h_2 => ?_) (fun h_2 => ?_)
  · refine jm_icN (Y := YX6_in) (pc := 14) 0 dX6_in_14 rfl ?_
    refine jm_ret (Y := YX6_in) (pc := 15) (st := []) dX6_in_15 rfl rfl ?_
    first | exact jm_bf (fun q => i_nle h_2 q.1) | exact jm_bf (fun q => i_nle h_7 q.2) | exact jm_bt ⟨i_le h_2, i_le h_7⟩
  · refine jm_ild_n (Y := YX6_in) (pc := 5) (i := 0) dX6_in_5 rfl rfl ?_
    refine jm_ild_n (Y := YX6_in) (pc := 6) (i := 2) dX6_in_6 rfl rfl ?_
    refine jm_icmp_gt (Y := YX6_in) (pc := 7) dX6_in_7 rfl (fun h_7 => ?_) (fun h_7 => ?_)
    · refine jm_icN (Y := YX6_in) (pc := 14) 0 dX6_in_14 rfl ?_
      refine jm_ret (Y := YX6_in) (pc := 15) (st := []) dX6_in_15 rfl rfl ?_
      first | exact jm_bf (fun q => i_nle h_2 q.1) | exact jm_bf (fun q => i_nle h_7 q.2) | exact jm_bt ⟨i_le h_2, i_le h_7⟩
    · refine jm_icN (Y := YX6_in) (pc := 10) 1 dX6_in_10 rfl ?_
      refine jm_goto (Y := YX6_in) (pc := 11) dX6_in_11 rfl ?_
      refine jm_ret (Y := YX6_in) (pc := 15) (st := []) dX6_in_15 rfl rfl ?_
      first | exact jm_bf (fun q => i_nle h_2 q.1) | exact jm_bf (fun q => i_nle h_7 q.2) | exact jm_bt ⟨i_le h_2, i_le h_7⟩
theorem c_isWithin (v lo hi : Int32) (M : jm_M) : jm_J none YX5_isWithin 0 [some (.int v), some (.int lo), some (.int hi)] [] M (jm_is (some (.int (jm_b (lo ≤ v ∧ v ≤ hi)))) M) := by
  refine jm_ild_n (Y := YX5_isWithin) (pc := 0) (i := 1) dX5_isWithin_0 rfl rfl ?_
  refine jm_ild_n (Y := YX5_isWithin) (pc := 1) (i := 0) dX5_isWithin_1 rfl rfl ?_
  refine jm_icmp_gt (Y := YX5_isWithin) (pc := 2) dX5_isWithin_2 rfl (fun h_2 => ?_) (fun h_2 => ?_)
  · refine jm_icN (Y := YX5_isWithin) (pc := 14) 0 dX5_isWithin_14 rfl ?_
    refine jm_ret (Y := YX5_isWithin) (pc := 15) (st := []) dX5_isWithin_15 rfl rfl ?_
    first | exact jm_bf (fun q => i_nle h_2 q.1) | exact jm_bf (fun q => i_nle h_7 q.2) | exact jm_bt ⟨i_le h_2, i_le h_7⟩
  · refine jm_ild_n (Y := YX5_isWithin) (pc := 5) (i := 0) dX5_isWithin_5 rfl rfl ?_
    refine jm_ild_n (Y := YX5_isWithin) (pc := 6) (i := 2) dX5_isWithin_6 rfl rfl ?_
    refine jm_icmp_gt (Y := YX5_isWithin) (pc := 7) dX5_isWithin_7 rfl (fun h_7 => ?_) (fun h_7 => ?_)
    · refine jm_icN (Y := YX5_isWithin) (pc := 14) 0 dX5_isWithin_14 rfl ?_
      refine jm_ret (Y := YX5_isWithin) (pc := 15) (st := []) dX5_isWithin_15 rfl rfl ?_
      first | exact jm_bf (fun q => i_nle h_2 q.1) | exact jm_bf (fun q => i_nle h_7 q.2) | exact jm_bt ⟨i_le h_2, i_le h_7⟩
    · refine jm_icN (Y := YX5_isWithin) (pc := 10) 1 dX5_isWithin_10 rfl ?_
      refine jm_goto (Y := YX5_isWithin) (pc := 11) dX5_isWithin_11 rfl ?_
      refine jm_ret (Y := YX5_isWithin) (pc := 15) (st := []) dX5_isWithin_15 rfl rfl ?_
      first | exact jm_bf (fun q => i_nle h_2 q.1) | exact jm_bf (fun q => i_nle h_7 q.2) | exact jm_bt ⟨i_le h_2, i_le h_7⟩
