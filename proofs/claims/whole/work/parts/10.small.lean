/-! the smallest methods of both sides -/
def jm_b (p : Prop) [Decidable p] : Int32 := if p then nI 1 else nI 0
theorem jm_b_t {p : Prop} [Decidable p] (h : p) : jm_b p = nI 1 := if_pos h
theorem jm_b_f {p : Prop} [Decidable p] (h : ¬ p) : jm_b p = nI 0 := if_neg h
theorem jm_b_c {p q : Prop} [Decidable p] [Decidable q] (h : p ↔ q) : jm_b p = jm_b q := by
  by_cases hp : p
  · rw [jm_b_t hp, jm_b_t (h.mp hp)]
  · rw [jm_b_f hp, jm_b_f (fun z => hp (h.mpr z))]
theorem jm_nb (p : Prop) [Decidable p] : narrow .boolean (.int (jm_b p)) = .int (jm_b p) := by
  by_cases hp : p
  · rw [jm_b_t hp]; rfl
  · rw [jm_b_f hp]; rfl
theorem jm_if_eqB {sc : jm_S} {Y : jm_Y} {pc : Nat} {ls : jm_Ls} {st : List Value} {M : jm_M} {Q : Option Value → jm_M → Prop} {p : Prop} [Decidable p] {off : Int} {tgt : Nat} (d : decode Y.2.1 pc = .ok (.ifCond .eq off, 3)) (ht : (pc : Int) + off = (tgt : Int)) (kt : ¬ p → jm_J sc Y tgt ls st M Q) (kf : p → jm_J sc Y (pc + 3) ls st M Q) : jm_J sc Y pc ls (.int (jm_b p) :: st) M Q := by
  refine jm_if_eq d ht (fun h => kt (fun hp => ?_)) (fun h => kf ?_)
  · rw [jm_b_t hp] at h; exact absurd h (by decide)
  · by_cases hp : p
    · exact hp
    · rw [jm_b_f hp] at h; exact absurd rfl h
theorem jm_if_neB {sc : jm_S} {Y : jm_Y} {pc : Nat} {ls : jm_Ls} {st : List Value} {M : jm_M} {Q : Option Value → jm_M → Prop} {p : Prop} [Decidable p] {off : Int} {tgt : Nat} (d : decode Y.2.1 pc = .ok (.ifCond .ne off, 3)) (ht : (pc : Int) + off = (tgt : Int)) (kt : p → jm_J sc Y tgt ls st M Q) (kf : ¬ p → jm_J sc Y (pc + 3) ls st M Q) : jm_J sc Y pc ls (.int (jm_b p) :: st) M Q := by
  refine jm_if_ne d ht (fun h => kt ?_) (fun h => kf (fun hp => ?_))
  · by_cases hp : p
    · exact hp
    · rw [jm_b_f hp] at h; exact absurd rfl h
  · rw [jm_b_t hp] at h
    first | exact absurd h (by decide) | exact h (by decide)
theorem jm_bf {p : Prop} [Decidable p] {M : jm_M} (h : ¬ p) : jm_is (some (.int (jm_b p))) M (some (.int (nI 0))) M := ⟨by rw [jm_b_f h], rfl⟩
theorem jm_bt {p : Prop} [Decidable p] {M : jm_M} (h : p) : jm_is (some (.int (jm_b p))) M (some (.int (nI 1))) M := ⟨by rw [jm_b_t h], rfl⟩
theorem jm_bc {p q : Prop} [Decidable p] [Decidable q] {M : jm_M} (h : q ↔ p) : jm_is (some (.int (jm_b p))) M (some (.int (jm_b q))) M := ⟨by rw [jm_b_c h], rfl⟩
theorem jm_eq {v v' : Int32} {M : jm_M} (h : v' = v) : jm_is (some (.int v)) M (some (.int v')) M := ⟨by rw [h], rfl⟩
theorem jm_eqN {v v' : Nat} {M : jm_M} (h : v' = v) : jm_is (some (.int (nI v))) M (some (.int (nI v'))) M := ⟨by rw [h], rfl⟩
theorem jm_eqM {o : Option Value} {M M' : jm_M} (h : M' = M) : jm_is o M o M' := ⟨rfl, h⟩
theorem i_nle {a b : Int32} (h : a < b) : ¬ b ≤ a := Int32.not_le.mpr h
theorem i_le {a b : Int32} (h : ¬ a < b) : b ≤ a := Int32.not_lt.mp h
theorem i_lt {a b : Int32} (h : ¬ a ≤ b) : b < a := Int32.not_le.mp h
/-- numbers in a row of ints -/
def jm_n (w : Nat → Nat) : Nat → Int32 := fun j => nI (w j)
def wU (w : Nat → Nat) (k v : Nat) : Nat → Nat := fun j => if j = k then v else w j
theorem wU_s (w : Nat → Nat) (k v : Nat) : wU w k v k = v := by simp [wU]
theorem wU_n (w : Nat → Nat) {k j : Nat} (v : Nat) (h : j ≠ k) : wU w k v j = w j := by simp [wU, h]
theorem jm_up (w : Nat → Nat) (k v : Nat) : upd (jm_n w) k (nI v) = jm_n (wU w k v) := by
  funext j
  by_cases h : j = k
  · subst h; simp [upd, jm_n, wU]
  · simp [upd, jm_n, wU, h]
theorem jm_rdN {M : jm_M} {i k : Nat} {w : Nat → Nat} (h : M i = jm_n w) : M i k = nI (w k) := by rw [h]; rfl
theorem jm_sfsf (M : jm_M) (i : Nat) (f g : Nat → Int32) : jm_sf (jm_sf M i f) i g = jm_sf M i g := by
  funext j
  by_cases h : j = i
  · subst h; simp [jm_sf]
  · simp [jm_sf, h]
theorem jm_sfid {M : jm_M} {i : Nat} {f : Nat → Int32} (h : M i = f) : jm_sf M i f = M := by
  funext j
  by_cases e : j = i
  · subst e; simp [jm_sf, h]
  · simp [jm_sf, e]
theorem jm_lt {w : Nat → Nat} (h : ∀ j, w j ≤ 20000) (j : Nat) : w j < 2147483648 := Nat.lt_of_le_of_lt (h j) (by decide)
/-- a store into a row of numbers: the world behind it -/
theorem jm_iasW {sc : jm_S} {Y : jm_Y} {pc : Nat} {ls : jm_Ls} {st : List Value} {M : jm_M} {Q : Option Value → jm_M → Prop} {i n k v : Nat} {w : Nat → Nat} {M0 : jm_M} (d : decode Y.2.1 pc = .ok (.iastore, 1)) (har : jm_ar i = some (0, n)) (hM : M = jm_sf M0 i (jm_n w)) (hk : k < n) (kk : jm_J sc Y (pc + 1) ls st (jm_sf M0 i (jm_n (wU w k v))) Q) : jm_J sc Y pc ls (.int (nI v) :: .int (nI k) :: .ref i :: st) M Q := by
  subst hM
  refine jm_iasN d har hk ?_
  rw [jm_sf_s, jm_up, jm_sfsf]
  exact kk
theorem jm_rdW {M : jm_M} {i k : Nat} {w : Nat → Nat} : jm_sf M i (jm_n w) i k = nI (w k) := by rw [jm_sf_s]; rfl
theorem jm_s31 : ∀ n, n < 32 → ((nI n &&& 31).toBitVec.smod 32).toNat = n := by decide +kernel
theorem jm_shrN {sc : jm_S} {Y : jm_Y} {pc : Nat} {ls : jm_Ls} {st : List Value} {M : jm_M} {Q : Option Value → jm_M → Prop} {a k : Nat} (d : decode Y.2.1 pc = .ok (.ishr, 1)) (ha : a < 2147483648) (hk : k < 32) (kk : jm_J sc Y (pc + 1) ls (.int (nI (a / 2 ^ k)) :: st) M Q) : jm_J sc Y pc ls (.int (nI k) :: .int (nI a) :: st) M Q := by
  refine jm_ishr d ?_
  rw [pk_shrN ha (nI k &&& 31) k (jm_s31 k hk)]
  exact kk
theorem jm_shlN {sc : jm_S} {Y : jm_Y} {pc : Nat} {ls : jm_Ls} {st : List Value} {M : jm_M} {Q : Option Value → jm_M → Prop} {a k : Nat} (d : decode Y.2.1 pc = .ok (.ishl, 1)) (hk : k < 32) (ha : a * 2 ^ k < 4294967296) (kk : jm_J sc Y (pc + 1) ls (.int (nI (a * 2 ^ k)) :: st) M Q) : jm_J sc Y pc ls (.int (nI k) :: .int (nI a) :: st) M Q := by
  refine jm_ishl d ?_
  rw [pk_shlN (nI k &&& 31) k (jm_s31 k hk) ha]
  exact kk
theorem jm_and1 {sc : jm_S} {Y : jm_Y} {pc : Nat} {ls : jm_Ls} {st : List Value} {M : jm_M} {Q : Option Value → jm_M → Prop} {a : Nat} (d : decode Y.2.1 pc = .ok (.iand, 1)) (ha : a < 4294967296) (kk : jm_J sc Y (pc + 1) ls (.int (nI (a % 2)) :: st) M Q) : jm_J sc Y pc ls (.int (nI 1) :: .int (nI a) :: st) M Q := by
  refine jm_iand d ?_
  rw [pk_andN ha 1 (by decide)]
  exact kk
theorem jm_or (a b : Nat) : nI a ||| nI b = nI (a ||| b) := by
  apply Int32.toBitVec_inj.mp
  show BitVec.ofNat 32 a ||| BitVec.ofNat 32 b = BitVec.ofNat 32 (a ||| b)
  apply BitVec.eq_of_toNat_eq
  rw [BitVec.toNat_or, BitVec.toNat_ofNat, BitVec.toNat_ofNat, BitVec.toNat_ofNat, Nat.or_mod_two_pow]
theorem jm_orN {sc : jm_S} {Y : jm_Y} {pc : Nat} {ls : jm_Ls} {st : List Value} {M : jm_M} {Q : Option Value → jm_M → Prop} {a b : Nat} (d : decode Y.2.1 pc = .ok (.ior, 1)) (kk : jm_J sc Y (pc + 1) ls (.int (nI (a ||| b)) :: st) M Q) : jm_J sc Y pc ls (.int (nI b) :: .int (nI a) :: st) M Q := jm_ior d (by rw [jm_or]; exact kk)
/-- v is a number under n -/
theorem jm_inI {v : Int32} {n : Nat} (hn : n < 2147483648) : (nI 0 ≤ v ∧ v ≤ nI n - nI 1) ↔ (0 ≤ v.toInt ∧ v.toInt < n) := by
  have h0 : (nI 0 ≤ v) ↔ 0 ≤ v.toInt := by
    rw [Int32.le_iff_toInt_le, nI_toInt (by decide)]
    rfl
  have h1 : (nI n - nI 1).toInt = (n : Int) - 1 := by
    cases n with
    | zero => rfl
    | succ n =>
      rw [pk_sub (by omega), nI_toInt (by omega)]
      omega
  rw [h0, Int32.le_iff_toInt_le, h1]
  omega
theorem jm_inJ {v : Int32} {a b : Nat} (ha : a < 2147483648) (hb : b < 2147483648) : (nI a ≤ v ∧ v ≤ nI b) ↔ ((a : Int) ≤ v.toInt ∧ v.toInt ≤ b) := by
  rw [Int32.le_iff_toInt_le, Int32.le_iff_toInt_le, nI_toInt ha, nI_toInt hb]
theorem jm_of {v : Int32} {n : Nat} (h0 : 0 ≤ v.toInt) (h : v.toInt ≤ (n : Int)) : ∃ k : Nat, k ≤ n ∧ v = nI k := by
  refine ⟨v.toInt.toNat, by omega, ?_⟩
  apply Int32.toInt_inj.mp
  have h9 := Int32.toInt_le v
  have h8 : Int32.maxValue.toInt = 2147483647 := by decide
  rw [h8] at h9
  rw [nI_toInt (by omega)]
  omega
theorem c_in (v lo hi : Int32) (M : jm_M) : jm_J none YX6_in 0 [some (.int v), some (.int lo), some (.int hi)] [] M (jm_is (some (.int (jm_b (lo ≤ v ∧ v ≤ hi)))) M) := by
  refine jm_ild_n (Y := YX6_in) (pc := 0) (i := 0) dX6_in_0 rfl rfl ?_
  refine jm_ild_n (Y := YX6_in) (pc := 1) (i := 1) dX6_in_1 rfl rfl ?_
  refine jm_icmp_lt (Y := YX6_in) (pc := 2) dX6_in_2 rfl (fun h_2 => ?_) (fun h_2 => ?_)
  · refine jm_icN (Y := YX6_in) (pc := 14) 0 dX6_in_14 rfl ?_
    refine jm_ret (Y := YX6_in) (pc := 15) (st := []) dX6_in_15 rfl rfl ?_
    first | exact jm_bf (fun q => i_nle h_2 q.1) | exact jm_bf (fun q => i_nle h_7 q.2) | exact jm_bt ⟨i_le h_2, i_le h_7⟩ | fail
  · refine jm_ild_n (Y := YX6_in) (pc := 5) (i := 0) dX6_in_5 rfl rfl ?_
    refine jm_ild_n (Y := YX6_in) (pc := 6) (i := 2) dX6_in_6 rfl rfl ?_
    refine jm_icmp_gt (Y := YX6_in) (pc := 7) dX6_in_7 rfl (fun h_7 => ?_) (fun h_7 => ?_)
    · refine jm_icN (Y := YX6_in) (pc := 14) 0 dX6_in_14 rfl ?_
      refine jm_ret (Y := YX6_in) (pc := 15) (st := []) dX6_in_15 rfl rfl ?_
      first | exact jm_bf (fun q => i_nle h_2 q.1) | exact jm_bf (fun q => i_nle h_7 q.2) | exact jm_bt ⟨i_le h_2, i_le h_7⟩ | fail
    · refine jm_icN (Y := YX6_in) (pc := 10) 1 dX6_in_10 rfl ?_
      refine jm_goto (Y := YX6_in) (pc := 11) dX6_in_11 rfl ?_
      refine jm_ret (Y := YX6_in) (pc := 15) (st := []) dX6_in_15 rfl rfl ?_
      first | exact jm_bf (fun q => i_nle h_2 q.1) | exact jm_bf (fun q => i_nle h_7 q.2) | exact jm_bt ⟨i_le h_2, i_le h_7⟩ | fail
theorem c_isWithin (v lo hi : Int32) (M : jm_M) : jm_J none YX5_isWithin 0 [some (.int v), some (.int lo), some (.int hi)] [] M (jm_is (some (.int (jm_b (lo ≤ v ∧ v ≤ hi)))) M) := by
  refine jm_ild_n (Y := YX5_isWithin) (pc := 0) (i := 1) dX5_isWithin_0 rfl rfl ?_
  refine jm_ild_n (Y := YX5_isWithin) (pc := 1) (i := 0) dX5_isWithin_1 rfl rfl ?_
  refine jm_icmp_gt (Y := YX5_isWithin) (pc := 2) dX5_isWithin_2 rfl (fun h_2 => ?_) (fun h_2 => ?_)
  · refine jm_icN (Y := YX5_isWithin) (pc := 14) 0 dX5_isWithin_14 rfl ?_
    refine jm_ret (Y := YX5_isWithin) (pc := 15) (st := []) dX5_isWithin_15 rfl rfl ?_
    first | exact jm_bf (fun q => i_nle h_2 q.1) | exact jm_bf (fun q => i_nle h_7 q.2) | exact jm_bt ⟨i_le h_2, i_le h_7⟩ | fail
  · refine jm_ild_n (Y := YX5_isWithin) (pc := 5) (i := 0) dX5_isWithin_5 rfl rfl ?_
    refine jm_ild_n (Y := YX5_isWithin) (pc := 6) (i := 2) dX5_isWithin_6 rfl rfl ?_
    refine jm_icmp_gt (Y := YX5_isWithin) (pc := 7) dX5_isWithin_7 rfl (fun h_7 => ?_) (fun h_7 => ?_)
    · refine jm_icN (Y := YX5_isWithin) (pc := 14) 0 dX5_isWithin_14 rfl ?_
      refine jm_ret (Y := YX5_isWithin) (pc := 15) (st := []) dX5_isWithin_15 rfl rfl ?_
      first | exact jm_bf (fun q => i_nle h_2 q.1) | exact jm_bf (fun q => i_nle h_7 q.2) | exact jm_bt ⟨i_le h_2, i_le h_7⟩ | fail
    · refine jm_icN (Y := YX5_isWithin) (pc := 10) 1 dX5_isWithin_10 rfl ?_
      refine jm_goto (Y := YX5_isWithin) (pc := 11) dX5_isWithin_11 rfl ?_
      refine jm_ret (Y := YX5_isWithin) (pc := 15) (st := []) dX5_isWithin_15 rfl rfl ?_
      first | exact jm_bf (fun q => i_nle h_2 q.1) | exact jm_bf (fun q => i_nle h_7 q.2) | exact jm_bt ⟨i_le h_2, i_le h_7⟩ | fail
theorem c_has (s k : Nat) (M : jm_M) (hs : s < 2147483648) (hk : k < 32) : jm_J none YX6_has 0 [some (.int (nI s)), some (.int (nI k))] [] M (jm_is (some (.int (jm_b (s / 2 ^ k % 2 = 1)))) M) := by
  refine jm_ild_n (Y := YX6_has) (pc := 0) (i := 0) dX6_has_0 rfl rfl ?_
  refine jm_ild_n (Y := YX6_has) (pc := 1) (i := 1) dX6_has_1 rfl rfl ?_
  refine jm_shrN (Y := YX6_has) (pc := 2) dX6_has_2 hs hk ?_
  refine jm_icN (Y := YX6_has) (pc := 3) 1 dX6_has_3 rfl ?_
  refine jm_and1 (Y := YX6_has) (pc := 4) dX6_has_4 (Nat.lt_of_le_of_lt (Nat.div_le_self _ _) (by omega)) ?_
  refine jm_icN (Y := YX6_has) (pc := 5) 1 dX6_has_5 rfl ?_
  refine jm_icmp_neN (Y := YX6_has) (pc := 6) dX6_has_6 rfl (by omega) (by omega) (fun h_6 => ?_) (fun h_6 => ?_)
  · refine jm_icN (Y := YX6_has) (pc := 13) 0 dX6_has_13 rfl ?_
    refine jm_ret (Y := YX6_has) (pc := 14) (st := []) dX6_has_14 rfl rfl ?_
    first | exact jm_bf h_6 | exact jm_bt h_6 | fail
  · refine jm_icN (Y := YX6_has) (pc := 9) 1 dX6_has_9 rfl ?_
    refine jm_goto (Y := YX6_has) (pc := 10) dX6_has_10 rfl ?_
    refine jm_ret (Y := YX6_has) (pc := 14) (st := []) dX6_has_14 rfl rfl ?_
    first | exact jm_bf h_6 | exact jm_bt h_6 | fail
theorem c_found (f : Int32) (M : jm_M) : jm_J none YX6_found 0 [some (.ref 11), some (.int f)] [] M (jm_is (some (.int (-1000010 - f))) (jm_sf M 11 (upd (M 11) 4 f))) := by
  refine jm_ald_n (Y := YX6_found) (pc := 0) (i := 0) dX6_found_0 rfl rfl ?_
  refine jm_ild_n (Y := YX6_found) (pc := 1) (i := 1) dX6_found_1 rfl rfl ?_
  refine jm_put (Y := YX6_found) (pc := 2) dX6_found_2 fw_RX6_48 rfl (by decide) rfl ?_
  refine jm_ldc (Y := YX6_found) (pc := 5) (v := -1000010) dX6_found_5 kc_RX6_52 ?_
  refine jm_ild_n (Y := YX6_found) (pc := 7) (i := 1) dX6_found_7 rfl rfl ?_
  refine jm_isub (Y := YX6_found) (pc := 8) dX6_found_8 ?_
  refine jm_ret (Y := YX6_found) (pc := 9) (st := []) dX6_found_9 rfl rfl ?_
  exact ⟨rfl, rfl⟩
theorem c_well (v : Int32) (M : jm_M) : jm_J none YX6_well 0 [some (.ref 11), some (.int v)] [] M (jm_is (some (.int v)) (jm_sf M 11 (upd (M 11) 4 (nI 0)))) := by
  refine jm_ald_n (Y := YX6_well) (pc := 0) (i := 0) dX6_well_0 rfl rfl ?_
  refine jm_icN (Y := YX6_well) (pc := 1) 0 dX6_well_1 rfl ?_
  refine jm_put (Y := YX6_well) (pc := 2) dX6_well_2 fw_RX6_48 rfl (by decide) rfl ?_
  refine jm_ild_n (Y := YX6_well) (pc := 5) (i := 1) dX6_well_5 rfl rfl ?_
  refine jm_ret (Y := YX6_well) (pc := 6) (st := []) dX6_well_6 rfl rfl ?_
  exact ⟨rfl, rfl⟩
theorem c_isRow (r : Int32) (M : jm_M) : jm_J none YX6_isRow 0 [some (.int r)] [] M (jm_is (some (.int (jm_b (nI 0 ≤ r ∧ r ≤ nI 7)))) M) := by
  refine jm_ild_n (Y := YX6_isRow) (pc := 0) (i := 0) dX6_isRow_0 rfl rfl ?_
  refine jm_icN (Y := YX6_isRow) (pc := 1) 0 dX6_isRow_1 rfl ?_
  refine jm_bpN (Y := YX6_isRow) (pc := 2) 7 dX6_isRow_2 rfl ?_
  refine jm_S3ie (Y := YX6_isRow) (pc := 4) dX6_isRow_4 lk_RX6_53 ⟨_, rfl⟩ rfl rfl rfl (by decide) (Nat.le_of_ble_eq_true rfl) ⟨by decide, by decide⟩ (c_in _ _ _ _) ?_
  refine jm_ret (Y := YX6_isRow) (pc := 7) (st := []) dX6_isRow_7 rfl (jm_nb _) ?_
  exact ⟨rfl, rfl⟩
theorem c_isNear (r : Int32) (M : jm_M) : jm_J none YX6_isNear 0 [some (.int r)] [] M (jm_is (some (.int (jm_b (nI 1 ≤ r ∧ r ≤ nI 30)))) M) := by
  refine jm_ild_n (Y := YX6_isNear) (pc := 0) (i := 0) dX6_isNear_0 rfl rfl ?_
  refine jm_icN (Y := YX6_isNear) (pc := 1) 1 dX6_isNear_1 rfl ?_
  refine jm_bpN (Y := YX6_isNear) (pc := 2) 30 dX6_isNear_2 rfl ?_
  refine jm_S3ie (Y := YX6_isNear) (pc := 4) dX6_isNear_4 lk_RX6_53 ⟨_, rfl⟩ rfl rfl rfl (by decide) (Nat.le_of_ble_eq_true rfl) ⟨by decide, by decide⟩ (c_in _ _ _ _) ?_
  refine jm_ret (Y := YX6_isNear) (pc := 7) (st := []) dX6_isNear_7 rfl (jm_nb _) ?_
  exact ⟨rfl, rfl⟩
theorem c_isMissing (r : Nat) (M : jm_M) (hr : r < 8) : jm_J none YX6_isMissing 0 [some (.ref 11), some (.int (nI r))] [] M (jm_is (some (.int (jm_b (M 12 r = -1000000)))) M) := by
  refine jm_ald_n (Y := YX6_isMissing) (pc := 0) (i := 0) dX6_isMissing_0 rfl rfl ?_
  refine jm_getR (Y := YX6_isMissing) (pc := 1) dX6_isMissing_1 fr_RX6_7 rfl (by decide) rfl ?_
  refine jm_ild_n (Y := YX6_isMissing) (pc := 4) (i := 1) dX6_isMissing_4 rfl rfl ?_
  refine jm_ialN (Y := YX6_isMissing) (pc := 5) dX6_isMissing_5 (by first | assumption | exact jm_arR1 ha | exact jm_arR2 ha | exact jm_arR3 ha | exact jm_arR1 hb | exact jm_arR2 hb | exact jm_arR3 hb | rfl) (by omega) (by first | assumption | rfl) ?_
  refine jm_ldc (Y := YX6_isMissing) (pc := 6) (v := -1000000) dX6_isMissing_6 kc_RX6_47 ?_
  refine jm_icmp_ne (Y := YX6_isMissing) (pc := 8) dX6_isMissing_8 rfl (fun h_8 => ?_) (fun h_8 => ?_)
  · refine jm_icN (Y := YX6_isMissing) (pc := 15) 0 dX6_isMissing_15 rfl ?_
    refine jm_ret (Y := YX6_isMissing) (pc := 16) (st := []) dX6_isMissing_16 rfl rfl ?_
    first | exact jm_bf h_8 | exact jm_bt h_8 | exact jm_bt (Decidable.not_not.mp h_8) | fail
  · refine jm_icN (Y := YX6_isMissing) (pc := 11) 1 dX6_isMissing_11 rfl ?_
    refine jm_goto (Y := YX6_isMissing) (pc := 12) dX6_isMissing_12 rfl ?_
    refine jm_ret (Y := YX6_isMissing) (pc := 16) (st := []) dX6_isMissing_16 rfl rfl ?_
    first | exact jm_bf h_8 | exact jm_bt h_8 | exact jm_bt (Decidable.not_not.mp h_8) | fail
def p_cut (l v : Int32) : Int32 := if l = 0 then v <<< (nI 24 &&& 31) >>> (nI 24 &&& 31) else if l = nI 1 then v <<< (nI 16 &&& 31) >>> (nI 16 &&& 31) else v
theorem c_cut (l v : Int32) (M : jm_M) : jm_J none YX6_cut 0 [some (.int l), some (.int v)] [] M (jm_is (some (.int (p_cut l v))) M) := by
  refine jm_ild_n (Y := YX6_cut) (pc := 0) (i := 0) dX6_cut_0 rfl rfl ?_
  refine jm_if_ne (Y := YX6_cut) (pc := 1) dX6_cut_1 rfl (fun h_1 => ?_) (fun h_1 => ?_)
  · refine jm_ild_n (Y := YX6_cut) (pc := 14) (i := 0) dX6_cut_14 rfl rfl ?_
    refine jm_icN (Y := YX6_cut) (pc := 15) 1 dX6_cut_15 rfl ?_
    refine jm_icmp_ne (Y := YX6_cut) (pc := 16) dX6_cut_16 rfl (fun h_16 => ?_) (fun h_16 => ?_)
    · refine jm_ild_n (Y := YX6_cut) (pc := 29) (i := 1) dX6_cut_29 rfl rfl ?_
      refine jm_ret (Y := YX6_cut) (pc := 30) (st := []) dX6_cut_30 rfl rfl ?_
      unfold p_cut
      first | exact jm_eq (by rw [if_pos h_1]) | exact jm_eq (by rw [if_neg h_1, if_pos h_16]) | exact jm_eq (by rw [if_neg h_1, if_neg h_16]) | fail
    · refine jm_ild_n (Y := YX6_cut) (pc := 19) (i := 1) dX6_cut_19 rfl rfl ?_
      refine jm_bpN (Y := YX6_cut) (pc := 20) 16 dX6_cut_20 rfl ?_
      refine jm_ishl (Y := YX6_cut) (pc := 22) dX6_cut_22 ?_
      refine jm_bpN (Y := YX6_cut) (pc := 23) 16 dX6_cut_23 rfl ?_
      refine jm_ishr (Y := YX6_cut) (pc := 25) dX6_cut_25 ?_
      refine jm_goto (Y := YX6_cut) (pc := 26) dX6_cut_26 rfl ?_
      refine jm_ret (Y := YX6_cut) (pc := 30) (st := []) dX6_cut_30 rfl rfl ?_
      unfold p_cut
      first | exact jm_eq (by rw [if_pos h_1]) | exact jm_eq (by rw [if_neg h_1, if_pos h_16]) | exact jm_eq (by rw [if_neg h_1, if_neg h_16]) | fail
  · refine jm_ild_n (Y := YX6_cut) (pc := 4) (i := 1) dX6_cut_4 rfl rfl ?_
    refine jm_bpN (Y := YX6_cut) (pc := 5) 24 dX6_cut_5 rfl ?_
    refine jm_ishl (Y := YX6_cut) (pc := 7) dX6_cut_7 ?_
    refine jm_bpN (Y := YX6_cut) (pc := 8) 24 dX6_cut_8 rfl ?_
    refine jm_ishr (Y := YX6_cut) (pc := 10) dX6_cut_10 ?_
    refine jm_goto (Y := YX6_cut) (pc := 11) dX6_cut_11 rfl ?_
    refine jm_ret (Y := YX6_cut) (pc := 30) (st := []) dX6_cut_30 rfl rfl ?_
    unfold p_cut
    first | exact jm_eq (by rw [if_pos h_1]) | exact jm_eq (by rw [if_neg h_1, if_pos h_16]) | exact jm_eq (by rw [if_neg h_1, if_neg h_16]) | fail
theorem jm_nn {x : Int32} (h : ¬ x < 0) : ∃ k : Nat, k < 2147483648 ∧ x = nI k := nI_of h
theorem jm_lt0 {x : Int32} : x < 0 ↔ x.toInt < 0 := Int32.lt_iff_toInt_lt
theorem jm_tI {k : Nat} (h : k < 2147483648) : (nI k).toInt = (k : Int) := nI_toInt h
theorem c_isPart (i n : Int32) (rr m : Nat) (M : jm_M) (hr : rr < 8) (hm : M 13 rr = nI m) (hmm : m ≤ 40) : jm_J none YX6_isPart 0 [some (.ref 11), some (.int (nI rr)), some (.int i), some (.int n)] [] M (jm_is (some (.int (jm_b (0 ≤ i.toInt ∧ 0 ≤ n.toInt ∧ i.toInt + n.toInt ≤ m)))) M) := by
  refine jm_ild_n (Y := YX6_isPart) (pc := 0) (i := 2) dX6_isPart_0 rfl rfl ?_
  refine jm_if_lt (Y := YX6_isPart) (pc := 1) dX6_isPart_1 rfl (fun h_1 => ?_) (fun h_1 => ?_)
  · refine jm_icN (Y := YX6_isPart) (pc := 34) 0 dX6_isPart_34 rfl ?_
    refine jm_ret (Y := YX6_isPart) (pc := 35) (st := []) dX6_isPart_35 rfl rfl ?_
    first | exact jm_bf (fun q => by have := jm_lt0.mp h_1; omega) | exact jm_bf (fun q => by have := jm_lt0.mp h_5; omega) | exact jm_bf (by rw [jm_tI hik, jm_tI hnk]; omega) | exact jm_bt (by rw [jm_tI hik, jm_tI hnk]; omega) | fail
  · refine jm_ild_n (Y := YX6_isPart) (pc := 4) (i := 3) dX6_isPart_4 rfl rfl ?_
    refine jm_if_lt (Y := YX6_isPart) (pc := 5) dX6_isPart_5 rfl (fun h_5 => ?_) (fun h_5 => ?_)
    · refine jm_icN (Y := YX6_isPart) (pc := 34) 0 dX6_isPart_34 rfl ?_
      refine jm_ret (Y := YX6_isPart) (pc := 35) (st := []) dX6_isPart_35 rfl rfl ?_
      first | exact jm_bf (fun q => by have := jm_lt0.mp h_1; omega) | exact jm_bf (fun q => by have := jm_lt0.mp h_5; omega) | exact jm_bf (by rw [jm_tI hik, jm_tI hnk]; omega) | exact jm_bt (by rw [jm_tI hik, jm_tI hnk]; omega) | fail
    · obtain ⟨ik, hik, rfl⟩ := jm_nn h_1
      obtain ⟨nk, hnk, rfl⟩ := jm_nn h_5
      refine jm_ild_n (Y := YX6_isPart) (pc := 8) (i := 2) dX6_isPart_8 rfl rfl ?_
      refine jm_ald_n (Y := YX6_isPart) (pc := 9) (i := 0) dX6_isPart_9 rfl rfl ?_
      refine jm_getR (Y := YX6_isPart) (pc := 10) dX6_isPart_10 fr_RX6_13 rfl (by decide) rfl ?_
      refine jm_ild_n (Y := YX6_isPart) (pc := 13) (i := 1) dX6_isPart_13 rfl rfl ?_
      refine jm_ialN (Y := YX6_isPart) (pc := 14) dX6_isPart_14 (by first | assumption | exact jm_arR1 ha | exact jm_arR2 ha | exact jm_arR3 ha | exact jm_arR1 hb | exact jm_arR2 hb | exact jm_arR3 hb | rfl) (by omega) (by first | assumption | exact hm | rfl) ?_
      refine jm_icmp_gtN (Y := YX6_isPart) (pc := 15) dX6_isPart_15 rfl (by omega) (by omega) (fun h_15 => ?_) (fun h_15 => ?_)
      · refine jm_icN (Y := YX6_isPart) (pc := 34) 0 dX6_isPart_34 rfl ?_
        refine jm_ret (Y := YX6_isPart) (pc := 35) (st := []) dX6_isPart_35 rfl rfl ?_
        first | exact jm_bf (fun q => by have := jm_lt0.mp h_1; omega) | exact jm_bf (fun q => by have := jm_lt0.mp h_5; omega) | exact jm_bf (by rw [jm_tI hik, jm_tI hnk]; omega) | exact jm_bt (by rw [jm_tI hik, jm_tI hnk]; omega) | fail
      · refine jm_ild_n (Y := YX6_isPart) (pc := 18) (i := 3) dX6_isPart_18 rfl rfl ?_
        refine jm_ald_n (Y := YX6_isPart) (pc := 19) (i := 0) dX6_isPart_19 rfl rfl ?_
        refine jm_getR (Y := YX6_isPart) (pc := 20) dX6_isPart_20 fr_RX6_13 rfl (by decide) rfl ?_
        refine jm_ild_n (Y := YX6_isPart) (pc := 23) (i := 1) dX6_isPart_23 rfl rfl ?_
        refine jm_ialN (Y := YX6_isPart) (pc := 24) dX6_isPart_24 (by first | assumption | exact jm_arR1 ha | exact jm_arR2 ha | exact jm_arR3 ha | exact jm_arR1 hb | exact jm_arR2 hb | exact jm_arR3 hb | rfl) (by omega) (by first | assumption | exact hm | rfl) ?_
        refine jm_ild_n (Y := YX6_isPart) (pc := 25) (i := 2) dX6_isPart_25 rfl rfl ?_
        refine jm_subN (Y := YX6_isPart) (pc := 26) dX6_isPart_26 (by omega) ?_
        refine jm_icmp_gtN (Y := YX6_isPart) (pc := 27) dX6_isPart_27 rfl (by omega) (by omega) (fun h_27 => ?_) (fun h_27 => ?_)
        · refine jm_icN (Y := YX6_isPart) (pc := 34) 0 dX6_isPart_34 rfl ?_
          refine jm_ret (Y := YX6_isPart) (pc := 35) (st := []) dX6_isPart_35 rfl rfl ?_
          first | exact jm_bf (fun q => by have := jm_lt0.mp h_1; omega) | exact jm_bf (fun q => by have := jm_lt0.mp h_5; omega) | exact jm_bf (by rw [jm_tI hik, jm_tI hnk]; omega) | exact jm_bt (by rw [jm_tI hik, jm_tI hnk]; omega) | fail
        · refine jm_icN (Y := YX6_isPart) (pc := 30) 1 dX6_isPart_30 rfl ?_
          refine jm_goto (Y := YX6_isPart) (pc := 31) dX6_isPart_31 rfl ?_
          refine jm_ret (Y := YX6_isPart) (pc := 35) (st := []) dX6_isPart_35 rfl rfl ?_
          first | exact jm_bf (fun q => by have := jm_lt0.mp h_1; omega) | exact jm_bf (fun q => by have := jm_lt0.mp h_5; omega) | exact jm_bf (by rw [jm_tI hik, jm_tI hnk]; omega) | exact jm_bt (by rw [jm_tI hik, jm_tI hnk]; omega) | fail
def p_pace (w : Nat → Nat) (c : Nat) : Nat := if w (5 + c) = 0 then 0 else w (5 + c) + (if w 0 / 2 ^ (w 4 % 4) % 2 = 1 then 1 else 0)
def p_up (w : Nat → Nat) (c b : Nat) : Nat := if c = 0 ∨ 2 < p_pace w c ∨ (c = w 1 + 1 ∧ b < 20) then c else c - 1
def p_to (w : Nat → Nat) (k : Nat) : Nat :=
  if w (17 + 4 * k) = 1 ∨ w (17 + 4 * k) = 2 then w (17 + 4 * k + 2) + p_pace w (w (17 + 4 * k + 2))
  else if w (17 + 4 * k) = 3 then w (17 + 4 * k + 2) + (if 1 < p_pace w (w (17 + 4 * k + 2)) then p_pace w (w (17 + 4 * k + 2)) - 1 else p_pace w (w (17 + 4 * k + 2)))
  else if w (17 + 4 * k) = 4 then p_up w (w (17 + 4 * k + 2)) (w (17 + 4 * k + 1))
  else if w 4 % 2 = 0 then p_up w (p_up w (w (17 + 4 * k + 2)) (w (17 + 4 * k + 1))) (w (17 + 4 * k + 1)) else p_up w (w (17 + 4 * k + 2)) (w (17 + 4 * k + 1))
theorem c_pace (i : Nat) (w : Nat → Nat) (c : Nat) (M : jm_M) (hi : jm_ar i = some (0, 45)) (hM : M i = jm_n w) (hb : ∀ j, w j ≤ 20000) (hc : c < 12) : jm_J none YX6_pace 0 [some (.ref i), some (.int (nI c))] [] M (jm_is (some (.int (nI (p_pace w c)))) M) := by
  refine jm_ald_n (Y := YX6_pace) (pc := 0) (i := 0) dX6_pace_0 rfl rfl ?_
  refine jm_icN (Y := YX6_pace) (pc := 1) 5 dX6_pace_1 rfl ?_
  refine jm_ild_n (Y := YX6_pace) (pc := 2) (i := 1) dX6_pace_2 rfl rfl ?_
  refine jm_addN (Y := YX6_pace) (pc := 3) dX6_pace_3 ?_
  refine jm_ialN (Y := YX6_pace) (pc := 4) dX6_pace_4 (by first | assumption | exact jm_arR1 ha | exact jm_arR2 ha | exact jm_arR3 ha | exact jm_arR1 hb | exact jm_arR2 hb | exact jm_arR3 hb | rfl) (by first | omega | exact jm_lt hb _) (by first | assumption | exact jm_rdN hM | rfl) ?_
  refine jm_if_neN (Y := YX6_pace) (pc := 5) dX6_pace_5 rfl (by first | omega | exact jm_lt hb _) (fun h_5 => ?_) (fun h_5 => ?_)
  · refine jm_ald_n (Y := YX6_pace) (pc := 12) (i := 0) dX6_pace_12 rfl rfl ?_
    refine jm_icN (Y := YX6_pace) (pc := 13) 5 dX6_pace_13 rfl ?_
    refine jm_ild_n (Y := YX6_pace) (pc := 14) (i := 1) dX6_pace_14 rfl rfl ?_
    refine jm_addN (Y := YX6_pace) (pc := 15) dX6_pace_15 ?_
    refine jm_ialN (Y := YX6_pace) (pc := 16) dX6_pace_16 (by first | assumption | exact jm_arR1 ha | exact jm_arR2 ha | exact jm_arR3 ha | exact jm_arR1 hb | exact jm_arR2 hb | exact jm_arR3 hb | rfl) (by first | omega | exact jm_lt hb _) (by first | assumption | exact jm_rdN hM | rfl) ?_
    refine jm_ald_n (Y := YX6_pace) (pc := 17) (i := 0) dX6_pace_17 rfl rfl ?_
    refine jm_icN (Y := YX6_pace) (pc := 18) 0 dX6_pace_18 rfl ?_
    refine jm_ialN (Y := YX6_pace) (pc := 19) dX6_pace_19 (by first | assumption | exact jm_arR1 ha | exact jm_arR2 ha | exact jm_arR3 ha | exact jm_arR1 hb | exact jm_arR2 hb | exact jm_arR3 hb | rfl) (by first | omega | exact jm_lt hb _) (by first | assumption | exact jm_rdN hM | rfl) ?_
    refine jm_ald_n (Y := YX6_pace) (pc := 20) (i := 0) dX6_pace_20 rfl rfl ?_
    refine jm_icN (Y := YX6_pace) (pc := 21) 4 dX6_pace_21 rfl ?_
    refine jm_ialN (Y := YX6_pace) (pc := 22) dX6_pace_22 (by first | assumption | exact jm_arR1 ha | exact jm_arR2 ha | exact jm_arR3 ha | exact jm_arR1 hb | exact jm_arR2 hb | exact jm_arR3 hb | rfl) (by first | omega | exact jm_lt hb _) (by first | assumption | exact jm_rdN hM | rfl) ?_
    refine jm_icN (Y := YX6_pace) (pc := 23) 4 dX6_pace_23 rfl ?_
    refine jm_remN (Y := YX6_pace) (pc := 24) dX6_pace_24 (by first | omega | exact jm_lt hb _) (by first | omega | exact jm_lt hb _) (by first | omega | exact jm_lt hb _) ?_
    refine jm_S2ie (Y := YX6_pace) (pc := 25) dX6_pace_25 lk_RX6_142 ⟨_, rfl⟩ rfl rfl (by decide) (Nat.le_of_ble_eq_true rfl) ⟨by decide, by decide⟩ (c_has _ _ _ (jm_lt hb _) (Nat.lt_of_lt_of_le (Nat.mod_lt _ (by decide)) (by decide))) ?_
    refine jm_if_eqB (Y := YX6_pace) (pc := 28) dX6_pace_28 rfl (fun h_28 => ?_) (fun h_28 => ?_)
    · refine jm_icN (Y := YX6_pace) (pc := 35) 0 dX6_pace_35 rfl ?_
      refine jm_addN (Y := YX6_pace) (pc := 36) dX6_pace_36 ?_
      refine jm_ret (Y := YX6_pace) (pc := 37) (st := []) dX6_pace_37 rfl rfl ?_
      first | exact jm_eqN (by unfold p_pace; rw [if_pos h_5]) | exact jm_eqN (by unfold p_pace; rw [if_neg h_5, if_pos h_28]) | exact jm_eqN (by unfold p_pace; rw [if_neg h_5, if_neg h_28]) | fail
    · refine jm_icN (Y := YX6_pace) (pc := 31) 1 dX6_pace_31 rfl ?_
      refine jm_goto (Y := YX6_pace) (pc := 32) dX6_pace_32 rfl ?_
      refine jm_addN (Y := YX6_pace) (pc := 36) dX6_pace_36 ?_
      refine jm_ret (Y := YX6_pace) (pc := 37) (st := []) dX6_pace_37 rfl rfl ?_
      first | exact jm_eqN (by unfold p_pace; rw [if_pos h_5]) | exact jm_eqN (by unfold p_pace; rw [if_neg h_5, if_pos h_28]) | exact jm_eqN (by unfold p_pace; rw [if_neg h_5, if_neg h_28]) | fail
  · refine jm_icN (Y := YX6_pace) (pc := 8) 0 dX6_pace_8 rfl ?_
    refine jm_goto (Y := YX6_pace) (pc := 9) dX6_pace_9 rfl ?_
    refine jm_ret (Y := YX6_pace) (pc := 37) (st := []) dX6_pace_37 rfl rfl ?_
    first | exact jm_eqN (by unfold p_pace; rw [if_pos h_5]) | exact jm_eqN (by unfold p_pace; rw [if_neg h_5, if_pos h_28]) | exact jm_eqN (by unfold p_pace; rw [if_neg h_5, if_neg h_28]) | fail
theorem p_pace_le (w : Nat → Nat) (c : Nat) : p_pace w c ≤ w (5 + c) + 1 := by
  unfold p_pace
  by_cases h : w (5 + c) = 0
  · rw [if_pos h]; omega
  · rw [if_neg h]
    by_cases h2 : w 0 / 2 ^ (w 4 % 4) % 2 = 1
    · rw [if_pos h2]; omega
    · rw [if_neg h2]; omega
theorem p_pace_lt {w : Nat → Nat} (hb : ∀ j, w j ≤ 20000) (c : Nat) : p_pace w c < 2147483648 := by
  have := p_pace_le w c
  have := hb (5 + c)
  omega
theorem p_up_le (w : Nat → Nat) (c b : Nat) : p_up w c b ≤ c := by
  unfold p_up
  by_cases h : c = 0 ∨ 2 < p_pace w c ∨ (c = w 1 + 1 ∧ b < 20)
  · rw [if_pos h]; omega
  · rw [if_neg h]; omega
theorem c_upFrom1 (i : Nat) (w : Nat → Nat) (c b : Nat) (q : Prop) [Decidable q] (x : Int32) (hx : x = jm_b q) (hq : q ↔ (c = w 1 + 1 ∧ b < 20)) (M : jm_M) (hi : jm_ar i = some (0, 45)) (hM : M i = jm_n w) (hb : ∀ j, w j ≤ 20000) (hc : c < 12) : jm_J none YX6_upFrom 21 [some (.ref i), some (.int (nI c)), some (.int (nI b)), some (.int x)] [] M (jm_is (some (.int (nI (p_up w c b)))) M) := by
  refine jm_ild_n (Y := YX6_upFrom) (pc := 21) (i := 1) dX6_upFrom_21 rfl rfl ?_
  refine jm_if_eqN (Y := YX6_upFrom) (pc := 22) dX6_upFrom_22 rfl (by first | omega | exact jm_lt hb _ | exact p_pace_lt hb _) (fun h_22 => ?_) (fun h_22 => ?_)
  · refine jm_ild_n (Y := YX6_upFrom) (pc := 38) (i := 1) dX6_upFrom_38 rfl rfl ?_
    refine jm_goto (Y := YX6_upFrom) (pc := 39) dX6_upFrom_39 rfl ?_
    refine jm_ret (Y := YX6_upFrom) (pc := 45) (st := []) dX6_upFrom_45 rfl rfl ?_
    first | exact jm_eqN (by unfold p_up; rw [if_pos (Or.inl h_22)]) | exact jm_eqN (by unfold p_up; rw [if_pos (Or.inr (Or.inl h_31))]) | exact jm_eqN (by unfold p_up; rw [if_pos (Or.inr (Or.inr (hq.mp h_35)))]) | exact jm_eqN (by unfold p_up; rw [if_neg (by intro z; rcases z with z | z | z; exact h_22 z; omega; exact h_35 (hq.mpr z))]) | fail
  · refine jm_ald_n (Y := YX6_upFrom) (pc := 25) (i := 0) dX6_upFrom_25 rfl rfl ?_
    refine jm_ild_n (Y := YX6_upFrom) (pc := 26) (i := 1) dX6_upFrom_26 rfl rfl ?_
    refine jm_S2ie (Y := YX6_upFrom) (pc := 27) dX6_upFrom_27 lk_RX6_146 ⟨_, rfl⟩ rfl rfl (by decide) (Nat.le_of_ble_eq_true rfl) ⟨by decide, by decide⟩ (c_pace _ w _ _ hi hM hb (by omega)) ?_
    refine jm_icN (Y := YX6_upFrom) (pc := 30) 2 dX6_upFrom_30 rfl ?_
    refine jm_icmp_gtN (Y := YX6_upFrom) (pc := 31) dX6_upFrom_31 rfl (by first | omega | exact jm_lt hb _ | exact p_pace_lt hb _) (by first | omega | exact jm_lt hb _ | exact p_pace_lt hb _) (fun h_31 => ?_) (fun h_31 => ?_)
    · refine jm_ild_n (Y := YX6_upFrom) (pc := 38) (i := 1) dX6_upFrom_38 rfl rfl ?_
      refine jm_goto (Y := YX6_upFrom) (pc := 39) dX6_upFrom_39 rfl ?_
      refine jm_ret (Y := YX6_upFrom) (pc := 45) (st := []) dX6_upFrom_45 rfl rfl ?_
      first | exact jm_eqN (by unfold p_up; rw [if_pos (Or.inl h_22)]) | exact jm_eqN (by unfold p_up; rw [if_pos (Or.inr (Or.inl h_31))]) | exact jm_eqN (by unfold p_up; rw [if_pos (Or.inr (Or.inr (hq.mp h_35)))]) | exact jm_eqN (by unfold p_up; rw [if_neg (by intro z; rcases z with z | z | z; exact h_22 z; omega; exact h_35 (hq.mpr z))]) | fail
    · subst hx
      refine jm_ild_n (Y := YX6_upFrom) (pc := 34) (i := 3) dX6_upFrom_34 rfl rfl ?_
      refine jm_if_eqB (Y := YX6_upFrom) (pc := 35) dX6_upFrom_35 rfl (fun h_35 => ?_) (fun h_35 => ?_)
      · refine jm_ild_n (Y := YX6_upFrom) (pc := 42) (i := 1) dX6_upFrom_42 rfl rfl ?_
        refine jm_icN (Y := YX6_upFrom) (pc := 43) 1 dX6_upFrom_43 rfl ?_
        refine jm_subN (Y := YX6_upFrom) (pc := 44) dX6_upFrom_44 (by first | omega | exact jm_lt hb _ | exact p_pace_lt hb _) ?_
        refine jm_ret (Y := YX6_upFrom) (pc := 45) (st := []) dX6_upFrom_45 rfl rfl ?_
        first | exact jm_eqN (by unfold p_up; rw [if_pos (Or.inl h_22)]) | exact jm_eqN (by unfold p_up; rw [if_pos (Or.inr (Or.inl h_31))]) | exact jm_eqN (by unfold p_up; rw [if_pos (Or.inr (Or.inr (hq.mp h_35)))]) | exact jm_eqN (by unfold p_up; rw [if_neg (by intro z; rcases z with z | z | z; exact h_22 z; omega; exact h_35 (hq.mpr z))]) | fail
      · refine jm_ild_n (Y := YX6_upFrom) (pc := 38) (i := 1) dX6_upFrom_38 rfl rfl ?_
        refine jm_goto (Y := YX6_upFrom) (pc := 39) dX6_upFrom_39 rfl ?_
        refine jm_ret (Y := YX6_upFrom) (pc := 45) (st := []) dX6_upFrom_45 rfl rfl ?_
        first | exact jm_eqN (by unfold p_up; rw [if_pos (Or.inl h_22)]) | exact jm_eqN (by unfold p_up; rw [if_pos (Or.inr (Or.inl h_31))]) | exact jm_eqN (by unfold p_up; rw [if_pos (Or.inr (Or.inr (hq.mp h_35)))]) | exact jm_eqN (by unfold p_up; rw [if_neg (by intro z; rcases z with z | z | z; exact h_22 z; omega; exact h_35 (hq.mpr z))]) | fail
theorem c_upFrom (i : Nat) (w : Nat → Nat) (c b : Nat) (M : jm_M) (hi : jm_ar i = some (0, 45)) (hM : M i = jm_n w) (hb : ∀ j, w j ≤ 20000) (hc : c < 12) (hbb : b ≤ 20000) : jm_J none YX6_upFrom 0 [some (.ref i), some (.int (nI c)), some (.int (nI b)), none] [] M (jm_is (some (.int (nI (p_up w c b)))) M) := by
  have b1 := hb 1
  refine jm_ild_n (Y := YX6_upFrom) (pc := 0) (i := 1) dX6_upFrom_0 rfl rfl ?_
  refine jm_ald_n (Y := YX6_upFrom) (pc := 1) (i := 0) dX6_upFrom_1 rfl rfl ?_
  refine jm_icN (Y := YX6_upFrom) (pc := 2) 1 dX6_upFrom_2 rfl ?_
  refine jm_ialN (Y := YX6_upFrom) (pc := 3) dX6_upFrom_3 (by first | assumption | exact jm_arR1 ha | exact jm_arR2 ha | exact jm_arR3 ha | exact jm_arR1 hb | exact jm_arR2 hb | exact jm_arR3 hb | rfl) (by omega) (by first | assumption | exact jm_rdN hM | rfl) ?_
  refine jm_icN (Y := YX6_upFrom) (pc := 4) 1 dX6_upFrom_4 rfl ?_
  refine jm_addN (Y := YX6_upFrom) (pc := 5) dX6_upFrom_5 ?_
  refine jm_icmp_neN (Y := YX6_upFrom) (pc := 6) dX6_upFrom_6 rfl (by omega) (by omega) (fun h_6 => ?_) (fun h_6 => ?_)
  · refine jm_icN (Y := YX6_upFrom) (pc := 19) 0 dX6_upFrom_19 rfl ?_
    first | exact jm_ist_n (Y := YX6_upFrom) (pc := 20) (i := 3) (ls' := [_, _, _, _]) dX6_upFrom_20 rfl (Nat.le_of_ble_eq_true rfl) rfl rfl (c_upFrom1 i w c b (c = w 1 + 1 ∧ b < 20) _ (jm_b_t (by omega)).symm Iff.rfl M hi hM hb hc) | exact jm_ist_n (Y := YX6_upFrom) (pc := 20) (i := 3) (ls' := [_, _, _, _]) dX6_upFrom_20 rfl (Nat.le_of_ble_eq_true rfl) rfl rfl (c_upFrom1 i w c b (c = w 1 + 1 ∧ b < 20) _ (jm_b_f (by omega)).symm Iff.rfl M hi hM hb hc) | fail
  · refine jm_ild_n (Y := YX6_upFrom) (pc := 9) (i := 2) dX6_upFrom_9 rfl rfl ?_
    refine jm_bpN (Y := YX6_upFrom) (pc := 10) 20 dX6_upFrom_10 rfl ?_
    refine jm_icmp_geN (Y := YX6_upFrom) (pc := 12) dX6_upFrom_12 rfl (by omega) (by omega) (fun h_12 => ?_) (fun h_12 => ?_)
    · refine jm_icN (Y := YX6_upFrom) (pc := 19) 0 dX6_upFrom_19 rfl ?_
      first | exact jm_ist_n (Y := YX6_upFrom) (pc := 20) (i := 3) (ls' := [_, _, _, _]) dX6_upFrom_20 rfl (Nat.le_of_ble_eq_true rfl) rfl rfl (c_upFrom1 i w c b (c = w 1 + 1 ∧ b < 20) _ (jm_b_t (by omega)).symm Iff.rfl M hi hM hb hc) | exact jm_ist_n (Y := YX6_upFrom) (pc := 20) (i := 3) (ls' := [_, _, _, _]) dX6_upFrom_20 rfl (Nat.le_of_ble_eq_true rfl) rfl rfl (c_upFrom1 i w c b (c = w 1 + 1 ∧ b < 20) _ (jm_b_f (by omega)).symm Iff.rfl M hi hM hb hc) | fail
    · refine jm_icN (Y := YX6_upFrom) (pc := 15) 1 dX6_upFrom_15 rfl ?_
      refine jm_goto (Y := YX6_upFrom) (pc := 16) dX6_upFrom_16 rfl ?_
      first | exact jm_ist_n (Y := YX6_upFrom) (pc := 20) (i := 3) (ls' := [_, _, _, _]) dX6_upFrom_20 rfl (Nat.le_of_ble_eq_true rfl) rfl rfl (c_upFrom1 i w c b (c = w 1 + 1 ∧ b < 20) _ (jm_b_t (by omega)).symm Iff.rfl M hi hM hb hc) | exact jm_ist_n (Y := YX6_upFrom) (pc := 20) (i := 3) (ls' := [_, _, _, _]) dX6_upFrom_20 rfl (Nat.le_of_ble_eq_true rfl) rfl rfl (c_upFrom1 i w c b (c = w 1 + 1 ∧ b < 20) _ (jm_b_f (by omega)).symm Iff.rfl M hi hM hb hc) | fail
