/-! the reference: the reader of the tape -/
def PS (M : jm_M) (a7 a8 a9 a10 a11 a12 : Int32) : jm_M := jm_sf M 11 (fun j => if j = 7 then a7 else if j = 8 then a8 else if j = 9 then a9 else if j = 10 then a10 else if j = 11 then a11 else if j = 12 then a12 else M 11 j)
theorem PS_o {M : jm_M} {a7 a8 a9 a10 a11 a12 : Int32} {i : Nat} (h : i ≠ 11) : PS M a7 a8 a9 a10 a11 a12 i = M i := jm_sf_n _ _ h
theorem PS_at {M : jm_M} {a7 a8 a9 a10 a11 a12 : Int32} (j : Nat) : PS M a7 a8 a9 a10 a11 a12 11 j = if j = 7 then a7 else if j = 8 then a8 else if j = 9 then a9 else if j = 10 then a10 else if j = 11 then a11 else if j = 12 then a12 else M 11 j := rfl
theorem PS_ext {M : jm_M} {f g : Nat → Int32} (h : ∀ j, f j = g j) : jm_sf M 11 f = jm_sf M 11 g := by rw [funext h]
theorem PS_7 {M : jm_M} {a7 a8 a9 a10 a11 a12 : Int32} : PS M a7 a8 a9 a10 a11 a12 11 7 = a7 := rfl
theorem PS_u7 {M : jm_M} {a7 a8 a9 a10 a11 a12 : Int32} (x : Int32) : jm_sf (PS M a7 a8 a9 a10 a11 a12) 11 (upd (PS M a7 a8 a9 a10 a11 a12 11) 7 x) = PS M x a8 a9 a10 a11 a12 := by
  unfold PS
  rw [jm_sfsf]
  refine PS_ext (fun j => ?_)
  rw [jm_sf_s]
  by_cases h : j = 7
  · subst h; rw [upd_s]; rfl
  · rw [upd_n _ _ h]
    simp only [h, if_false]
theorem PS_8 {M : jm_M} {a7 a8 a9 a10 a11 a12 : Int32} : PS M a7 a8 a9 a10 a11 a12 11 8 = a8 := rfl
theorem PS_u8 {M : jm_M} {a7 a8 a9 a10 a11 a12 : Int32} (x : Int32) : jm_sf (PS M a7 a8 a9 a10 a11 a12) 11 (upd (PS M a7 a8 a9 a10 a11 a12 11) 8 x) = PS M a7 x a9 a10 a11 a12 := by
  unfold PS
  rw [jm_sfsf]
  refine PS_ext (fun j => ?_)
  rw [jm_sf_s]
  by_cases h : j = 8
  · subst h; rw [upd_s]; rfl
  · rw [upd_n _ _ h]
    simp only [h, if_false]
theorem PS_9 {M : jm_M} {a7 a8 a9 a10 a11 a12 : Int32} : PS M a7 a8 a9 a10 a11 a12 11 9 = a9 := rfl
theorem PS_u9 {M : jm_M} {a7 a8 a9 a10 a11 a12 : Int32} (x : Int32) : jm_sf (PS M a7 a8 a9 a10 a11 a12) 11 (upd (PS M a7 a8 a9 a10 a11 a12 11) 9 x) = PS M a7 a8 x a10 a11 a12 := by
  unfold PS
  rw [jm_sfsf]
  refine PS_ext (fun j => ?_)
  rw [jm_sf_s]
  by_cases h : j = 9
  · subst h; rw [upd_s]; rfl
  · rw [upd_n _ _ h]
    simp only [h, if_false]
theorem PS_10 {M : jm_M} {a7 a8 a9 a10 a11 a12 : Int32} : PS M a7 a8 a9 a10 a11 a12 11 10 = a10 := rfl
theorem PS_u10 {M : jm_M} {a7 a8 a9 a10 a11 a12 : Int32} (x : Int32) : jm_sf (PS M a7 a8 a9 a10 a11 a12) 11 (upd (PS M a7 a8 a9 a10 a11 a12 11) 10 x) = PS M a7 a8 a9 x a11 a12 := by
  unfold PS
  rw [jm_sfsf]
  refine PS_ext (fun j => ?_)
  rw [jm_sf_s]
  by_cases h : j = 10
  · subst h; rw [upd_s]; rfl
  · rw [upd_n _ _ h]
    simp only [h, if_false]
theorem PS_11 {M : jm_M} {a7 a8 a9 a10 a11 a12 : Int32} : PS M a7 a8 a9 a10 a11 a12 11 11 = a11 := rfl
theorem PS_u11 {M : jm_M} {a7 a8 a9 a10 a11 a12 : Int32} (x : Int32) : jm_sf (PS M a7 a8 a9 a10 a11 a12) 11 (upd (PS M a7 a8 a9 a10 a11 a12 11) 11 x) = PS M a7 a8 a9 a10 x a12 := by
  unfold PS
  rw [jm_sfsf]
  refine PS_ext (fun j => ?_)
  rw [jm_sf_s]
  by_cases h : j = 11
  · subst h; rw [upd_s]; rfl
  · rw [upd_n _ _ h]
    simp only [h, if_false]
theorem PS_12 {M : jm_M} {a7 a8 a9 a10 a11 a12 : Int32} : PS M a7 a8 a9 a10 a11 a12 11 12 = a12 := rfl
theorem PS_u12 {M : jm_M} {a7 a8 a9 a10 a11 a12 : Int32} (x : Int32) : jm_sf (PS M a7 a8 a9 a10 a11 a12) 11 (upd (PS M a7 a8 a9 a10 a11 a12 11) 12 x) = PS M a7 a8 a9 a10 a11 x := by
  unfold PS
  rw [jm_sfsf]
  refine PS_ext (fun j => ?_)
  rw [jm_sf_s]
  by_cases h : j = 12
  · subst h; rw [upd_s]; rfl
  · rw [upd_n _ _ h]
    simp only [h, if_false]
def s_dc (t : Nat → Nat) : Nat → Nat → Nat
  | 0, _ => 0
  | m + 1, p => if 48 ≤ t p ∧ t p ≤ 57 then 1 + s_dc t m (p + 1) else 0
/-- how many figures stand at p -/
def s_d (t : Nat → Nat) (n p : Nat) : Nat := s_dc t (n - p) p
theorem s_d_s {t : Nat → Nat} {n p : Nat} (h : p < n) (h1 : 48 ≤ t p ∧ t p ≤ 57) : s_d t n p = 1 + s_d t n (p + 1) := by
  unfold s_d
  rw [show n - p = (n - (p + 1)) + 1 by omega]
  show (if _ then _ else _) = _
  rw [if_pos h1]
theorem s_d_0 {t : Nat → Nat} {n p : Nat} (h : ¬ (p < n ∧ 48 ≤ t p ∧ t p ≤ 57)) : s_d t n p = 0 := by
  unfold s_d
  by_cases hp : p < n
  · rw [show n - p = (n - (p + 1)) + 1 by omega]
    show (if _ then _ else _) = _
    rw [if_neg (fun z => h ⟨hp, z⟩)]
  · rw [show n - p = 0 by omega]; rfl
theorem s_d_le {t : Nat → Nat} {n : Nat} : ∀ (m p : Nat), n - p ≤ m → p ≤ n → p + s_d t n p ≤ n
  | 0, p, h, hp => by
    have : s_d t n p = 0 := s_d_0 (by omega)
    omega
  | m + 1, p, h, hp => by
    by_cases q : p < n ∧ 48 ≤ t p ∧ t p ≤ 57
    · have := s_d_le (t := t) (n := n) m (p + 1) (by omega) (by omega)
      rw [s_d_s q.1 q.2]
      omega
    · rw [s_d_0 q]; omega
def s_nv (t : Nat → Nat) (p j : Nat) : Nat := if j = 0 then 0 else if j = 1 then t p - 48 else 10 * (t p - 48) + (t (p + 1) - 48)
def s_tk (t : Nat → Nat) (n p : Nat) : Nat := if 0 < s_d t n p then (if s_d t n p < 3 then 2 else 5) else if n ≤ p then 0 else if 97 ≤ t p ∧ t p ≤ 122 then 1 else if t p = 44 then 3 else if t p = 59 then 4 else 5
def s_tl (t : Nat → Nat) (n p : Nat) : Nat := if 0 < s_d t n p then s_d t n p else if n ≤ p then 0 else 1
def s_tv (t : Nat → Nat) (n p : Nat) : Int32 := if 0 < s_d t n p then nI (s_nv t p (s_d t n p)) else if n ≤ p then -1 else nI (t p)
theorem s_tl_le {t : Nat → Nat} {n p : Nat} (h : p ≤ n) : p + s_tl t n p ≤ n := by
  have := s_d_le (t := t) (n := n) (n - p) p (Nat.le_refl _) h
  unfold s_tl
  split
  · omega
  · split <;> omega
def s_by (t : Nat → Nat) (n p : Nat) : Int32 := if p < n then nI (t p) else -1
theorem s_by_t {t : Nat → Nat} (hb : ∀ i, t i ≤ 255) (n p : Nat) : (s_by t n p).toInt = if p < n then (t p : Int) else -1 := by
  unfold s_by
  split
  · exact jm_tI (by have := hb p; omega)
  · decide
theorem c_byteAt (t : Nat → Nat) (n : Nat) (M : jm_M) (hn : n ≤ 110) (hb : ∀ i, t i ≤ 255) (h16 : ∀ i, i < n → M 16 i = nI (t i)) (h6 : M 11 6 = nI n) (a7 a8 a9 a10 a11 a12 : Int32) (p : Nat) (hp : p ≤ n) : jm_J none YX6_byteAt 0 [some (.ref 11), some (.int (nI p))] [] (PS M a7 a8 a9 a10 a11 a12) (jm_is (some (.int (s_by t n p))) (PS M a7 a8 a9 a10 a11 a12)) := by
  refine jm_ild_n (Y := YX6_byteAt) (pc := 0) (i := 1) dX6_byteAt_0 rfl rfl ?_
  refine jm_ald_n (Y := YX6_byteAt) (pc := 1) (i := 0) dX6_byteAt_1 rfl rfl ?_
  refine jm_getE (Y := YX6_byteAt) (pc := 2) dX6_byteAt_2 fw_RX6_79 rfl (by decide) rfl (show PS M a7 a8 a9 a10 a11 a12 11 6 = nI n from h6) ?_
  refine jm_icmp_geN (Y := YX6_byteAt) (pc := 5) dX6_byteAt_5 rfl (by omega) (by omega) (fun h_5 => ?_) (fun h_5 => ?_)
  · refine jm_iconst (Y := YX6_byteAt) (pc := 17) (v := -1) dX6_byteAt_17 rfl ?_
    refine jm_ret (Y := YX6_byteAt) (pc := 18) (st := []) dX6_byteAt_18 rfl rfl ?_
    unfold s_by
    first | exact jm_eq (by rw [if_pos (by omega)]) | exact jm_eq (by rw [if_neg (by omega)]) | fail
  · refine jm_ald_n (Y := YX6_byteAt) (pc := 8) (i := 0) dX6_byteAt_8 rfl rfl ?_
    refine jm_getR (Y := YX6_byteAt) (pc := 9) dX6_byteAt_9 fr_RX6_22 rfl (by decide) rfl ?_
    refine jm_ild_n (Y := YX6_byteAt) (pc := 12) (i := 1) dX6_byteAt_12 rfl rfl ?_
    refine jm_ialN (Y := YX6_byteAt) (pc := 13) dX6_byteAt_13 (by first | assumption | exact jm_arR1 ha | exact jm_arR2 ha | exact jm_arR3 ha | exact jm_arR1 hb | exact jm_arR2 hb | exact jm_arR3 hb | rfl) (by omega) (show PS M a7 a8 a9 a10 a11 a12 16 p = nI (t p) from h16 p (by omega)) ?_
    refine jm_goto (Y := YX6_byteAt) (pc := 14) dX6_byteAt_14 rfl ?_
    refine jm_ret (Y := YX6_byteAt) (pc := 18) (st := []) dX6_byteAt_18 rfl rfl ?_
    unfold s_by
    first | exact jm_eq (by rw [if_pos (by omega)]) | exact jm_eq (by rw [if_neg (by omega)]) | fail
theorem c_adv0 (t : Nat → Nat) (n : Nat) (M : jm_M) (hn : n ≤ 110) (hb : ∀ i, t i ≤ 255) (h16 : ∀ i, i < n → M 16 i = nI (t i)) (h6 : M 11 6 = nI n) (a7 a8 a11 : Int32) (p : Nat) (hp : p < n) (c : Int32) : ∀ (m : Nat) (j : Nat), p + j ≤ n → p + j + s_d t n (p + j) = p + s_d t n p → 0 < j + s_d t n (p + j) → n + 1 - (p + j) < m → jm_J none YX6_advances 38 [some (.ref 11), some (.int c)] [] (PS M a7 a8 (nI (p + j)) (nI p) a11 (nI (s_nv t p j))) (jm_is none (PS M a7 a8 (nI (p + s_tl t n p)) (nI p) (nI (s_tk t n p)) (s_tv t n p))) := by
  intro m
  induction m with
  | zero => intros; omega
  | succ m ih =>
    intro j hj1 hj2 hj3 hmm
    have tb := hb (p + j)
    have sb := s_by_t hb n (p + j)
    refine jm_ald_n (Y := YX6_advances) (pc := 38) (i := 0) dX6_advances_38 rfl rfl ?_
    refine jm_ald_n (Y := YX6_advances) (pc := 39) (i := 0) dX6_advances_39 rfl rfl ?_
    refine jm_getE (Y := YX6_advances) (pc := 40) dX6_advances_40 fw_RX6_83 rfl (by decide) rfl (PS_9) ?_
    refine jm_V1ie (Y := YX6_advances) (pc := 43) dX6_advances_43 lk_RX6_89 ⟨_, rfl⟩ rfl rfl (by decide) (Nat.le_of_ble_eq_true rfl) ⟨by decide, by decide⟩ (c_byteAt t n M hn hb h16 h6 a7 a8 _ _ _ _ (p + j) (by omega)) ?_
    refine jm_bpN (Y := YX6_advances) (pc := 46) 48 dX6_advances_46 rfl ?_
    refine jm_bpN (Y := YX6_advances) (pc := 48) 57 dX6_advances_48 rfl ?_
    refine jm_S3ie (Y := YX6_advances) (pc := 50) dX6_advances_50 lk_RX6_53 ⟨_, rfl⟩ rfl rfl rfl (by decide) (Nat.le_of_ble_eq_true rfl) ⟨by decide, by decide⟩ (c_inN _ _ _ _ (by decide) (by decide)) ?_
    refine jm_if_eqB (Y := YX6_advances) (pc := 53) dX6_advances_53 rfl (fun h_53 => ?_) (fun h_53 => ?_)
    · have hd : ¬ (p + j < n ∧ 48 ≤ t (p + j) ∧ t (p + j) ≤ 57) := (by rw [sb] at h_53; split at h_53 <;> omega)
      have e0 := s_d_0 hd
      have ej : j = s_d t n p := (by omega)
      subst ej
      refine jm_ald_n (Y := YX6_advances) (pc := 112) (i := 0) dX6_advances_112 rfl rfl ?_
      refine jm_ald_n (Y := YX6_advances) (pc := 113) (i := 0) dX6_advances_113 rfl rfl ?_
      refine jm_getE (Y := YX6_advances) (pc := 114) dX6_advances_114 fw_RX6_83 rfl (by decide) rfl (PS_9) ?_
      refine jm_ald_n (Y := YX6_advances) (pc := 117) (i := 0) dX6_advances_117 rfl rfl ?_
      refine jm_getE (Y := YX6_advances) (pc := 118) dX6_advances_118 fw_RX6_86 rfl (by decide) rfl (PS_10) ?_
      refine jm_subN (Y := YX6_advances) (pc := 121) dX6_advances_121 (by omega) ?_
      refine jm_icN (Y := YX6_advances) (pc := 122) 3 dX6_advances_122 rfl ?_
      refine jm_icmp_geN (Y := YX6_advances) (pc := 123) dX6_advances_123 rfl (by omega) (by omega) (fun h_123 => ?_) (fun h_123 => ?_)
      · refine jm_icN (Y := YX6_advances) (pc := 130) 5 dX6_advances_130 rfl ?_
        refine jm_put (Y := YX6_advances) (pc := 131) dX6_advances_131 fw_RX6_95 rfl (by decide) rfl ?_
        rw [PS_u11]
        refine jm_retv (Y := YX6_advances) (pc := 134) (st := []) dX6_advances_134 rfl ?_
        unfold s_tl s_tk s_tv
        first | exact jm_eqM (by rw [if_pos (by omega), if_pos (by omega), if_pos (by omega), if_pos (by omega)]) | exact jm_eqM (by rw [if_pos (by omega), if_pos (by omega), if_neg (by omega), if_pos (by omega)]) | fail
      · refine jm_icN (Y := YX6_advances) (pc := 126) 2 dX6_advances_126 rfl ?_
        refine jm_goto (Y := YX6_advances) (pc := 127) dX6_advances_127 rfl ?_
        refine jm_put (Y := YX6_advances) (pc := 131) dX6_advances_131 fw_RX6_95 rfl (by decide) rfl ?_
        rw [PS_u11]
        refine jm_retv (Y := YX6_advances) (pc := 134) (st := []) dX6_advances_134 rfl ?_
        unfold s_tl s_tk s_tv
        first | exact jm_eqM (by rw [if_pos (by omega), if_pos (by omega), if_pos (by omega), if_pos (by omega)]) | exact jm_eqM (by rw [if_pos (by omega), if_pos (by omega), if_neg (by omega), if_pos (by omega)]) | fail
    · have hd : p + j < n ∧ 48 ≤ t (p + j) ∧ t (p + j) ≤ 57 := (by rw [sb] at h_53; split at h_53 <;> omega)
      have e1 := s_d_s hd.1 hd.2
      have eby : s_by t n (p + j) = nI (t (p + j)) := if_pos hd.1
      refine jm_ald_n (Y := YX6_advances) (pc := 56) (i := 0) dX6_advances_56 rfl rfl ?_
      refine jm_ald_n (Y := YX6_advances) (pc := 57) (i := 0) dX6_advances_57 rfl rfl ?_
      refine jm_getE (Y := YX6_advances) (pc := 58) dX6_advances_58 fw_RX6_83 rfl (by decide) rfl (PS_9) ?_
      refine jm_ald_n (Y := YX6_advances) (pc := 61) (i := 0) dX6_advances_61 rfl rfl ?_
      refine jm_getE (Y := YX6_advances) (pc := 62) dX6_advances_62 fw_RX6_86 rfl (by decide) rfl (PS_10) ?_
      refine jm_subN (Y := YX6_advances) (pc := 65) dX6_advances_65 (by omega) ?_
      refine jm_icN (Y := YX6_advances) (pc := 66) 2 dX6_advances_66 rfl ?_
      refine jm_icmp_geN (Y := YX6_advances) (pc := 67) dX6_advances_67 rfl (by omega) (by omega) (fun h_67 => ?_) (fun h_67 => ?_)
      · refine jm_ald_n (Y := YX6_advances) (pc := 92) (i := 0) dX6_advances_92 rfl rfl ?_
        refine jm_getE (Y := YX6_advances) (pc := 93) dX6_advances_93 fw_RX6_92 rfl (by decide) rfl (PS_12) ?_
        refine jm_put (Y := YX6_advances) (pc := 96) dX6_advances_96 fw_RX6_92 rfl (by decide) rfl ?_
        rw [PS_u12]
        refine jm_ald_n (Y := YX6_advances) (pc := 99) (i := 0) dX6_advances_99 rfl rfl ?_
        refine jm_dup (Y := YX6_advances) (pc := 100) dX6_advances_100 rfl ?_
        refine jm_getE (Y := YX6_advances) (pc := 101) dX6_advances_101 fw_RX6_83 rfl (by decide) rfl (PS_9) ?_
        refine jm_icN (Y := YX6_advances) (pc := 104) 1 dX6_advances_104 rfl ?_
        refine jm_addN (Y := YX6_advances) (pc := 105) dX6_advances_105 ?_
        refine jm_put (Y := YX6_advances) (pc := 106) dX6_advances_106 fw_RX6_83 rfl (by decide) rfl ?_
        rw [PS_u9]
        refine jm_goto (Y := YX6_advances) (pc := 109) dX6_advances_109 rfl ?_
        first | (have e2 : 10 * s_nv t p j + t (p + j) - 48 = s_nv t p (j + 1) := (by unfold s_nv; rcases (show j = 0 ∨ j = 1 by omega) with rfl | rfl <;> simp <;> omega); rw [e2]; exact ih (j + 1) (by omega) (by rw [← Nat.add_assoc]; omega) (by omega) (by omega)) | (have e2 : s_nv t p j = s_nv t p (j + 1) := (by unfold s_nv; rw [if_neg (by omega), if_neg (by omega), if_neg (by omega), if_neg (by omega)]); rw [e2]; exact ih (j + 1) (by omega) (by rw [← Nat.add_assoc]; omega) (by omega) (by omega)) | fail
      · refine jm_bpN (Y := YX6_advances) (pc := 70) 10 dX6_advances_70 rfl ?_
        refine jm_ald_n (Y := YX6_advances) (pc := 72) (i := 0) dX6_advances_72 rfl rfl ?_
        refine jm_getE (Y := YX6_advances) (pc := 73) dX6_advances_73 fw_RX6_92 rfl (by decide) rfl (PS_12) ?_
        refine jm_mulN (Y := YX6_advances) (pc := 76) dX6_advances_76 ?_
        refine jm_ald_n (Y := YX6_advances) (pc := 77) (i := 0) dX6_advances_77 rfl rfl ?_
        refine jm_ald_n (Y := YX6_advances) (pc := 78) (i := 0) dX6_advances_78 rfl rfl ?_
        refine jm_getE (Y := YX6_advances) (pc := 79) dX6_advances_79 fw_RX6_83 rfl (by decide) rfl (PS_9) ?_
        refine jm_V1ie (Y := YX6_advances) (pc := 82) dX6_advances_82 lk_RX6_89 ⟨_, rfl⟩ rfl rfl (by decide) (Nat.le_of_ble_eq_true rfl) ⟨by decide, by decide⟩ (c_byteAt t n M hn hb h16 h6 a7 a8 _ _ _ _ (p + j) (by omega)) ?_
        rw [eby]
        refine jm_addN (Y := YX6_advances) (pc := 85) dX6_advances_85 ?_
        refine jm_bpN (Y := YX6_advances) (pc := 86) 48 dX6_advances_86 rfl ?_
        refine jm_subN (Y := YX6_advances) (pc := 88) dX6_advances_88 (by omega) ?_
        refine jm_goto (Y := YX6_advances) (pc := 89) dX6_advances_89 rfl ?_
        refine jm_put (Y := YX6_advances) (pc := 96) dX6_advances_96 fw_RX6_92 rfl (by decide) rfl ?_
        rw [PS_u12]
        refine jm_ald_n (Y := YX6_advances) (pc := 99) (i := 0) dX6_advances_99 rfl rfl ?_
        refine jm_dup (Y := YX6_advances) (pc := 100) dX6_advances_100 rfl ?_
        refine jm_getE (Y := YX6_advances) (pc := 101) dX6_advances_101 fw_RX6_83 rfl (by decide) rfl (PS_9) ?_
        refine jm_icN (Y := YX6_advances) (pc := 104) 1 dX6_advances_104 rfl ?_
        refine jm_addN (Y := YX6_advances) (pc := 105) dX6_advances_105 ?_
        refine jm_put (Y := YX6_advances) (pc := 106) dX6_advances_106 fw_RX6_83 rfl (by decide) rfl ?_
        rw [PS_u9]
        refine jm_goto (Y := YX6_advances) (pc := 109) dX6_advances_109 rfl ?_
        first | (have e2 : 10 * s_nv t p j + t (p + j) - 48 = s_nv t p (j + 1) := (by unfold s_nv; rcases (show j = 0 ∨ j = 1 by omega) with rfl | rfl <;> simp <;> omega); rw [e2]; exact ih (j + 1) (by omega) (by rw [← Nat.add_assoc]; omega) (by omega) (by omega)) | (have e2 : s_nv t p j = s_nv t p (j + 1) := (by unfold s_nv; rw [if_neg (by omega), if_neg (by omega), if_neg (by omega), if_neg (by omega)]); rw [e2]; exact ih (j + 1) (by omega) (by rw [← Nat.add_assoc]; omega) (by omega) (by omega)) | fail
theorem s_tl_1 {t : Nat → Nat} {n p : Nat} (h : s_d t n p = 0) (hp : p < n) : s_tl t n p = 1 := by unfold s_tl; rw [if_neg (by omega), if_neg (by omega)]
theorem s_tv_1 {t : Nat → Nat} {n p : Nat} (h : s_d t n p = 0) (hp : p < n) : s_tv t n p = nI (t p) := by unfold s_tv; rw [if_neg (by omega), if_neg (by omega)]
theorem s_tk_1 {t : Nat → Nat} {n p : Nat} (h : s_d t n p = 0) (hp : p < n) : s_tk t n p = if 97 ≤ t p ∧ t p ≤ 122 then 1 else if t p = 44 then 3 else if t p = 59 then 4 else 5 := by unfold s_tk; rw [if_neg (by omega), if_neg (by omega)]
theorem s_d_n (t : Nat → Nat) (n : Nat) : s_d t n n = 0 := s_d_0 (by omega)
theorem c_advT (t : Nat → Nat) (n : Nat) (M : jm_M) (hn : n ≤ 110) (hb : ∀ i, t i ≤ 255) (h16 : ∀ i, i < n → M 16 i = nI (t i)) (h6 : M 11 6 = nI n) (a7 a8 a9 a10 a11 a12 : Int32) (q : Nat) (hq : q < n) : jm_J none YX6_advances 0 [some (.ref 11), none] [] (PS M a7 a8 (nI q) a10 a11 a12) (jm_is none (PS M a7 a8 (nI (q + s_tl t n q)) (nI q) (nI (s_tk t n q)) (s_tv t n q))) := by
  have tb := hb q
  have eb : s_by t n q = nI (t q) := if_pos hq
  have e5 := jm_tI (show t q < 2147483648 by omega)
  refine jm_ald_n (Y := YX6_advances) (pc := 0) (i := 0) dX6_advances_0 rfl rfl ?_
  refine jm_ald_n (Y := YX6_advances) (pc := 1) (i := 0) dX6_advances_1 rfl rfl ?_
  refine jm_getE (Y := YX6_advances) (pc := 2) dX6_advances_2 fw_RX6_83 rfl (by decide) rfl (PS_9) ?_
  refine jm_put (Y := YX6_advances) (pc := 5) dX6_advances_5 fw_RX6_86 rfl (by decide) rfl ?_
  rw [PS_u10]
  refine jm_ald_n (Y := YX6_advances) (pc := 8) (i := 0) dX6_advances_8 rfl rfl ?_
  refine jm_ald_n (Y := YX6_advances) (pc := 9) (i := 0) dX6_advances_9 rfl rfl ?_
  refine jm_getE (Y := YX6_advances) (pc := 10) dX6_advances_10 fw_RX6_83 rfl (by decide) rfl (PS_9) ?_
  refine jm_V1ie (Y := YX6_advances) (pc := 13) dX6_advances_13 lk_RX6_89 ⟨_, rfl⟩ rfl rfl (by decide) (Nat.le_of_ble_eq_true rfl) ⟨by decide, by decide⟩ ((by have h9 := c_byteAt t n M hn hb h16 h6 a7 a8 (nI q) (nI q) a11 a12 q (by omega); rw [eb] at h9; exact h9)) ?_
  refine jm_ist_n (Y := YX6_advances) (pc := 16) (i := 1) (ls' := [_, _]) dX6_advances_16 rfl (Nat.le_of_ble_eq_true rfl) rfl rfl ?_
  refine jm_ald_n (Y := YX6_advances) (pc := 17) (i := 0) dX6_advances_17 rfl rfl ?_
  refine jm_ild_n (Y := YX6_advances) (pc := 18) (i := 1) dX6_advances_18 rfl rfl ?_
  refine jm_put (Y := YX6_advances) (pc := 19) dX6_advances_19 fw_RX6_92 rfl (by decide) rfl ?_
  rw [PS_u12]
  refine jm_ild_n (Y := YX6_advances) (pc := 22) (i := 1) dX6_advances_22 rfl rfl ?_
  refine jm_bpN (Y := YX6_advances) (pc := 23) 48 dX6_advances_23 rfl ?_
  refine jm_bpN (Y := YX6_advances) (pc := 25) 57 dX6_advances_25 rfl ?_
  refine jm_S3ie (Y := YX6_advances) (pc := 27) dX6_advances_27 lk_RX6_53 ⟨_, rfl⟩ rfl rfl rfl (by decide) (Nat.le_of_ble_eq_true rfl) ⟨by decide, by decide⟩ (c_inN _ _ _ _ (by decide) (by decide)) ?_
  refine jm_if_eqB (Y := YX6_advances) (pc := 30) dX6_advances_30 rfl (fun h_30 => ?_) (fun h_30 => ?_)
  · refine jm_ald_n (Y := YX6_advances) (pc := 135) (i := 0) dX6_advances_135 rfl rfl ?_
    refine jm_ild_n (Y := YX6_advances) (pc := 136) (i := 1) dX6_advances_136 rfl rfl ?_
    refine jm_if_geN (Y := YX6_advances) (pc := 137) dX6_advances_137 rfl (by omega) ?_
    refine jm_ild_n (Y := YX6_advances) (pc := 144) (i := 1) dX6_advances_144 rfl rfl ?_
    refine jm_bpN (Y := YX6_advances) (pc := 145) 97 dX6_advances_145 rfl ?_
    refine jm_bpN (Y := YX6_advances) (pc := 147) 122 dX6_advances_147 rfl ?_
    have hz : s_d t n q = 0 := s_d_0 (by omega)
    refine jm_S3ie (Y := YX6_advances) (pc := 149) dX6_advances_149 lk_RX6_53 ⟨_, rfl⟩ rfl rfl rfl (by decide) (Nat.le_of_ble_eq_true rfl) ⟨by decide, by decide⟩ (c_inN _ _ _ _ (by decide) (by decide)) ?_
    refine jm_if_eqB (Y := YX6_advances) (pc := 152) dX6_advances_152 rfl (fun h_152 => ?_) (fun h_152 => ?_)
    · refine jm_ild_n (Y := YX6_advances) (pc := 159) (i := 1) dX6_advances_159 rfl rfl ?_
      refine jm_bpN (Y := YX6_advances) (pc := 160) 44 dX6_advances_160 rfl ?_
      refine jm_icmp_neN (Y := YX6_advances) (pc := 162) dX6_advances_162 rfl (by omega) (by omega) (fun h_162 => ?_) (fun h_162 => ?_)
      · refine jm_ild_n (Y := YX6_advances) (pc := 169) (i := 1) dX6_advances_169 rfl rfl ?_
        refine jm_bpN (Y := YX6_advances) (pc := 170) 59 dX6_advances_170 rfl ?_
        refine jm_icmp_neN (Y := YX6_advances) (pc := 172) dX6_advances_172 rfl (by omega) (by omega) (fun h_172 => ?_) (fun h_172 => ?_)
        · refine jm_icN (Y := YX6_advances) (pc := 179) 5 dX6_advances_179 rfl ?_
          refine jm_put (Y := YX6_advances) (pc := 180) dX6_advances_180 fw_RX6_95 rfl (by decide) rfl ?_
          rw [PS_u11]
          refine jm_ald_n (Y := YX6_advances) (pc := 183) (i := 0) dX6_advances_183 rfl rfl ?_
          refine jm_dup (Y := YX6_advances) (pc := 184) dX6_advances_184 rfl ?_
          refine jm_getE (Y := YX6_advances) (pc := 185) dX6_advances_185 fw_RX6_83 rfl (by decide) rfl (PS_9) ?_
          refine jm_ald_n (Y := YX6_advances) (pc := 188) (i := 0) dX6_advances_188 rfl rfl ?_
          refine jm_getE (Y := YX6_advances) (pc := 189) dX6_advances_189 fw_RX6_95 rfl (by decide) rfl (PS_11) ?_
          refine jm_if_neN (Y := YX6_advances) (pc := 192) dX6_advances_192 rfl (by omega) (fun h_192 => ?_) (fun h_192 => by exfalso; omega)
          refine jm_icN (Y := YX6_advances) (pc := 199) 1 dX6_advances_199 rfl ?_
          refine jm_addN (Y := YX6_advances) (pc := 200) dX6_advances_200 ?_
          refine jm_put (Y := YX6_advances) (pc := 201) dX6_advances_201 fw_RX6_83 rfl (by decide) rfl ?_
          rw [PS_u9]
          refine jm_retv (Y := YX6_advances) (pc := 204) (st := []) dX6_advances_204 rfl ?_
          rw [s_tl_1 hz hq, s_tv_1 hz hq, s_tk_1 hz hq]
          first | exact jm_eqM (by rw [if_pos (by omega)]) | exact jm_eqM (by rw [if_neg (by omega), if_pos (by omega)]) | exact jm_eqM (by rw [if_neg (by omega), if_neg (by omega), if_pos (by omega)]) | exact jm_eqM (by rw [if_neg (by omega), if_neg (by omega), if_neg (by omega)]) | fail
        · refine jm_icN (Y := YX6_advances) (pc := 175) 4 dX6_advances_175 rfl ?_
          refine jm_goto (Y := YX6_advances) (pc := 176) dX6_advances_176 rfl ?_
          refine jm_put (Y := YX6_advances) (pc := 180) dX6_advances_180 fw_RX6_95 rfl (by decide) rfl ?_
          rw [PS_u11]
          refine jm_ald_n (Y := YX6_advances) (pc := 183) (i := 0) dX6_advances_183 rfl rfl ?_
          refine jm_dup (Y := YX6_advances) (pc := 184) dX6_advances_184 rfl ?_
          refine jm_getE (Y := YX6_advances) (pc := 185) dX6_advances_185 fw_RX6_83 rfl (by decide) rfl (PS_9) ?_
          refine jm_ald_n (Y := YX6_advances) (pc := 188) (i := 0) dX6_advances_188 rfl rfl ?_
          refine jm_getE (Y := YX6_advances) (pc := 189) dX6_advances_189 fw_RX6_95 rfl (by decide) rfl (PS_11) ?_
          refine jm_if_neN (Y := YX6_advances) (pc := 192) dX6_advances_192 rfl (by omega) (fun h_192 => ?_) (fun h_192 => by exfalso; omega)
          refine jm_icN (Y := YX6_advances) (pc := 199) 1 dX6_advances_199 rfl ?_
          refine jm_addN (Y := YX6_advances) (pc := 200) dX6_advances_200 ?_
          refine jm_put (Y := YX6_advances) (pc := 201) dX6_advances_201 fw_RX6_83 rfl (by decide) rfl ?_
          rw [PS_u9]
          refine jm_retv (Y := YX6_advances) (pc := 204) (st := []) dX6_advances_204 rfl ?_
          rw [s_tl_1 hz hq, s_tv_1 hz hq, s_tk_1 hz hq]
          first | exact jm_eqM (by rw [if_pos (by omega)]) | exact jm_eqM (by rw [if_neg (by omega), if_pos (by omega)]) | exact jm_eqM (by rw [if_neg (by omega), if_neg (by omega), if_pos (by omega)]) | exact jm_eqM (by rw [if_neg (by omega), if_neg (by omega), if_neg (by omega)]) | fail
      · refine jm_icN (Y := YX6_advances) (pc := 165) 3 dX6_advances_165 rfl ?_
        refine jm_goto (Y := YX6_advances) (pc := 166) dX6_advances_166 rfl ?_
        refine jm_put (Y := YX6_advances) (pc := 180) dX6_advances_180 fw_RX6_95 rfl (by decide) rfl ?_
        rw [PS_u11]
        refine jm_ald_n (Y := YX6_advances) (pc := 183) (i := 0) dX6_advances_183 rfl rfl ?_
        refine jm_dup (Y := YX6_advances) (pc := 184) dX6_advances_184 rfl ?_
        refine jm_getE (Y := YX6_advances) (pc := 185) dX6_advances_185 fw_RX6_83 rfl (by decide) rfl (PS_9) ?_
        refine jm_ald_n (Y := YX6_advances) (pc := 188) (i := 0) dX6_advances_188 rfl rfl ?_
        refine jm_getE (Y := YX6_advances) (pc := 189) dX6_advances_189 fw_RX6_95 rfl (by decide) rfl (PS_11) ?_
        refine jm_if_neN (Y := YX6_advances) (pc := 192) dX6_advances_192 rfl (by omega) (fun h_192 => ?_) (fun h_192 => by exfalso; omega)
        refine jm_icN (Y := YX6_advances) (pc := 199) 1 dX6_advances_199 rfl ?_
        refine jm_addN (Y := YX6_advances) (pc := 200) dX6_advances_200 ?_
        refine jm_put (Y := YX6_advances) (pc := 201) dX6_advances_201 fw_RX6_83 rfl (by decide) rfl ?_
        rw [PS_u9]
        refine jm_retv (Y := YX6_advances) (pc := 204) (st := []) dX6_advances_204 rfl ?_
        rw [s_tl_1 hz hq, s_tv_1 hz hq, s_tk_1 hz hq]
        first | exact jm_eqM (by rw [if_pos (by omega)]) | exact jm_eqM (by rw [if_neg (by omega), if_pos (by omega)]) | exact jm_eqM (by rw [if_neg (by omega), if_neg (by omega), if_pos (by omega)]) | exact jm_eqM (by rw [if_neg (by omega), if_neg (by omega), if_neg (by omega)]) | fail
    · refine jm_icN (Y := YX6_advances) (pc := 155) 1 dX6_advances_155 rfl ?_
      refine jm_goto (Y := YX6_advances) (pc := 156) dX6_advances_156 rfl ?_
      refine jm_put (Y := YX6_advances) (pc := 180) dX6_advances_180 fw_RX6_95 rfl (by decide) rfl ?_
      rw [PS_u11]
      refine jm_ald_n (Y := YX6_advances) (pc := 183) (i := 0) dX6_advances_183 rfl rfl ?_
      refine jm_dup (Y := YX6_advances) (pc := 184) dX6_advances_184 rfl ?_
      refine jm_getE (Y := YX6_advances) (pc := 185) dX6_advances_185 fw_RX6_83 rfl (by decide) rfl (PS_9) ?_
      refine jm_ald_n (Y := YX6_advances) (pc := 188) (i := 0) dX6_advances_188 rfl rfl ?_
      refine jm_getE (Y := YX6_advances) (pc := 189) dX6_advances_189 fw_RX6_95 rfl (by decide) rfl (PS_11) ?_
      refine jm_if_neN (Y := YX6_advances) (pc := 192) dX6_advances_192 rfl (by omega) (fun h_192 => ?_) (fun h_192 => by exfalso; omega)
      refine jm_icN (Y := YX6_advances) (pc := 199) 1 dX6_advances_199 rfl ?_
      refine jm_addN (Y := YX6_advances) (pc := 200) dX6_advances_200 ?_
      refine jm_put (Y := YX6_advances) (pc := 201) dX6_advances_201 fw_RX6_83 rfl (by decide) rfl ?_
      rw [PS_u9]
      refine jm_retv (Y := YX6_advances) (pc := 204) (st := []) dX6_advances_204 rfl ?_
      rw [s_tl_1 hz hq, s_tv_1 hz hq, s_tk_1 hz hq]
      first | exact jm_eqM (by rw [if_pos (by omega)]) | exact jm_eqM (by rw [if_neg (by omega), if_pos (by omega)]) | exact jm_eqM (by rw [if_neg (by omega), if_neg (by omega), if_pos (by omega)]) | exact jm_eqM (by rw [if_neg (by omega), if_neg (by omega), if_neg (by omega)]) | fail
  · refine jm_ald_n (Y := YX6_advances) (pc := 33) (i := 0) dX6_advances_33 rfl rfl ?_
    refine jm_icN (Y := YX6_advances) (pc := 34) 0 dX6_advances_34 rfl ?_
    refine jm_put (Y := YX6_advances) (pc := 35) dX6_advances_35 fw_RX6_92 rfl (by decide) rfl ?_
    rw [PS_u12]
    have hd := s_d_s (t := t) (n := n) (p := q) hq (by omega)
    exact c_adv0 t n M hn hb h16 h6 a7 a8 a11 q hq (nI (t q)) (n + 2) 0 (by omega) rfl (show 0 < 0 + s_d t n q by omega) (by omega)
theorem c_advE (t : Nat → Nat) (n : Nat) (M : jm_M) (hn : n ≤ 110) (hb : ∀ i, t i ≤ 255) (h16 : ∀ i, i < n → M 16 i = nI (t i)) (h6 : M 11 6 = nI n) (a7 a8 a9 a10 a11 a12 : Int32) : jm_J none YX6_advances 0 [some (.ref 11), none] [] (PS M a7 a8 (nI n) a10 a11 a12) (jm_is none (PS M a7 a8 (nI (n + s_tl t n n)) (nI n) (nI (s_tk t n n)) (s_tv t n n))) := by
  have e5 : (-1 : Int32).toInt = -1 := by decide
  have hz := s_d_n t n
  refine jm_ald_n (Y := YX6_advances) (pc := 0) (i := 0) dX6_advances_0 rfl rfl ?_
  refine jm_ald_n (Y := YX6_advances) (pc := 1) (i := 0) dX6_advances_1 rfl rfl ?_
  refine jm_getE (Y := YX6_advances) (pc := 2) dX6_advances_2 fw_RX6_83 rfl (by decide) rfl (PS_9) ?_
  refine jm_put (Y := YX6_advances) (pc := 5) dX6_advances_5 fw_RX6_86 rfl (by decide) rfl ?_
  rw [PS_u10]
  refine jm_ald_n (Y := YX6_advances) (pc := 8) (i := 0) dX6_advances_8 rfl rfl ?_
  refine jm_ald_n (Y := YX6_advances) (pc := 9) (i := 0) dX6_advances_9 rfl rfl ?_
  refine jm_getE (Y := YX6_advances) (pc := 10) dX6_advances_10 fw_RX6_83 rfl (by decide) rfl (PS_9) ?_
  refine jm_V1ie (Y := YX6_advances) (pc := 13) dX6_advances_13 lk_RX6_89 ⟨_, rfl⟩ rfl rfl (by decide) (Nat.le_of_ble_eq_true rfl) ⟨by decide, by decide⟩ ((by have h9 := c_byteAt t n M hn hb h16 h6 a7 a8 (nI n) (nI n) a11 a12 n (by omega); rw [show s_by t n n = -1 from if_neg (Nat.lt_irrefl n)] at h9; exact h9)) ?_
  refine jm_ist_n (Y := YX6_advances) (pc := 16) (i := 1) (ls' := [_, _]) dX6_advances_16 rfl (Nat.le_of_ble_eq_true rfl) rfl rfl ?_
  refine jm_ald_n (Y := YX6_advances) (pc := 17) (i := 0) dX6_advances_17 rfl rfl ?_
  refine jm_ild_n (Y := YX6_advances) (pc := 18) (i := 1) dX6_advances_18 rfl rfl ?_
  refine jm_put (Y := YX6_advances) (pc := 19) dX6_advances_19 fw_RX6_92 rfl (by decide) rfl ?_
  rw [PS_u12]
  refine jm_ild_n (Y := YX6_advances) (pc := 22) (i := 1) dX6_advances_22 rfl rfl ?_
  refine jm_bpN (Y := YX6_advances) (pc := 23) 48 dX6_advances_23 rfl ?_
  refine jm_bpN (Y := YX6_advances) (pc := 25) 57 dX6_advances_25 rfl ?_
  refine jm_S3ie (Y := YX6_advances) (pc := 27) dX6_advances_27 lk_RX6_53 ⟨_, rfl⟩ rfl rfl rfl (by decide) (Nat.le_of_ble_eq_true rfl) ⟨by decide, by decide⟩ (c_inN _ _ _ _ (by decide) (by decide)) ?_
  refine jm_if_eqB (Y := YX6_advances) (pc := 30) dX6_advances_30 rfl (fun _ => ?_) (fun h => by exfalso; omega)
  refine jm_ald_n (Y := YX6_advances) (pc := 135) (i := 0) dX6_advances_135 rfl rfl ?_
  refine jm_ild_n (Y := YX6_advances) (pc := 136) (i := 1) dX6_advances_136 rfl rfl ?_
  refine jm_if_ge (Y := YX6_advances) (pc := 137) dX6_advances_137 rfl (fun h => absurd h (by decide)) (fun _ => ?_)
  refine jm_icN (Y := YX6_advances) (pc := 140) 0 dX6_advances_140 rfl ?_
  refine jm_goto (Y := YX6_advances) (pc := 141) dX6_advances_141 rfl ?_
  refine jm_put (Y := YX6_advances) (pc := 180) dX6_advances_180 fw_RX6_95 rfl (by decide) rfl ?_
  rw [PS_u11]
  refine jm_ald_n (Y := YX6_advances) (pc := 183) (i := 0) dX6_advances_183 rfl rfl ?_
  refine jm_dup (Y := YX6_advances) (pc := 184) dX6_advances_184 rfl ?_
  refine jm_getE (Y := YX6_advances) (pc := 185) dX6_advances_185 fw_RX6_83 rfl (by decide) rfl (PS_9) ?_
  refine jm_ald_n (Y := YX6_advances) (pc := 188) (i := 0) dX6_advances_188 rfl rfl ?_
  refine jm_getE (Y := YX6_advances) (pc := 189) dX6_advances_189 fw_RX6_95 rfl (by decide) rfl (PS_11) ?_
  refine jm_if_neN (Y := YX6_advances) (pc := 192) dX6_advances_192 rfl (by omega) (fun h_192 => by exfalso; omega) (fun h_192 => ?_)
  refine jm_icN (Y := YX6_advances) (pc := 195) 0 dX6_advances_195 rfl ?_
  refine jm_goto (Y := YX6_advances) (pc := 196) dX6_advances_196 rfl ?_
  refine jm_addN (Y := YX6_advances) (pc := 200) dX6_advances_200 ?_
  refine jm_put (Y := YX6_advances) (pc := 201) dX6_advances_201 fw_RX6_83 rfl (by decide) rfl ?_
  rw [PS_u9]
  refine jm_retv (Y := YX6_advances) (pc := 204) (st := []) dX6_advances_204 rfl ?_
  exact jm_eqM (by unfold s_tl s_tv s_tk; rw [hz]; simp)
theorem c_advances (t : Nat → Nat) (n : Nat) (M : jm_M) (hn : n ≤ 110) (hb : ∀ i, t i ≤ 255) (h16 : ∀ i, i < n → M 16 i = nI (t i)) (h6 : M 11 6 = nI n) (a7 a8 a9 a10 a11 a12 : Int32) (q : Nat) (hq : q ≤ n) : jm_J none YX6_advances 0 [some (.ref 11), none] [] (PS M a7 a8 (nI q) a10 a11 a12) (jm_is none (PS M a7 a8 (nI (q + s_tl t n q)) (nI q) (nI (s_tk t n q)) (s_tv t n q))) := by
  rcases Nat.lt_or_ge q n with h | h
  · exact c_advT t n M hn hb h16 h6 a7 a8 a9 a10 a11 a12 q h
  · have e : q = n := by omega
    subst e
    exact c_advE t q M hn hb h16 h6 a7 a8 a9 a10 a11 a12
def PT (M : jm_M) (t : Nat → Nat) (n : Nat) (fk : Int32) (s : Nat × Nat) : jm_M := PS M (if s.2 = 0 then fk else nI s.2) (if s.2 = 0 then -1 else nI s.1) (nI (s.1 + s_tl t n s.1)) (nI s.1) (nI (s_tk t n s.1)) (s_tv t n s.1)
def x_tk (t : Nat → Nat) (n : Nat) (ok : Bool) (kd : Nat) (s : Nat × Nat) : Nat × Nat := if s.2 = 0 then (if ok = true then (s.1 + s_tl t n s.1, 0) else (s.1, kd)) else s
def x_tv (t : Nat → Nat) (n : Nat) (ok : Bool) (s : Nat × Nat) : Int32 := if s.2 = 0 ∧ ok = true then s_tv t n s.1 else nI 0
def x_v (t : Nat → Nat) (n p : Nat) : Nat := s_nv t p (s_d t n p)
def x_fg (t : Nat → Nat) (n lo hi : Nat) (s : Nat × Nat) : Nat × Nat × Nat := if s.2 = 0 then (if s_tk t n s.1 = 2 then (if lo ≤ x_v t n s.1 ∧ x_v t n s.1 < hi then (x_v t n s.1, s.1 + s_tl t n s.1, 0) else (0, s.1, 2)) else (0, s.1, 1)) else (0, s)
def x_fo (t : Nat → Nat) (n lo hi : Nat) (s : Nat × Nat) : Nat × Nat × Nat := x_fg t n lo hi (x_tk t n (decide (s_tk t n s.1 = 3)) 1 s)
def x_kN (c : Nat) : Nat := if c = 115 then 1 else if c = 104 then 2 else if c = 102 then 3 else if c = 109 then 4 else if c = 101 then 5 else 0
theorem PT_8 {M : jm_M} {t : Nat → Nat} {n : Nat} {fk : Int32} {s : Nat × Nat} : PT M t n fk s 11 8 = if s.2 = 0 then -1 else nI s.1 := rfl
theorem PT_10 {M : jm_M} {t : Nat → Nat} {n : Nat} {fk : Int32} {s : Nat × Nat} : PT M t n fk s 11 10 = nI s.1 := rfl
theorem PT_11 {M : jm_M} {t : Nat → Nat} {n : Nat} {fk : Int32} {s : Nat × Nat} : PT M t n fk s 11 11 = nI (s_tk t n s.1) := rfl
theorem PT_12 {M : jm_M} {t : Nat → Nat} {n : Nat} {fk : Int32} {s : Nat × Nat} : PT M t n fk s 11 12 = s_tv t n s.1 := rfl
theorem s_tk2 {t : Nat → Nat} {n p : Nat} (hb : ∀ i, t i ≤ 255) (h : s_tk t n p = 2) : s_tv t n p = nI (x_v t n p) ∧ x_v t n p ≤ 5000 := by
  have hd : 0 < s_d t n p := by
    unfold s_tk at h
    by_cases z : 0 < s_d t n p
    · exact z
    · rw [if_neg z] at h
      exfalso
      repeat' split at h
      all_goals omega
  refine ⟨by unfold s_tv x_v; rw [if_pos hd], ?_⟩
  unfold x_v s_nv
  have := hb p
  have := hb (p + 1)
  split
  · omega
  · split <;> omega
theorem s_tv_l {t : Nat → Nat} {n p : Nat} (h : s_tk t n p = 1) : s_tv t n p = nI (t p) := by
  have hd : ¬ 0 < s_d t n p := fun z => by
    unfold s_tk at h
    rw [if_pos z] at h
    split at h <;> omega
  have hp : ¬ n ≤ p := fun z => by
    unfold s_tk at h
    rw [if_neg hd, if_pos z] at h
    omega
  unfold s_tv
  rw [if_neg hd, if_neg hp]
theorem c_isWell0 (t : Nat → Nat) (n : Nat) (M : jm_M) (hn : n ≤ 110) (hb : ∀ i, t i ≤ 255) (h16 : ∀ i, i < n → M 16 i = nI (t i)) (h6 : M 11 6 = nI n) (fk : Int32) (s : Nat × Nat) (hs : s.2 = 0) : jm_J none YX6_isWell 0 [some (.ref 11)] [] (PT M t n fk s) (jm_is (some (.int (jm_b (s.2 = 0)))) (PT M t n fk s)) := by
  refine jm_ald_n (Y := YX6_isWell) (pc := 0) (i := 0) dX6_isWell_0 rfl rfl ?_
  refine jm_getE (Y := YX6_isWell) (pc := 1) dX6_isWell_1 fw_RX6_98 rfl (by decide) rfl ((by rw [PT_8, if_pos hs])) ?_
  refine jm_if_ge (Y := YX6_isWell) (pc := 4) dX6_isWell_4 rfl (fun h => absurd h (by decide)) (fun _ => ?_)
  refine jm_icN (Y := YX6_isWell) (pc := 7) 1 dX6_isWell_7 rfl ?_
  refine jm_goto (Y := YX6_isWell) (pc := 8) dX6_isWell_8 rfl ?_
  refine jm_ret (Y := YX6_isWell) (pc := 12) (st := []) dX6_isWell_12 rfl rfl ?_
  exact jm_bt hs
theorem c_isWell1 (t : Nat → Nat) (n : Nat) (M : jm_M) (hn : n ≤ 110) (hb : ∀ i, t i ≤ 255) (h16 : ∀ i, i < n → M 16 i = nI (t i)) (h6 : M 11 6 = nI n) (fk : Int32) (s : Nat × Nat) (hp : s.1 ≤ n) (hs : ¬ s.2 = 0) : jm_J none YX6_isWell 0 [some (.ref 11)] [] (PT M t n fk s) (jm_is (some (.int (jm_b (s.2 = 0)))) (PT M t n fk s)) := by
  refine jm_ald_n (Y := YX6_isWell) (pc := 0) (i := 0) dX6_isWell_0 rfl rfl ?_
  refine jm_getE (Y := YX6_isWell) (pc := 1) dX6_isWell_1 fw_RX6_98 rfl (by decide) rfl ((show PT M t n fk s 11 8 = nI s.1 by rw [PT_8, if_neg hs])) ?_
  refine jm_if_geN (Y := YX6_isWell) (pc := 4) dX6_isWell_4 rfl (by omega) ?_
  refine jm_icN (Y := YX6_isWell) (pc := 11) 0 dX6_isWell_11 rfl ?_
  refine jm_ret (Y := YX6_isWell) (pc := 12) (st := []) dX6_isWell_12 rfl rfl ?_
  exact jm_bf hs
theorem c_isWell (t : Nat → Nat) (n : Nat) (M : jm_M) (hn : n ≤ 110) (hb : ∀ i, t i ≤ 255) (h16 : ∀ i, i < n → M 16 i = nI (t i)) (h6 : M 11 6 = nI n) (fk : Int32) (s : Nat × Nat) (hp : s.1 ≤ n) : jm_J none YX6_isWell 0 [some (.ref 11)] [] (PT M t n fk s) (jm_is (some (.int (jm_b (s.2 = 0)))) (PT M t n fk s)) := by
  by_cases hs : s.2 = 0
  · exact c_isWell0 t n M hn hb h16 h6 fk s hs
  · exact c_isWell1 t n M hn hb h16 h6 fk s hp hs
theorem c_takes (t : Nat → Nat) (n : Nat) (M : jm_M) (hn : n ≤ 110) (hb : ∀ i, t i ≤ 255) (h16 : ∀ i, i < n → M 16 i = nI (t i)) (h6 : M 11 6 = nI n) (fk : Int32) (s : Nat × Nat) (hp : s.1 ≤ n) (ok : Bool) (b : Int32) (eb : b = jm_b (ok = true)) (kd : Nat) (hk : kd ≠ 0) : jm_J none YX6_takes 0 [some (.ref 11), some (.int b), some (.int (nI kd)), none] [] (PT M t n fk s) (jm_is (some (.int (x_tv t n ok s))) (PT M t n fk (x_tk t n ok kd s))) := by
  subst eb
  refine jm_ald_n (Y := YX6_takes) (pc := 0) (i := 0) dX6_takes_0 rfl rfl ?_
  refine jm_V0ie (Y := YX6_takes) (pc := 1) dX6_takes_1 lk_RX6_101 ⟨_, rfl⟩ rfl (by decide) (Nat.le_of_ble_eq_true rfl) ⟨by decide, by decide⟩ (c_isWell t n M hn hb h16 h6 fk s hp) ?_
  refine jm_if_neB (Y := YX6_takes) (pc := 4) dX6_takes_4 rfl (fun h_4 => ?_) (fun h_4 => ?_)
  · refine jm_ild_n (Y := YX6_takes) (pc := 9) (i := 1) dX6_takes_9 rfl rfl ?_
    refine jm_if_neB (Y := YX6_takes) (pc := 10) dX6_takes_10 rfl (fun h_10 => ?_) (fun h_10 => ?_)
    · refine jm_ald_n (Y := YX6_takes) (pc := 28) (i := 0) dX6_takes_28 rfl rfl ?_
      refine jm_getE (Y := YX6_takes) (pc := 29) dX6_takes_29 fw_RX6_92 rfl (by decide) rfl (PT_12) ?_
      refine jm_ist_n (Y := YX6_takes) (pc := 32) (i := 3) (ls' := [_, _, _, _]) dX6_takes_32 rfl (Nat.le_of_ble_eq_true rfl) rfl rfl ?_
      refine jm_ald_n (Y := YX6_takes) (pc := 33) (i := 0) dX6_takes_33 rfl rfl ?_
      refine jm_V0ve (Y := YX6_takes) (pc := 34) dX6_takes_34 lk_RX6_108 rfl rfl (by decide) (Nat.le_of_ble_eq_true rfl) ⟨by decide, by decide⟩ (c_advances t n M hn hb h16 h6 (if s.2 = 0 then fk else nI s.2) (if s.2 = 0 then -1 else nI s.1) (nI (s.1 + s_tl t n s.1)) (nI s.1) (nI (s_tk t n s.1)) (s_tv t n s.1) (s.1 + s_tl t n s.1) (s_tl_le hp)) ?_
      refine jm_ild_n (Y := YX6_takes) (pc := 37) (i := 3) dX6_takes_37 rfl rfl ?_
      refine jm_ret (Y := YX6_takes) (pc := 38) (st := []) dX6_takes_38 rfl rfl ?_
      first | (unfold x_tk x_tv; rw [if_neg h_4, if_neg (fun z => h_4 z.1)]; exact ⟨rfl, rfl⟩) | (unfold x_tk x_tv; rw [if_pos h_4, if_neg h_10, if_neg (fun z => h_10 z.2)]; refine ⟨rfl, ?_⟩; unfold PT; simp only [hk, if_false]) | (unfold x_tk x_tv; rw [if_pos h_4, if_pos h_10, if_pos ⟨h_4, h_10⟩]; refine ⟨rfl, ?_⟩; unfold PT; rw [if_pos h_4, if_pos h_4]; rfl) | fail
    · refine jm_ald_n (Y := YX6_takes) (pc := 13) (i := 0) dX6_takes_13 rfl rfl ?_
      refine jm_ald_n (Y := YX6_takes) (pc := 14) (i := 0) dX6_takes_14 rfl rfl ?_
      refine jm_getE (Y := YX6_takes) (pc := 15) dX6_takes_15 fw_RX6_86 rfl (by decide) rfl (PT_10) ?_
      rw [show PT M t n fk s = PS M (if s.2 = 0 then fk else nI s.2) (if s.2 = 0 then -1 else nI s.1) (nI (s.1 + s_tl t n s.1)) (nI s.1) (nI (s_tk t n s.1)) (s_tv t n s.1) from rfl]
      refine jm_put (Y := YX6_takes) (pc := 18) dX6_takes_18 fw_RX6_98 rfl (by decide) rfl ?_
      rw [PS_u8]
      refine jm_ald_n (Y := YX6_takes) (pc := 21) (i := 0) dX6_takes_21 rfl rfl ?_
      refine jm_ild_n (Y := YX6_takes) (pc := 22) (i := 2) dX6_takes_22 rfl rfl ?_
      refine jm_put (Y := YX6_takes) (pc := 23) dX6_takes_23 fw_RX6_105 rfl (by decide) rfl ?_
      rw [PS_u7]
      refine jm_icN (Y := YX6_takes) (pc := 26) 0 dX6_takes_26 rfl ?_
      refine jm_ret (Y := YX6_takes) (pc := 27) (st := []) dX6_takes_27 rfl rfl ?_
      first | (unfold x_tk x_tv; rw [if_neg h_4, if_neg (fun z => h_4 z.1)]; exact ⟨rfl, rfl⟩) | (unfold x_tk x_tv; rw [if_pos h_4, if_neg h_10, if_neg (fun z => h_10 z.2)]; refine ⟨rfl, ?_⟩; unfold PT; simp only [hk, if_false]) | (unfold x_tk x_tv; rw [if_pos h_4, if_pos h_10, if_pos ⟨h_4, h_10⟩]; refine ⟨rfl, ?_⟩; unfold PT; rw [if_pos h_4, if_pos h_4]; rfl) | fail
  · refine jm_icN (Y := YX6_takes) (pc := 7) 0 dX6_takes_7 rfl ?_
    refine jm_ret (Y := YX6_takes) (pc := 8) (st := []) dX6_takes_8 rfl rfl ?_
    first | (unfold x_tk x_tv; rw [if_neg h_4, if_neg (fun z => h_4 z.1)]; exact ⟨rfl, rfl⟩) | (unfold x_tk x_tv; rw [if_pos h_4, if_neg h_10, if_neg (fun z => h_10 z.2)]; refine ⟨rfl, ?_⟩; unfold PT; simp only [hk, if_false]) | (unfold x_tk x_tv; rw [if_pos h_4, if_pos h_10, if_pos ⟨h_4, h_10⟩]; refine ⟨rfl, ?_⟩; unfold PT; rw [if_pos h_4, if_pos h_4]; rfl) | fail
theorem s_tk_le (t : Nat → Nat) (n p : Nat) : s_tk t n p ≤ 5 := by unfold s_tk; (repeat' split) <;> omega
theorem x_tk_p {t : Nat → Nat} {n : Nat} {ok : Bool} {kd : Nat} {s : Nat × Nat} (h : s.1 ≤ n) : (x_tk t n ok kd s).1 ≤ n := by
  unfold x_tk
  have := s_tl_le (t := t) h
  (repeat' split) <;> first | exact h | exact this
theorem x_fg_p {t : Nat → Nat} {n lo hi : Nat} {s : Nat × Nat} (h : s.1 ≤ n) : (x_fg t n lo hi s).2.1 ≤ n := by
  unfold x_fg
  have := s_tl_le (t := t) h
  (repeat' split) <;> first | exact h | exact this
theorem x_fg_0 {t : Nat → Nat} {n lo hi : Nat} {s : Nat × Nat} (h : ¬ s.2 = 0) : x_fg t n lo hi s = (0, s) := if_neg h
theorem x_fg_1 {t : Nat → Nat} {n lo hi : Nat} {s : Nat × Nat} (h : s.2 = 0) (h1 : ¬ s_tk t n s.1 = 2) : x_fg t n lo hi s = (0, s.1, 1) := by unfold x_fg; rw [if_pos h, if_neg h1]
theorem x_fg_2 {t : Nat → Nat} {n lo hi : Nat} {s : Nat × Nat} (h : s.2 = 0) (h1 : s_tk t n s.1 = 2) : x_fg t n lo hi s = if lo ≤ x_v t n s.1 ∧ x_v t n s.1 < hi then (x_v t n s.1, s.1 + s_tl t n s.1, 0) else (0, s.1, 2) := by unfold x_fg; rw [if_pos h, if_pos h1]
theorem x_tk_0 {t : Nat → Nat} {n kd : Nat} {ok : Bool} {s : Nat × Nat} (h : ¬ s.2 = 0) : x_tk t n ok kd s = s := if_neg h
theorem x_tk_1 {t : Nat → Nat} {n kd : Nat} {ok : Bool} {s : Nat × Nat} (h : s.2 = 0) (h1 : ok = true) : x_tk t n ok kd s = (s.1 + s_tl t n s.1, 0) := by unfold x_tk; rw [if_pos h, if_pos h1]
theorem x_tk_2 {t : Nat → Nat} {n kd : Nat} {ok : Bool} {s : Nat × Nat} (h : s.2 = 0) (h1 : ¬ ok = true) : x_tk t n ok kd s = (s.1, kd) := by unfold x_tk; rw [if_pos h, if_neg h1]
theorem x_in {t : Nat → Nat} {n lo hi p : Nat} {hv : Int32} (hb : ∀ i, t i ≤ 255) (hl : lo < 100) (e : hv.toInt = (hi : Int) - 1) (h : s_tk t n p = 2) : (nI lo ≤ s_tv t n p ∧ s_tv t n p ≤ hv) ↔ (lo ≤ x_v t n p ∧ x_v t n p < hi) := by
  obtain ⟨h1, h2⟩ := s_tk2 hb h
  rw [h1, Int32.le_iff_toInt_le, Int32.le_iff_toInt_le, e, jm_tI (by omega), jm_tI (by omega)]
  omega
theorem c_figure (t : Nat → Nat) (n : Nat) (M : jm_M) (hn : n ≤ 110) (hb : ∀ i, t i ≤ 255) (h16 : ∀ i, i < n → M 16 i = nI (t i)) (h6 : M 11 6 = nI n) (fk : Int32) (s : Nat × Nat) (hp : s.1 ≤ n) (lo hi : Nat) (hl : lo < 100) (hv : Int32) (ehv : hv.toInt = (hi : Int) - 1) : jm_J none YX6_figure 0 [some (.ref 11), some (.int (nI lo)), some (.int hv)] [] (PT M t n fk s) (jm_is (some (.int (nI (x_fg t n lo hi s).1))) (PT M t n fk ((x_fg t n lo hi s).2))) := by
  have k5 := s_tk_le t n s.1
  refine jm_ald_n (Y := YX6_figure) (pc := 0) (i := 0) dX6_figure_0 rfl rfl ?_
  refine jm_V0ie (Y := YX6_figure) (pc := 1) dX6_figure_1 lk_RX6_101 ⟨_, rfl⟩ rfl (by decide) (Nat.le_of_ble_eq_true rfl) ⟨by decide, by decide⟩ (c_isWell t n M hn hb h16 h6 fk s hp) ?_
  refine jm_if_eqB (Y := YX6_figure) (pc := 4) dX6_figure_4 rfl (fun h_4 => ?_) (fun h_4 => ?_)
  · refine jm_ald_n (Y := YX6_figure) (pc := 22) (i := 0) dX6_figure_22 rfl rfl ?_
    refine jm_ald_n (Y := YX6_figure) (pc := 23) (i := 0) dX6_figure_23 rfl rfl ?_
    refine jm_getE (Y := YX6_figure) (pc := 24) dX6_figure_24 fw_RX6_92 rfl (by decide) rfl (PT_12) ?_
    refine jm_ild_n (Y := YX6_figure) (pc := 27) (i := 1) dX6_figure_27 rfl rfl ?_
    refine jm_ild_n (Y := YX6_figure) (pc := 28) (i := 2) dX6_figure_28 rfl rfl ?_
    refine jm_S3ie (Y := YX6_figure) (pc := 29) dX6_figure_29 lk_RX6_53 ⟨_, rfl⟩ rfl rfl rfl (by decide) (Nat.le_of_ble_eq_true rfl) ⟨by decide, by decide⟩ (c_in _ _ _ _) ?_
    refine jm_icN (Y := YX6_figure) (pc := 32) 2 dX6_figure_32 rfl ?_
    refine jm_V2ie (Y := YX6_figure) (pc := 33) dX6_figure_33 lk_RX6_111 ⟨_, rfl⟩ rfl rfl rfl (by decide) (Nat.le_of_ble_eq_true rfl) ⟨by decide, by decide⟩ (c_takes t n M hn hb h16 h6 fk (s) hp (decide (nI lo ≤ s_tv t n s.1 ∧ s_tv t n s.1 ≤ hv)) (jm_b (nI lo ≤ s_tv t n s.1 ∧ s_tv t n s.1 ≤ hv)) (jm_b_c decide_eq_true_iff.symm) 2 (by decide)) ?_
    refine jm_ret (Y := YX6_figure) (pc := 36) (st := []) dX6_figure_36 rfl rfl ?_
    first
      | (rw [x_fg_1 h_4 h_12, x_tk_2 h_4 (by decide)]; unfold x_tv; rw [if_neg (fun z => absurd z.2 (by decide))]; exact ⟨rfl, rfl⟩)
      | (rw [x_fg_0 h_4, x_tk_0 h_4]; unfold x_tv; rw [if_neg (fun z => h_4 z.1)]; exact ⟨rfl, rfl⟩)
      | (rw [x_fg_2 h_4 h_12]; rcases Classical.em (lo ≤ x_v t n s.1 ∧ x_v t n s.1 < hi) with hin | hin; (rw [if_pos hin, x_tk_1 h_4 (decide_eq_true ((x_in hb hl ehv h_12).mpr hin))]; unfold x_tv; rw [if_pos ⟨h_4, decide_eq_true ((x_in hb hl ehv h_12).mpr hin)⟩]; exact ⟨by rw [(s_tk2 hb h_12).1], rfl⟩); (rw [if_neg hin, x_tk_2 h_4 (fun z => hin ((x_in hb hl ehv h_12).mp (of_decide_eq_true z)))]; unfold x_tv; rw [if_neg (fun z => hin ((x_in hb hl ehv h_12).mp (of_decide_eq_true z.2)))]; exact ⟨rfl, rfl⟩))
      | fail
  · refine jm_ald_n (Y := YX6_figure) (pc := 7) (i := 0) dX6_figure_7 rfl rfl ?_
    refine jm_getE (Y := YX6_figure) (pc := 8) dX6_figure_8 fw_RX6_95 rfl (by decide) rfl (PT_11) ?_
    refine jm_icN (Y := YX6_figure) (pc := 11) 2 dX6_figure_11 rfl ?_
    refine jm_icmp_eqN (Y := YX6_figure) (pc := 12) dX6_figure_12 rfl (by omega) (by omega) (fun h_12 => ?_) (fun h_12 => ?_)
    · refine jm_ald_n (Y := YX6_figure) (pc := 22) (i := 0) dX6_figure_22 rfl rfl ?_
      refine jm_ald_n (Y := YX6_figure) (pc := 23) (i := 0) dX6_figure_23 rfl rfl ?_
      refine jm_getE (Y := YX6_figure) (pc := 24) dX6_figure_24 fw_RX6_92 rfl (by decide) rfl (PT_12) ?_
      refine jm_ild_n (Y := YX6_figure) (pc := 27) (i := 1) dX6_figure_27 rfl rfl ?_
      refine jm_ild_n (Y := YX6_figure) (pc := 28) (i := 2) dX6_figure_28 rfl rfl ?_
      refine jm_S3ie (Y := YX6_figure) (pc := 29) dX6_figure_29 lk_RX6_53 ⟨_, rfl⟩ rfl rfl rfl (by decide) (Nat.le_of_ble_eq_true rfl) ⟨by decide, by decide⟩ (c_in _ _ _ _) ?_
      refine jm_icN (Y := YX6_figure) (pc := 32) 2 dX6_figure_32 rfl ?_
      refine jm_V2ie (Y := YX6_figure) (pc := 33) dX6_figure_33 lk_RX6_111 ⟨_, rfl⟩ rfl rfl rfl (by decide) (Nat.le_of_ble_eq_true rfl) ⟨by decide, by decide⟩ (c_takes t n M hn hb h16 h6 fk (s) hp (decide (nI lo ≤ s_tv t n s.1 ∧ s_tv t n s.1 ≤ hv)) (jm_b (nI lo ≤ s_tv t n s.1 ∧ s_tv t n s.1 ≤ hv)) (jm_b_c decide_eq_true_iff.symm) 2 (by decide)) ?_
      refine jm_ret (Y := YX6_figure) (pc := 36) (st := []) dX6_figure_36 rfl rfl ?_
      first
        | (rw [x_fg_1 h_4 h_12, x_tk_2 h_4 (by decide)]; unfold x_tv; rw [if_neg (fun z => absurd z.2 (by decide))]; exact ⟨rfl, rfl⟩)
        | (rw [x_fg_0 h_4, x_tk_0 h_4]; unfold x_tv; rw [if_neg (fun z => h_4 z.1)]; exact ⟨rfl, rfl⟩)
        | (rw [x_fg_2 h_4 h_12]; rcases Classical.em (lo ≤ x_v t n s.1 ∧ x_v t n s.1 < hi) with hin | hin; (rw [if_pos hin, x_tk_1 h_4 (decide_eq_true ((x_in hb hl ehv h_12).mpr hin))]; unfold x_tv; rw [if_pos ⟨h_4, decide_eq_true ((x_in hb hl ehv h_12).mpr hin)⟩]; exact ⟨by rw [(s_tk2 hb h_12).1], rfl⟩); (rw [if_neg hin, x_tk_2 h_4 (fun z => hin ((x_in hb hl ehv h_12).mp (of_decide_eq_true z)))]; unfold x_tv; rw [if_neg (fun z => hin ((x_in hb hl ehv h_12).mp (of_decide_eq_true z.2)))]; exact ⟨rfl, rfl⟩))
        | fail
    · refine jm_ald_n (Y := YX6_figure) (pc := 15) (i := 0) dX6_figure_15 rfl rfl ?_
      refine jm_icN (Y := YX6_figure) (pc := 16) 0 dX6_figure_16 rfl ?_
      refine jm_icN (Y := YX6_figure) (pc := 17) 1 dX6_figure_17 rfl ?_
      refine jm_V2ie (Y := YX6_figure) (pc := 18) dX6_figure_18 lk_RX6_111 ⟨_, rfl⟩ rfl rfl rfl (by decide) (Nat.le_of_ble_eq_true rfl) ⟨by decide, by decide⟩ (c_takes t n M hn hb h16 h6 fk (s) hp false (nI 0) rfl 1 (by decide)) ?_
      refine jm_ret (Y := YX6_figure) (pc := 21) (st := []) dX6_figure_21 rfl rfl ?_
      first
        | (rw [x_fg_1 h_4 h_12, x_tk_2 h_4 (by decide)]; unfold x_tv; rw [if_neg (fun z => absurd z.2 (by decide))]; exact ⟨rfl, rfl⟩)
        | (rw [x_fg_0 h_4, x_tk_0 h_4]; unfold x_tv; rw [if_neg (fun z => h_4 z.1)]; exact ⟨rfl, rfl⟩)
        | (rw [x_fg_2 h_4 h_12]; rcases Classical.em (lo ≤ x_v t n s.1 ∧ x_v t n s.1 < hi) with hin | hin; (rw [if_pos hin, x_tk_1 h_4 (decide_eq_true ((x_in hb hl ehv h_12).mpr hin))]; unfold x_tv; rw [if_pos ⟨h_4, decide_eq_true ((x_in hb hl ehv h_12).mpr hin)⟩]; exact ⟨by rw [(s_tk2 hb h_12).1], rfl⟩); (rw [if_neg hin, x_tk_2 h_4 (fun z => hin ((x_in hb hl ehv h_12).mp (of_decide_eq_true z)))]; unfold x_tv; rw [if_neg (fun z => hin ((x_in hb hl ehv h_12).mp (of_decide_eq_true z.2)))]; exact ⟨rfl, rfl⟩))
        | fail
theorem c_kindOf (M : jm_M) (c : Nat) (hc : c ≤ 255) : jm_J none YX6_kindOf 0 [some (.int (nI c))] [] M (jm_is (some (.int (nI (x_kN c)))) M) := by
  refine jm_ild_n (Y := YX6_kindOf) (pc := 0) (i := 0) dX6_kindOf_0 rfl rfl ?_
  refine jm_bpN (Y := YX6_kindOf) (pc := 1) 115 dX6_kindOf_1 rfl ?_
  refine jm_icmp_neN (Y := YX6_kindOf) (pc := 3) dX6_kindOf_3 rfl (by omega) (by omega) (fun h_3 => ?_) (fun h_3 => ?_)
  · refine jm_ild_n (Y := YX6_kindOf) (pc := 10) (i := 0) dX6_kindOf_10 rfl rfl ?_
    refine jm_bpN (Y := YX6_kindOf) (pc := 11) 104 dX6_kindOf_11 rfl ?_
    refine jm_icmp_neN (Y := YX6_kindOf) (pc := 13) dX6_kindOf_13 rfl (by omega) (by omega) (fun h_13 => ?_) (fun h_13 => ?_)
    · refine jm_ild_n (Y := YX6_kindOf) (pc := 20) (i := 0) dX6_kindOf_20 rfl rfl ?_
      refine jm_bpN (Y := YX6_kindOf) (pc := 21) 102 dX6_kindOf_21 rfl ?_
      refine jm_icmp_neN (Y := YX6_kindOf) (pc := 23) dX6_kindOf_23 rfl (by omega) (by omega) (fun h_23 => ?_) (fun h_23 => ?_)
      · refine jm_ild_n (Y := YX6_kindOf) (pc := 30) (i := 0) dX6_kindOf_30 rfl rfl ?_
        refine jm_bpN (Y := YX6_kindOf) (pc := 31) 109 dX6_kindOf_31 rfl ?_
        refine jm_icmp_neN (Y := YX6_kindOf) (pc := 33) dX6_kindOf_33 rfl (by omega) (by omega) (fun h_33 => ?_) (fun h_33 => ?_)
        · refine jm_ild_n (Y := YX6_kindOf) (pc := 40) (i := 0) dX6_kindOf_40 rfl rfl ?_
          refine jm_bpN (Y := YX6_kindOf) (pc := 41) 101 dX6_kindOf_41 rfl ?_
          refine jm_icmp_neN (Y := YX6_kindOf) (pc := 43) dX6_kindOf_43 rfl (by omega) (by omega) (fun h_43 => ?_) (fun h_43 => ?_)
          · refine jm_icN (Y := YX6_kindOf) (pc := 50) 0 dX6_kindOf_50 rfl ?_
            refine jm_ret (Y := YX6_kindOf) (pc := 51) (st := []) dX6_kindOf_51 rfl rfl ?_
            unfold x_kN
            first | exact jm_eqN (by rw [if_pos (by omega)]) | exact jm_eqN (by rw [if_neg (by omega), if_pos (by omega)]) | exact jm_eqN (by rw [if_neg (by omega), if_neg (by omega), if_pos (by omega)]) | exact jm_eqN (by rw [if_neg (by omega), if_neg (by omega), if_neg (by omega), if_pos (by omega)]) | exact jm_eqN (by rw [if_neg (by omega), if_neg (by omega), if_neg (by omega), if_neg (by omega), if_pos (by omega)]) | exact jm_eqN (by rw [if_neg (by omega), if_neg (by omega), if_neg (by omega), if_neg (by omega), if_neg (by omega)]) | fail
          · refine jm_icN (Y := YX6_kindOf) (pc := 46) 5 dX6_kindOf_46 rfl ?_
            refine jm_goto (Y := YX6_kindOf) (pc := 47) dX6_kindOf_47 rfl ?_
            refine jm_ret (Y := YX6_kindOf) (pc := 51) (st := []) dX6_kindOf_51 rfl rfl ?_
            unfold x_kN
            first | exact jm_eqN (by rw [if_pos (by omega)]) | exact jm_eqN (by rw [if_neg (by omega), if_pos (by omega)]) | exact jm_eqN (by rw [if_neg (by omega), if_neg (by omega), if_pos (by omega)]) | exact jm_eqN (by rw [if_neg (by omega), if_neg (by omega), if_neg (by omega), if_pos (by omega)]) | exact jm_eqN (by rw [if_neg (by omega), if_neg (by omega), if_neg (by omega), if_neg (by omega), if_pos (by omega)]) | exact jm_eqN (by rw [if_neg (by omega), if_neg (by omega), if_neg (by omega), if_neg (by omega), if_neg (by omega)]) | fail
        · refine jm_icN (Y := YX6_kindOf) (pc := 36) 4 dX6_kindOf_36 rfl ?_
          refine jm_goto (Y := YX6_kindOf) (pc := 37) dX6_kindOf_37 rfl ?_
          refine jm_ret (Y := YX6_kindOf) (pc := 51) (st := []) dX6_kindOf_51 rfl rfl ?_
          unfold x_kN
          first | exact jm_eqN (by rw [if_pos (by omega)]) | exact jm_eqN (by rw [if_neg (by omega), if_pos (by omega)]) | exact jm_eqN (by rw [if_neg (by omega), if_neg (by omega), if_pos (by omega)]) | exact jm_eqN (by rw [if_neg (by omega), if_neg (by omega), if_neg (by omega), if_pos (by omega)]) | exact jm_eqN (by rw [if_neg (by omega), if_neg (by omega), if_neg (by omega), if_neg (by omega), if_pos (by omega)]) | exact jm_eqN (by rw [if_neg (by omega), if_neg (by omega), if_neg (by omega), if_neg (by omega), if_neg (by omega)]) | fail
      · refine jm_icN (Y := YX6_kindOf) (pc := 26) 3 dX6_kindOf_26 rfl ?_
        refine jm_goto (Y := YX6_kindOf) (pc := 27) dX6_kindOf_27 rfl ?_
        refine jm_ret (Y := YX6_kindOf) (pc := 51) (st := []) dX6_kindOf_51 rfl rfl ?_
        unfold x_kN
        first | exact jm_eqN (by rw [if_pos (by omega)]) | exact jm_eqN (by rw [if_neg (by omega), if_pos (by omega)]) | exact jm_eqN (by rw [if_neg (by omega), if_neg (by omega), if_pos (by omega)]) | exact jm_eqN (by rw [if_neg (by omega), if_neg (by omega), if_neg (by omega), if_pos (by omega)]) | exact jm_eqN (by rw [if_neg (by omega), if_neg (by omega), if_neg (by omega), if_neg (by omega), if_pos (by omega)]) | exact jm_eqN (by rw [if_neg (by omega), if_neg (by omega), if_neg (by omega), if_neg (by omega), if_neg (by omega)]) | fail
    · refine jm_icN (Y := YX6_kindOf) (pc := 16) 2 dX6_kindOf_16 rfl ?_
      refine jm_goto (Y := YX6_kindOf) (pc := 17) dX6_kindOf_17 rfl ?_
      refine jm_ret (Y := YX6_kindOf) (pc := 51) (st := []) dX6_kindOf_51 rfl rfl ?_
      unfold x_kN
      first | exact jm_eqN (by rw [if_pos (by omega)]) | exact jm_eqN (by rw [if_neg (by omega), if_pos (by omega)]) | exact jm_eqN (by rw [if_neg (by omega), if_neg (by omega), if_pos (by omega)]) | exact jm_eqN (by rw [if_neg (by omega), if_neg (by omega), if_neg (by omega), if_pos (by omega)]) | exact jm_eqN (by rw [if_neg (by omega), if_neg (by omega), if_neg (by omega), if_neg (by omega), if_pos (by omega)]) | exact jm_eqN (by rw [if_neg (by omega), if_neg (by omega), if_neg (by omega), if_neg (by omega), if_neg (by omega)]) | fail
  · refine jm_icN (Y := YX6_kindOf) (pc := 6) 1 dX6_kindOf_6 rfl ?_
    refine jm_goto (Y := YX6_kindOf) (pc := 7) dX6_kindOf_7 rfl ?_
    refine jm_ret (Y := YX6_kindOf) (pc := 51) (st := []) dX6_kindOf_51 rfl rfl ?_
    unfold x_kN
    first | exact jm_eqN (by rw [if_pos (by omega)]) | exact jm_eqN (by rw [if_neg (by omega), if_pos (by omega)]) | exact jm_eqN (by rw [if_neg (by omega), if_neg (by omega), if_pos (by omega)]) | exact jm_eqN (by rw [if_neg (by omega), if_neg (by omega), if_neg (by omega), if_pos (by omega)]) | exact jm_eqN (by rw [if_neg (by omega), if_neg (by omega), if_neg (by omega), if_neg (by omega), if_pos (by omega)]) | exact jm_eqN (by rw [if_neg (by omega), if_neg (by omega), if_neg (by omega), if_neg (by omega), if_neg (by omega)]) | fail
theorem c_follows (t : Nat → Nat) (n : Nat) (M : jm_M) (hn : n ≤ 110) (hb : ∀ i, t i ≤ 255) (h16 : ∀ i, i < n → M 16 i = nI (t i)) (h6 : M 11 6 = nI n) (fk : Int32) (s : Nat × Nat) (hp : s.1 ≤ n) (lo hi : Nat) (hl : lo < 100) (hv : Int32) (ehv : hv.toInt = (hi : Int) - 1) : jm_J none YX6_follows 0 [some (.ref 11), some (.int (nI lo)), some (.int hv)] [] (PT M t n fk s) (jm_is (some (.int (nI (x_fo t n lo hi s).1))) (PT M t n fk ((x_fo t n lo hi s).2))) := by
  have k5 := s_tk_le t n s.1
  refine jm_ald_n (Y := YX6_follows) (pc := 0) (i := 0) dX6_follows_0 rfl rfl ?_
  refine jm_ald_n (Y := YX6_follows) (pc := 1) (i := 0) dX6_follows_1 rfl rfl ?_
  refine jm_getE (Y := YX6_follows) (pc := 2) dX6_follows_2 fw_RX6_95 rfl (by decide) rfl (PT_11) ?_
  refine jm_icN (Y := YX6_follows) (pc := 5) 3 dX6_follows_5 rfl ?_
  refine jm_icmp_neN (Y := YX6_follows) (pc := 6) dX6_follows_6 rfl (by omega) (by omega) (fun h_6 => ?_) (fun h_6 => ?_)
  · refine jm_icN (Y := YX6_follows) (pc := 13) 0 dX6_follows_13 rfl ?_
    refine jm_icN (Y := YX6_follows) (pc := 14) 1 dX6_follows_14 rfl ?_
    refine jm_V2ie (Y := YX6_follows) (pc := 15) dX6_follows_15 lk_RX6_111 ⟨_, rfl⟩ rfl rfl rfl (by decide) (Nat.le_of_ble_eq_true rfl) ⟨by decide, by decide⟩ (c_takes t n M hn hb h16 h6 fk (s) hp (decide (s_tk t n s.1 = 3)) _ (by first | exact (jm_b_t (decide_eq_true h_6)).symm | exact (jm_b_f (fun z => h_6 (of_decide_eq_true z))).symm) 1 (by decide)) ?_
    refine jm_pop (Y := YX6_follows) (pc := 18) dX6_follows_18 rfl ?_
    refine jm_ald_n (Y := YX6_follows) (pc := 19) (i := 0) dX6_follows_19 rfl rfl ?_
    refine jm_ild_n (Y := YX6_follows) (pc := 20) (i := 1) dX6_follows_20 rfl rfl ?_
    refine jm_ild_n (Y := YX6_follows) (pc := 21) (i := 2) dX6_follows_21 rfl rfl ?_
    refine jm_V2ie (Y := YX6_follows) (pc := 22) dX6_follows_22 lk_RX6_115 ⟨_, rfl⟩ rfl rfl rfl (by decide) (Nat.le_of_ble_eq_true rfl) ⟨by decide, by decide⟩ (c_figure t n M hn hb h16 h6 fk (x_tk t n (decide (s_tk t n s.1 = 3)) 1 s) (x_tk_p hp) lo hi hl hv ehv) ?_
    refine jm_ret (Y := YX6_follows) (pc := 25) (st := []) dX6_follows_25 rfl rfl ?_
    exact ⟨rfl, rfl⟩
  · refine jm_icN (Y := YX6_follows) (pc := 9) 1 dX6_follows_9 rfl ?_
    refine jm_goto (Y := YX6_follows) (pc := 10) dX6_follows_10 rfl ?_
    refine jm_icN (Y := YX6_follows) (pc := 14) 1 dX6_follows_14 rfl ?_
    refine jm_V2ie (Y := YX6_follows) (pc := 15) dX6_follows_15 lk_RX6_111 ⟨_, rfl⟩ rfl rfl rfl (by decide) (Nat.le_of_ble_eq_true rfl) ⟨by decide, by decide⟩ (c_takes t n M hn hb h16 h6 fk (s) hp (decide (s_tk t n s.1 = 3)) _ (by first | exact (jm_b_t (decide_eq_true h_6)).symm | exact (jm_b_f (fun z => h_6 (of_decide_eq_true z))).symm) 1 (by decide)) ?_
    refine jm_pop (Y := YX6_follows) (pc := 18) dX6_follows_18 rfl ?_
    refine jm_ald_n (Y := YX6_follows) (pc := 19) (i := 0) dX6_follows_19 rfl rfl ?_
    refine jm_ild_n (Y := YX6_follows) (pc := 20) (i := 1) dX6_follows_20 rfl rfl ?_
    refine jm_ild_n (Y := YX6_follows) (pc := 21) (i := 2) dX6_follows_21 rfl rfl ?_
    refine jm_V2ie (Y := YX6_follows) (pc := 22) dX6_follows_22 lk_RX6_115 ⟨_, rfl⟩ rfl rfl rfl (by decide) (Nat.le_of_ble_eq_true rfl) ⟨by decide, by decide⟩ (c_figure t n M hn hb h16 h6 fk (x_tk t n (decide (s_tk t n s.1 = 3)) 1 s) (x_tk_p hp) lo hi hl hv ehv) ?_
    refine jm_ret (Y := YX6_follows) (pc := 25) (st := []) dX6_follows_25 rfl rfl ?_
    exact ⟨rfl, rfl⟩
theorem c_must (t : Nat → Nat) (n : Nat) (M : jm_M) (hn : n ≤ 110) (hb : ∀ i, t i ≤ 255) (h16 : ∀ i, i < n → M 16 i = nI (t i)) (h6 : M 11 6 = nI n) (fk : Int32) (s : Nat × Nat) (hp : s.1 ≤ n) (ok : Bool) (b : Int32) (eb : b = jm_b (ok = true)) : jm_J none YX6_must 0 [some (.ref 11), some (.int b)] [] (PT M t n fk s) (jm_is none (PT M t n fk (if ok = true then s else x_tk t n false 1 s))) := by
  subst eb
  refine jm_ald_n (Y := YX6_must) (pc := 0) (i := 0) dX6_must_0 rfl rfl ?_
  refine jm_V0ie (Y := YX6_must) (pc := 1) dX6_must_1 lk_RX6_101 ⟨_, rfl⟩ rfl (by decide) (Nat.le_of_ble_eq_true rfl) ⟨by decide, by decide⟩ (c_isWell t n M hn hb h16 h6 fk s hp) ?_
  refine jm_if_eqB (Y := YX6_must) (pc := 4) dX6_must_4 rfl (fun h_4 => ?_) (fun h_4 => ?_)
  · refine jm_retv (Y := YX6_must) (pc := 18) (st := []) dX6_must_18 rfl ?_
    first | exact jm_eqM (by rw [if_pos h_8]) | exact jm_eqM (by rw [if_neg h_8]) | exact jm_eqM (by rw [x_tk_0 h_4]; split <;> rfl) | fail
  · refine jm_ild_n (Y := YX6_must) (pc := 7) (i := 1) dX6_must_7 rfl rfl ?_
    refine jm_if_neB (Y := YX6_must) (pc := 8) dX6_must_8 rfl (fun h_8 => ?_) (fun h_8 => ?_)
    · refine jm_retv (Y := YX6_must) (pc := 18) (st := []) dX6_must_18 rfl ?_
      first | exact jm_eqM (by rw [if_pos h_8]) | exact jm_eqM (by rw [if_neg h_8]) | exact jm_eqM (by rw [x_tk_0 h_4]; split <;> rfl) | fail
    · refine jm_ald_n (Y := YX6_must) (pc := 11) (i := 0) dX6_must_11 rfl rfl ?_
      refine jm_icN (Y := YX6_must) (pc := 12) 0 dX6_must_12 rfl ?_
      refine jm_icN (Y := YX6_must) (pc := 13) 1 dX6_must_13 rfl ?_
      refine jm_V2ie (Y := YX6_must) (pc := 14) dX6_must_14 lk_RX6_111 ⟨_, rfl⟩ rfl rfl rfl (by decide) (Nat.le_of_ble_eq_true rfl) ⟨by decide, by decide⟩ (c_takes t n M hn hb h16 h6 fk (s) hp false (nI 0) rfl 1 (by decide)) ?_
      refine jm_pop (Y := YX6_must) (pc := 17) dX6_must_17 rfl ?_
      refine jm_retv (Y := YX6_must) (pc := 18) (st := []) dX6_must_18 rfl ?_
      first | exact jm_eqM (by rw [if_pos h_8]) | exact jm_eqM (by rw [if_neg h_8]) | exact jm_eqM (by rw [x_tk_0 h_4]; split <;> rfl) | fail
theorem PT_18 {M : jm_M} {t : Nat → Nat} {n : Nat} {fk : Int32} {s : Nat × Nat} {g : Nat → Nat} (k v : Nat) : jm_sf (PT (jm_sf M 18 (jm_n g)) t n fk s) 18 (upd (PT (jm_sf M 18 (jm_n g)) t n fk s 18) k (nI v)) = PT (jm_sf M 18 (jm_n (wU g k v))) t n fk s := by
  rw [show PT (jm_sf M 18 (jm_n g)) t n fk s 18 = jm_n g from rfl, jm_up]
  unfold PT PS
  rw [jm_sfc _ _ _ (by decide), jm_sfsf]
  rfl
def x_c1 (t : Nat → Nat) (n : Nat) (g : Nat → Nat) (s : Nat × Nat) : Nat × Nat × Nat := x_fg t n 0 4 (x_tk t n (decide (g 2 < 12)) 3 s)
def x_c3 (t : Nat → Nat) (n : Nat) (g : Nat → Nat) (s : Nat × Nat) : Nat × Nat := x_tk t n (decide (s_tk t n (x_c1 t n g s).2.1 = 4)) 1 (x_c1 t n g s).2
def x_cg (t : Nat → Nat) (n : Nat) (g : Nat → Nat) (s : Nat × Nat) : Nat → Nat := if (x_c3 t n g s).2 = 0 then wU (wU g (5 + g 2) (x_c1 t n g s).1) 2 (g 2 + 1) else g
theorem x_cg_y {t : Nat → Nat} {n : Nat} {g : Nat → Nat} {s : Nat × Nat} (h : (x_c3 t n g s).2 = 0) : x_cg t n g s = wU (wU g (5 + g 2) (x_c1 t n g s).1) 2 (g 2 + 1) := if_pos h
theorem x_cg_n {t : Nat → Nat} {n : Nat} {g : Nat → Nat} {s : Nat × Nat} (h : ¬ (x_c3 t n g s).2 = 0) : x_cg t n g s = g := if_neg h
theorem x_c1_p {t : Nat → Nat} {n : Nat} {g : Nat → Nat} {s : Nat × Nat} (h : s.1 ≤ n) : (x_c1 t n g s).2.1 ≤ n := x_fg_p (x_tk_p h)
theorem x_c3_p {t : Nat → Nat} {n : Nat} {g : Nat → Nat} {s : Nat × Nat} (h : s.1 ≤ n) : (x_c3 t n g s).1 ≤ n := x_tk_p (x_c1_p h)
def x_w2 (t : Nat → Nat) (n : Nat) (g : Nat → Nat) (s : Nat × Nat) : Nat × Nat × Nat := x_fg t n 1 61 (x_tk t n (decide (g 3 < 7)) 3 s)
def x_w3 (t : Nat → Nat) (n : Nat) (g : Nat → Nat) (s : Nat × Nat) : Nat × Nat × Nat := x_fo t n 0 (g 2) (x_w2 t n g s).2
def x_w4 (t : Nat → Nat) (n : Nat) (g : Nat → Nat) (s : Nat × Nat) : Nat × Nat := x_tk t n (decide (s_tk t n (x_w3 t n g s).2.1 = 4)) 1 (x_w3 t n g s).2
def x_wg (t : Nat → Nat) (n : Nat) (g : Nat → Nat) (s : Nat × Nat) : Nat → Nat := if (x_w4 t n g s).2 = 0 then wU (wU (wU (wU g (17 + 4 * g 3) (x_kN (t s.1))) (17 + 4 * g 3 + 1) (x_w2 t n g s).1) (17 + 4 * g 3 + 2) (x_w3 t n g s).1) 3 (g 3 + 1) else g
theorem x_wg_y {t : Nat → Nat} {n : Nat} {g : Nat → Nat} {s : Nat × Nat} (h : (x_w4 t n g s).2 = 0) : x_wg t n g s = wU (wU (wU (wU g (17 + 4 * g 3) (x_kN (t s.1))) (17 + 4 * g 3 + 1) (x_w2 t n g s).1) (17 + 4 * g 3 + 2) (x_w3 t n g s).1) 3 (g 3 + 1) := if_pos h
theorem x_wg_n {t : Nat → Nat} {n : Nat} {g : Nat → Nat} {s : Nat × Nat} (h : ¬ (x_w4 t n g s).2 = 0) : x_wg t n g s = g := if_neg h
theorem x_w2_p {t : Nat → Nat} {n : Nat} {g : Nat → Nat} {s : Nat × Nat} (h : s.1 ≤ n) : (x_w2 t n g s).2.1 ≤ n := x_fg_p (x_tk_p h)
theorem x_w3_p {t : Nat → Nat} {n : Nat} {g : Nat → Nat} {s : Nat × Nat} (h : s.1 ≤ n) : (x_w3 t n g s).2.1 ≤ n := x_fg_p (x_tk_p (x_w2_p h))
theorem x_w4_p {t : Nat → Nat} {n : Nat} {g : Nat → Nat} {s : Nat × Nat} (h : s.1 ≤ n) : (x_w4 t n g s).1 ≤ n := x_tk_p (x_w3_p h)
theorem x_fg_z {t : Nat → Nat} {n lo hi : Nat} {s : Nat × Nat} (h : (x_fg t n lo hi s).2.2 = 0) : s.2 = 0 ∧ s_tk t n s.1 = 2 ∧ lo ≤ (x_fg t n lo hi s).1 ∧ (x_fg t n lo hi s).1 < hi ∧ (x_fg t n lo hi s).2.1 = s.1 + s_tl t n s.1 := by
  by_cases h0 : s.2 = 0
  · by_cases h1 : s_tk t n s.1 = 2
    · rw [x_fg_2 h0 h1] at h ⊢
      by_cases h2 : lo ≤ x_v t n s.1 ∧ x_v t n s.1 < hi
      · rw [if_pos h2]; exact ⟨h0, h1, h2.1, h2.2, rfl⟩
      · rw [if_neg h2] at h; exact absurd h (by show ¬ 2 = 0; decide)
    · rw [x_fg_1 h0 h1] at h; exact absurd h (by show ¬ 1 = 0; decide)
  · rw [x_fg_0 h0] at h; exact absurd h h0
theorem x_tk_z {t : Nat → Nat} {n kd : Nat} {ok : Bool} {s : Nat × Nat} (hk : kd ≠ 0) (h : (x_tk t n ok kd s).2 = 0) : s.2 = 0 ∧ ok = true ∧ (x_tk t n ok kd s).1 = s.1 + s_tl t n s.1 := by
  by_cases h0 : s.2 = 0
  · by_cases h1 : ok = true
    · rw [x_tk_1 h0 h1]; exact ⟨h0, h1, rfl⟩
    · rw [x_tk_2 h0 h1] at h; exact absurd h hk
  · rw [x_tk_0 h0] at h; exact absurd h h0
theorem x_c3_z {t : Nat → Nat} {n : Nat} {g : Nat → Nat} {s : Nat × Nat} (h : (x_c3 t n g s).2 = 0) : s.2 = 0 ∧ g 2 < 12 ∧ (x_c1 t n g s).1 ≤ 3 ∧ s.1 + s_tl t n s.1 ≤ (x_c3 t n g s).1 := by
  obtain ⟨a, b, c⟩ := x_tk_z (by decide) h
  obtain ⟨d, e, f, i, j⟩ := x_fg_z a
  obtain ⟨k, l, q⟩ := x_tk_z (by decide) d
  have c' : (x_c3 t n g s).1 = (x_c1 t n g s).2.1 + s_tl t n (x_c1 t n g s).2.1 := c
  have j' : (x_c1 t n g s).2.1 = _ := j
  have i' : (x_c1 t n g s).1 < 4 := i
  exact ⟨k, of_decide_eq_true l, by omega, by omega⟩
theorem x_c3_12 {t : Nat → Nat} {n : Nat} {g : Nat → Nat} {s : Nat × Nat} (h12 : ¬ g 2 < 12) : ¬ (x_c3 t n g s).2 = 0 := fun h => h12 (x_c3_z h).2.1
theorem x_w4_z {t : Nat → Nat} {n : Nat} {g : Nat → Nat} {s : Nat × Nat} (h : (x_w4 t n g s).2 = 0) : s.2 = 0 ∧ g 3 < 7 ∧ 1 ≤ (x_w2 t n g s).1 ∧ (x_w2 t n g s).1 ≤ 60 ∧ (x_w3 t n g s).1 < g 2 ∧ s.1 + s_tl t n s.1 ≤ (x_w4 t n g s).1 := by
  obtain ⟨a, b, c⟩ := x_tk_z (by decide) h
  obtain ⟨d, e, f, i, j⟩ := x_fg_z a
  obtain ⟨d2, e2, f2⟩ := x_tk_z (by decide) d
  obtain ⟨d3, e3, f3, i3, j3⟩ := x_fg_z d2
  obtain ⟨k, l, q⟩ := x_tk_z (by decide) d3
  have c' : (x_w4 t n g s).1 = (x_w3 t n g s).2.1 + s_tl t n (x_w3 t n g s).2.1 := c
  have j' : (x_w3 t n g s).2.1 = _ := j
  have j3' : (x_w2 t n g s).2.1 = _ := j3
  have i' : (x_w3 t n g s).1 < g 2 := i
  have i3' : (x_w2 t n g s).1 < 61 := i3
  have f3' : 1 ≤ (x_w2 t n g s).1 := f3
  exact ⟨k, of_decide_eq_true l, by omega, by omega, by omega, by omega⟩
theorem x_w4_7 {t : Nat → Nat} {n : Nat} {g : Nat → Nat} {s : Nat × Nat} (h12 : ¬ g 3 < 7) : ¬ (x_w4 t n g s).2 = 0 := fun h => h12 (x_w4_z h).2.1
theorem c_readsCellA (t : Nat → Nat) (n : Nat) (M : jm_M) (hn : n ≤ 110) (hb : ∀ i, t i ≤ 255) (h16 : ∀ i, i < n → M 16 i = nI (t i)) (h6 : M 11 6 = nI n) (fk : Int32) (s : Nat × Nat) (hp : s.1 ≤ n) (g : Nat → Nat) (hg2 : g 2 ≤ 12) (h12 : g 2 < 12) : jm_J none YX6_readsCell 0 [some (.ref 11), none, none] [] (PT (jm_sf M 18 (jm_n (g))) t n fk (s)) (jm_is none (PT (jm_sf M 18 (jm_n (x_cg t n g s))) t n fk (x_c3 t n g s))) := by
  have k5 := s_tk_le t n (x_c1 t n g s).2.1
  have h_9 := h12
  refine jm_ald_n (Y := YX6_readsCell) (pc := 0) (i := 0) dX6_readsCell_0 rfl rfl ?_
  refine jm_ald_n (Y := YX6_readsCell) (pc := 1) (i := 0) dX6_readsCell_1 rfl rfl ?_
  refine jm_getR (Y := YX6_readsCell) (pc := 2) dX6_readsCell_2 fr_RX6_28 rfl (by decide) rfl ?_
  refine jm_icN (Y := YX6_readsCell) (pc := 5) 2 dX6_readsCell_5 rfl ?_
  refine jm_ialN (Y := YX6_readsCell) (pc := 6) dX6_readsCell_6 (by first | assumption | exact jm_arR1 ha | exact jm_arR2 ha | exact jm_arR3 ha | exact jm_arR1 hb | exact jm_arR2 hb | exact jm_arR3 hb | rfl) (by omega) ((show _ = nI (g 2) from rfl)) ?_
  refine jm_bpN (Y := YX6_readsCell) (pc := 7) 12 dX6_readsCell_7 rfl ?_
  refine jm_icmp_geN (Y := YX6_readsCell) (pc := 9) dX6_readsCell_9 rfl (by omega) (by omega) (fun h_9 => by exfalso; omega) (fun h_9 => ?_)
  refine jm_icN (Y := YX6_readsCell) (pc := 12) 1 dX6_readsCell_12 rfl ?_
  refine jm_goto (Y := YX6_readsCell) (pc := 13) dX6_readsCell_13 rfl ?_
  refine jm_icN (Y := YX6_readsCell) (pc := 17) 3 dX6_readsCell_17 rfl ?_
  refine jm_V2ie (Y := YX6_readsCell) (pc := 18) dX6_readsCell_18 lk_RX6_111 ⟨_, rfl⟩ rfl rfl rfl (by decide) (Nat.le_of_ble_eq_true rfl) ⟨by decide, by decide⟩ (c_takes t n (jm_sf M 18 (jm_n (g))) hn hb h16 h6 fk (s) hp (decide (g 2 < 12)) _ (by first | exact (jm_b_t (decide_eq_true h12)).symm | exact (jm_b_f (fun z => h12 (of_decide_eq_true z))).symm) 3 (by decide)) ?_
  refine jm_pop (Y := YX6_readsCell) (pc := 21) dX6_readsCell_21 rfl ?_
  refine jm_icN (Y := YX6_readsCell) (pc := 22) 5 dX6_readsCell_22 rfl ?_
  refine jm_ald_n (Y := YX6_readsCell) (pc := 23) (i := 0) dX6_readsCell_23 rfl rfl ?_
  refine jm_getR (Y := YX6_readsCell) (pc := 24) dX6_readsCell_24 fr_RX6_28 rfl (by decide) rfl ?_
  refine jm_icN (Y := YX6_readsCell) (pc := 27) 2 dX6_readsCell_27 rfl ?_
  refine jm_ialN (Y := YX6_readsCell) (pc := 28) dX6_readsCell_28 (by first | assumption | exact jm_arR1 ha | exact jm_arR2 ha | exact jm_arR3 ha | exact jm_arR1 hb | exact jm_arR2 hb | exact jm_arR3 hb | rfl) (by omega) ((show _ = nI (g 2) from rfl)) ?_
  refine jm_bpN (Y := YX6_readsCell) (pc := 29) 12 dX6_readsCell_29 rfl ?_
  refine jm_icmp_geN (Y := YX6_readsCell) (pc := 31) dX6_readsCell_31 rfl (by omega) (by omega) (fun h_31 => by exfalso; omega) (fun h_31 => ?_)
  refine jm_ald_n (Y := YX6_readsCell) (pc := 34) (i := 0) dX6_readsCell_34 rfl rfl ?_
  refine jm_getR (Y := YX6_readsCell) (pc := 35) dX6_readsCell_35 fr_RX6_28 rfl (by decide) rfl ?_
  refine jm_icN (Y := YX6_readsCell) (pc := 38) 2 dX6_readsCell_38 rfl ?_
  refine jm_ialN (Y := YX6_readsCell) (pc := 39) dX6_readsCell_39 (by first | assumption | exact jm_arR1 ha | exact jm_arR2 ha | exact jm_arR3 ha | exact jm_arR1 hb | exact jm_arR2 hb | exact jm_arR3 hb | rfl) (by omega) ((show _ = nI (g 2) from rfl)) ?_
  refine jm_goto (Y := YX6_readsCell) (pc := 40) dX6_readsCell_40 rfl ?_
  refine jm_addN (Y := YX6_readsCell) (pc := 44) dX6_readsCell_44 ?_
  refine jm_ist_n (Y := YX6_readsCell) (pc := 45) (i := 1) (ls' := [_, _, _]) dX6_readsCell_45 rfl (Nat.le_of_ble_eq_true rfl) rfl rfl ?_
  refine jm_ald_n (Y := YX6_readsCell) (pc := 46) (i := 0) dX6_readsCell_46 rfl rfl ?_
  refine jm_icN (Y := YX6_readsCell) (pc := 47) 0 dX6_readsCell_47 rfl ?_
  refine jm_icN (Y := YX6_readsCell) (pc := 48) 3 dX6_readsCell_48 rfl ?_
  refine jm_V2ie (Y := YX6_readsCell) (pc := 49) dX6_readsCell_49 lk_RX6_115 ⟨_, rfl⟩ rfl rfl rfl (by decide) (Nat.le_of_ble_eq_true rfl) ⟨by decide, by decide⟩ (c_figure t n (jm_sf M 18 (jm_n (g))) hn hb h16 h6 fk (x_tk t n (decide (g 2 < 12)) 3 s) (x_tk_p hp) 0 4 (by decide) (nI 3) (by decide)) ?_
  refine jm_ist_n (Y := YX6_readsCell) (pc := 52) (i := 2) (ls' := [_, _, _]) dX6_readsCell_52 rfl (Nat.le_of_ble_eq_true rfl) rfl rfl ?_
  refine jm_ald_n (Y := YX6_readsCell) (pc := 53) (i := 0) dX6_readsCell_53 rfl rfl ?_
  refine jm_ald_n (Y := YX6_readsCell) (pc := 54) (i := 0) dX6_readsCell_54 rfl rfl ?_
  refine jm_getE (Y := YX6_readsCell) (pc := 55) dX6_readsCell_55 fw_RX6_95 rfl (by decide) rfl ((show _ = nI (s_tk t n (x_c1 t n g s).2.1) from rfl)) ?_
  refine jm_icN (Y := YX6_readsCell) (pc := 58) 4 dX6_readsCell_58 rfl ?_
  refine jm_icmp_neN (Y := YX6_readsCell) (pc := 59) dX6_readsCell_59 rfl (by omega) (by omega) (fun h_59 => ?_) (fun h_59 => ?_)
  · refine jm_icN (Y := YX6_readsCell) (pc := 66) 0 dX6_readsCell_66 rfl ?_
    refine jm_icN (Y := YX6_readsCell) (pc := 67) 1 dX6_readsCell_67 rfl ?_
    refine jm_V2ie (Y := YX6_readsCell) (pc := 68) dX6_readsCell_68 lk_RX6_111 ⟨_, rfl⟩ rfl rfl rfl (by decide) (Nat.le_of_ble_eq_true rfl) ⟨by decide, by decide⟩ (c_takes t n (jm_sf M 18 (jm_n (g))) hn hb h16 h6 fk ((x_c1 t n g s).2) (x_c1_p hp) (decide (s_tk t n (x_c1 t n g s).2.1 = 4)) _ (by first | exact (jm_b_t (decide_eq_true h_59)).symm | exact (jm_b_f (fun z => h_59 (of_decide_eq_true z))).symm | exact (jm_b_f (fun z => absurd (of_decide_eq_true z) (by omega))).symm) 1 (by decide)) ?_
    refine jm_pop (Y := YX6_readsCell) (pc := 71) dX6_readsCell_71 rfl ?_
    refine jm_ald_n (Y := YX6_readsCell) (pc := 72) (i := 0) dX6_readsCell_72 rfl rfl ?_
    refine jm_V0ie (Y := YX6_readsCell) (pc := 73) dX6_readsCell_73 lk_RX6_101 ⟨_, rfl⟩ rfl (by decide) (Nat.le_of_ble_eq_true rfl) ⟨by decide, by decide⟩ (c_isWell t n (jm_sf M 18 (jm_n (g))) hn hb h16 h6 fk (x_c3 t n g s) (x_c3_p hp)) ?_
    refine jm_if_eqB (Y := YX6_readsCell) (pc := 76) dX6_readsCell_76 rfl (fun h_76 => ?_) (fun h_76 => ?_)
    · refine jm_retv (Y := YX6_readsCell) (pc := 96) (st := []) dX6_readsCell_96 rfl ?_
      first | exact absurd h_76 (x_c3_12 h12) | exact jm_eqM (by rw [x_cg_n h_76]) | exact jm_eqM (by rw [x_cg_y h_76]; rfl) | fail
    · refine jm_ald_n (Y := YX6_readsCell) (pc := 79) (i := 0) dX6_readsCell_79 rfl rfl ?_
      refine jm_getR (Y := YX6_readsCell) (pc := 80) dX6_readsCell_80 fr_RX6_28 rfl (by decide) rfl ?_
      refine jm_ild_n (Y := YX6_readsCell) (pc := 83) (i := 1) dX6_readsCell_83 rfl rfl ?_
      refine jm_ild_n (Y := YX6_readsCell) (pc := 84) (i := 2) dX6_readsCell_84 rfl rfl ?_
      refine jm_iasN (Y := YX6_readsCell) (pc := 85) dX6_readsCell_85 rfl (by omega) ?_
      rw [PT_18]
      refine jm_ald_n (Y := YX6_readsCell) (pc := 86) (i := 0) dX6_readsCell_86 rfl rfl ?_
      refine jm_getR (Y := YX6_readsCell) (pc := 87) dX6_readsCell_87 fr_RX6_28 rfl (by decide) rfl ?_
      refine jm_icN (Y := YX6_readsCell) (pc := 90) 2 dX6_readsCell_90 rfl ?_
      refine jm_dup2 (Y := YX6_readsCell) (pc := 91) dX6_readsCell_91 rfl rfl ?_
      refine jm_ialN (Y := YX6_readsCell) (pc := 92) dX6_readsCell_92 (by first | assumption | exact jm_arR1 ha | exact jm_arR2 ha | exact jm_arR3 ha | exact jm_arR1 hb | exact jm_arR2 hb | exact jm_arR3 hb | rfl) (by omega) ((show _ = nI (g 2) from congrArg nI (wU_n g _ (by omega)))) ?_
      refine jm_icN (Y := YX6_readsCell) (pc := 93) 1 dX6_readsCell_93 rfl ?_
      refine jm_addN (Y := YX6_readsCell) (pc := 94) dX6_readsCell_94 ?_
      refine jm_iasN (Y := YX6_readsCell) (pc := 95) dX6_readsCell_95 rfl (by omega) ?_
      rw [PT_18]
      refine jm_retv (Y := YX6_readsCell) (pc := 96) (st := []) dX6_readsCell_96 rfl ?_
      first | exact absurd h_76 (x_c3_12 h12) | exact jm_eqM (by rw [x_cg_n h_76]) | exact jm_eqM (by rw [x_cg_y h_76]; rfl) | fail
  · refine jm_icN (Y := YX6_readsCell) (pc := 62) 1 dX6_readsCell_62 rfl ?_
    refine jm_goto (Y := YX6_readsCell) (pc := 63) dX6_readsCell_63 rfl ?_
    refine jm_icN (Y := YX6_readsCell) (pc := 67) 1 dX6_readsCell_67 rfl ?_
    refine jm_V2ie (Y := YX6_readsCell) (pc := 68) dX6_readsCell_68 lk_RX6_111 ⟨_, rfl⟩ rfl rfl rfl (by decide) (Nat.le_of_ble_eq_true rfl) ⟨by decide, by decide⟩ (c_takes t n (jm_sf M 18 (jm_n (g))) hn hb h16 h6 fk ((x_c1 t n g s).2) (x_c1_p hp) (decide (s_tk t n (x_c1 t n g s).2.1 = 4)) _ (by first | exact (jm_b_t (decide_eq_true h_59)).symm | exact (jm_b_f (fun z => h_59 (of_decide_eq_true z))).symm | exact (jm_b_f (fun z => absurd (of_decide_eq_true z) (by omega))).symm) 1 (by decide)) ?_
    refine jm_pop (Y := YX6_readsCell) (pc := 71) dX6_readsCell_71 rfl ?_
    refine jm_ald_n (Y := YX6_readsCell) (pc := 72) (i := 0) dX6_readsCell_72 rfl rfl ?_
    refine jm_V0ie (Y := YX6_readsCell) (pc := 73) dX6_readsCell_73 lk_RX6_101 ⟨_, rfl⟩ rfl (by decide) (Nat.le_of_ble_eq_true rfl) ⟨by decide, by decide⟩ (c_isWell t n (jm_sf M 18 (jm_n (g))) hn hb h16 h6 fk (x_c3 t n g s) (x_c3_p hp)) ?_
    refine jm_if_eqB (Y := YX6_readsCell) (pc := 76) dX6_readsCell_76 rfl (fun h_76 => ?_) (fun h_76 => ?_)
    · refine jm_retv (Y := YX6_readsCell) (pc := 96) (st := []) dX6_readsCell_96 rfl ?_
      first | exact absurd h_76 (x_c3_12 h12) | exact jm_eqM (by rw [x_cg_n h_76]) | exact jm_eqM (by rw [x_cg_y h_76]; rfl) | fail
    · refine jm_ald_n (Y := YX6_readsCell) (pc := 79) (i := 0) dX6_readsCell_79 rfl rfl ?_
      refine jm_getR (Y := YX6_readsCell) (pc := 80) dX6_readsCell_80 fr_RX6_28 rfl (by decide) rfl ?_
      refine jm_ild_n (Y := YX6_readsCell) (pc := 83) (i := 1) dX6_readsCell_83 rfl rfl ?_
      refine jm_ild_n (Y := YX6_readsCell) (pc := 84) (i := 2) dX6_readsCell_84 rfl rfl ?_
      refine jm_iasN (Y := YX6_readsCell) (pc := 85) dX6_readsCell_85 rfl (by omega) ?_
      rw [PT_18]
      refine jm_ald_n (Y := YX6_readsCell) (pc := 86) (i := 0) dX6_readsCell_86 rfl rfl ?_
      refine jm_getR (Y := YX6_readsCell) (pc := 87) dX6_readsCell_87 fr_RX6_28 rfl (by decide) rfl ?_
      refine jm_icN (Y := YX6_readsCell) (pc := 90) 2 dX6_readsCell_90 rfl ?_
      refine jm_dup2 (Y := YX6_readsCell) (pc := 91) dX6_readsCell_91 rfl rfl ?_
      refine jm_ialN (Y := YX6_readsCell) (pc := 92) dX6_readsCell_92 (by first | assumption | exact jm_arR1 ha | exact jm_arR2 ha | exact jm_arR3 ha | exact jm_arR1 hb | exact jm_arR2 hb | exact jm_arR3 hb | rfl) (by omega) ((show _ = nI (g 2) from congrArg nI (wU_n g _ (by omega)))) ?_
      refine jm_icN (Y := YX6_readsCell) (pc := 93) 1 dX6_readsCell_93 rfl ?_
      refine jm_addN (Y := YX6_readsCell) (pc := 94) dX6_readsCell_94 ?_
      refine jm_iasN (Y := YX6_readsCell) (pc := 95) dX6_readsCell_95 rfl (by omega) ?_
      rw [PT_18]
      refine jm_retv (Y := YX6_readsCell) (pc := 96) (st := []) dX6_readsCell_96 rfl ?_
      first | exact absurd h_76 (x_c3_12 h12) | exact jm_eqM (by rw [x_cg_n h_76]) | exact jm_eqM (by rw [x_cg_y h_76]; rfl) | fail
theorem c_readsCellB (t : Nat → Nat) (n : Nat) (M : jm_M) (hn : n ≤ 110) (hb : ∀ i, t i ≤ 255) (h16 : ∀ i, i < n → M 16 i = nI (t i)) (h6 : M 11 6 = nI n) (fk : Int32) (s : Nat × Nat) (hp : s.1 ≤ n) (g : Nat → Nat) (hg2 : g 2 ≤ 12) (h12 : ¬ g 2 < 12) : jm_J none YX6_readsCell 0 [some (.ref 11), none, none] [] (PT (jm_sf M 18 (jm_n (g))) t n fk (s)) (jm_is none (PT (jm_sf M 18 (jm_n (x_cg t n g s))) t n fk (x_c3 t n g s))) := by
  have k5 := s_tk_le t n (x_c1 t n g s).2.1
  have h_9 := h12
  refine jm_ald_n (Y := YX6_readsCell) (pc := 0) (i := 0) dX6_readsCell_0 rfl rfl ?_
  refine jm_ald_n (Y := YX6_readsCell) (pc := 1) (i := 0) dX6_readsCell_1 rfl rfl ?_
  refine jm_getR (Y := YX6_readsCell) (pc := 2) dX6_readsCell_2 fr_RX6_28 rfl (by decide) rfl ?_
  refine jm_icN (Y := YX6_readsCell) (pc := 5) 2 dX6_readsCell_5 rfl ?_
  refine jm_ialN (Y := YX6_readsCell) (pc := 6) dX6_readsCell_6 (by first | assumption | exact jm_arR1 ha | exact jm_arR2 ha | exact jm_arR3 ha | exact jm_arR1 hb | exact jm_arR2 hb | exact jm_arR3 hb | rfl) (by omega) ((show _ = nI (g 2) from rfl)) ?_
  refine jm_bpN (Y := YX6_readsCell) (pc := 7) 12 dX6_readsCell_7 rfl ?_
  refine jm_icmp_geN (Y := YX6_readsCell) (pc := 9) dX6_readsCell_9 rfl (by omega) (by omega) (fun h_9 => ?_) (fun h_9 => by exfalso; omega)
  refine jm_icN (Y := YX6_readsCell) (pc := 16) 0 dX6_readsCell_16 rfl ?_
  refine jm_icN (Y := YX6_readsCell) (pc := 17) 3 dX6_readsCell_17 rfl ?_
  refine jm_V2ie (Y := YX6_readsCell) (pc := 18) dX6_readsCell_18 lk_RX6_111 ⟨_, rfl⟩ rfl rfl rfl (by decide) (Nat.le_of_ble_eq_true rfl) ⟨by decide, by decide⟩ (c_takes t n (jm_sf M 18 (jm_n (g))) hn hb h16 h6 fk (s) hp (decide (g 2 < 12)) _ (by first | exact (jm_b_t (decide_eq_true h12)).symm | exact (jm_b_f (fun z => h12 (of_decide_eq_true z))).symm) 3 (by decide)) ?_
  refine jm_pop (Y := YX6_readsCell) (pc := 21) dX6_readsCell_21 rfl ?_
  refine jm_icN (Y := YX6_readsCell) (pc := 22) 5 dX6_readsCell_22 rfl ?_
  refine jm_ald_n (Y := YX6_readsCell) (pc := 23) (i := 0) dX6_readsCell_23 rfl rfl ?_
  refine jm_getR (Y := YX6_readsCell) (pc := 24) dX6_readsCell_24 fr_RX6_28 rfl (by decide) rfl ?_
  refine jm_icN (Y := YX6_readsCell) (pc := 27) 2 dX6_readsCell_27 rfl ?_
  refine jm_ialN (Y := YX6_readsCell) (pc := 28) dX6_readsCell_28 (by first | assumption | exact jm_arR1 ha | exact jm_arR2 ha | exact jm_arR3 ha | exact jm_arR1 hb | exact jm_arR2 hb | exact jm_arR3 hb | rfl) (by omega) ((show _ = nI (g 2) from rfl)) ?_
  refine jm_bpN (Y := YX6_readsCell) (pc := 29) 12 dX6_readsCell_29 rfl ?_
  refine jm_icmp_geN (Y := YX6_readsCell) (pc := 31) dX6_readsCell_31 rfl (by omega) (by omega) (fun h_31 => ?_) (fun h_31 => by exfalso; omega)
  refine jm_icN (Y := YX6_readsCell) (pc := 43) 0 dX6_readsCell_43 rfl ?_
  refine jm_addN (Y := YX6_readsCell) (pc := 44) dX6_readsCell_44 ?_
  refine jm_ist_n (Y := YX6_readsCell) (pc := 45) (i := 1) (ls' := [_, _, _]) dX6_readsCell_45 rfl (Nat.le_of_ble_eq_true rfl) rfl rfl ?_
  refine jm_ald_n (Y := YX6_readsCell) (pc := 46) (i := 0) dX6_readsCell_46 rfl rfl ?_
  refine jm_icN (Y := YX6_readsCell) (pc := 47) 0 dX6_readsCell_47 rfl ?_
  refine jm_icN (Y := YX6_readsCell) (pc := 48) 3 dX6_readsCell_48 rfl ?_
  refine jm_V2ie (Y := YX6_readsCell) (pc := 49) dX6_readsCell_49 lk_RX6_115 ⟨_, rfl⟩ rfl rfl rfl (by decide) (Nat.le_of_ble_eq_true rfl) ⟨by decide, by decide⟩ (c_figure t n (jm_sf M 18 (jm_n (g))) hn hb h16 h6 fk (x_tk t n (decide (g 2 < 12)) 3 s) (x_tk_p hp) 0 4 (by decide) (nI 3) (by decide)) ?_
  refine jm_ist_n (Y := YX6_readsCell) (pc := 52) (i := 2) (ls' := [_, _, _]) dX6_readsCell_52 rfl (Nat.le_of_ble_eq_true rfl) rfl rfl ?_
  refine jm_ald_n (Y := YX6_readsCell) (pc := 53) (i := 0) dX6_readsCell_53 rfl rfl ?_
  refine jm_ald_n (Y := YX6_readsCell) (pc := 54) (i := 0) dX6_readsCell_54 rfl rfl ?_
  refine jm_getE (Y := YX6_readsCell) (pc := 55) dX6_readsCell_55 fw_RX6_95 rfl (by decide) rfl ((show _ = nI (s_tk t n (x_c1 t n g s).2.1) from rfl)) ?_
  refine jm_icN (Y := YX6_readsCell) (pc := 58) 4 dX6_readsCell_58 rfl ?_
  refine jm_icmp_neN (Y := YX6_readsCell) (pc := 59) dX6_readsCell_59 rfl (by omega) (by omega) (fun h_59 => ?_) (fun h_59 => ?_)
  · refine jm_icN (Y := YX6_readsCell) (pc := 66) 0 dX6_readsCell_66 rfl ?_
    refine jm_icN (Y := YX6_readsCell) (pc := 67) 1 dX6_readsCell_67 rfl ?_
    refine jm_V2ie (Y := YX6_readsCell) (pc := 68) dX6_readsCell_68 lk_RX6_111 ⟨_, rfl⟩ rfl rfl rfl (by decide) (Nat.le_of_ble_eq_true rfl) ⟨by decide, by decide⟩ (c_takes t n (jm_sf M 18 (jm_n (g))) hn hb h16 h6 fk ((x_c1 t n g s).2) (x_c1_p hp) (decide (s_tk t n (x_c1 t n g s).2.1 = 4)) _ (by first | exact (jm_b_t (decide_eq_true h_59)).symm | exact (jm_b_f (fun z => h_59 (of_decide_eq_true z))).symm | exact (jm_b_f (fun z => absurd (of_decide_eq_true z) (by omega))).symm) 1 (by decide)) ?_
    refine jm_pop (Y := YX6_readsCell) (pc := 71) dX6_readsCell_71 rfl ?_
    refine jm_ald_n (Y := YX6_readsCell) (pc := 72) (i := 0) dX6_readsCell_72 rfl rfl ?_
    refine jm_V0ie (Y := YX6_readsCell) (pc := 73) dX6_readsCell_73 lk_RX6_101 ⟨_, rfl⟩ rfl (by decide) (Nat.le_of_ble_eq_true rfl) ⟨by decide, by decide⟩ (c_isWell t n (jm_sf M 18 (jm_n (g))) hn hb h16 h6 fk (x_c3 t n g s) (x_c3_p hp)) ?_
    refine jm_if_eqB (Y := YX6_readsCell) (pc := 76) dX6_readsCell_76 rfl (fun h_76 => ?_) (fun h_76 => ?_)
    · refine jm_retv (Y := YX6_readsCell) (pc := 96) (st := []) dX6_readsCell_96 rfl ?_
      first | exact absurd h_76 (x_c3_12 h12) | exact jm_eqM (by rw [x_cg_n h_76]) | exact jm_eqM (by rw [x_cg_y h_76]; rfl) | fail
    · refine jm_ald_n (Y := YX6_readsCell) (pc := 79) (i := 0) dX6_readsCell_79 rfl rfl ?_
      refine jm_getR (Y := YX6_readsCell) (pc := 80) dX6_readsCell_80 fr_RX6_28 rfl (by decide) rfl ?_
      refine jm_ild_n (Y := YX6_readsCell) (pc := 83) (i := 1) dX6_readsCell_83 rfl rfl ?_
      refine jm_ild_n (Y := YX6_readsCell) (pc := 84) (i := 2) dX6_readsCell_84 rfl rfl ?_
      refine jm_iasN (Y := YX6_readsCell) (pc := 85) dX6_readsCell_85 rfl (by omega) ?_
      rw [PT_18]
      refine jm_ald_n (Y := YX6_readsCell) (pc := 86) (i := 0) dX6_readsCell_86 rfl rfl ?_
      refine jm_getR (Y := YX6_readsCell) (pc := 87) dX6_readsCell_87 fr_RX6_28 rfl (by decide) rfl ?_
      refine jm_icN (Y := YX6_readsCell) (pc := 90) 2 dX6_readsCell_90 rfl ?_
      refine jm_dup2 (Y := YX6_readsCell) (pc := 91) dX6_readsCell_91 rfl rfl ?_
      refine jm_ialN (Y := YX6_readsCell) (pc := 92) dX6_readsCell_92 (by first | assumption | exact jm_arR1 ha | exact jm_arR2 ha | exact jm_arR3 ha | exact jm_arR1 hb | exact jm_arR2 hb | exact jm_arR3 hb | rfl) (by omega) ((show _ = nI (g 2) from congrArg nI (wU_n g _ (by omega)))) ?_
      refine jm_icN (Y := YX6_readsCell) (pc := 93) 1 dX6_readsCell_93 rfl ?_
      refine jm_addN (Y := YX6_readsCell) (pc := 94) dX6_readsCell_94 ?_
      refine jm_iasN (Y := YX6_readsCell) (pc := 95) dX6_readsCell_95 rfl (by omega) ?_
      rw [PT_18]
      refine jm_retv (Y := YX6_readsCell) (pc := 96) (st := []) dX6_readsCell_96 rfl ?_
      first | exact absurd h_76 (x_c3_12 h12) | exact jm_eqM (by rw [x_cg_n h_76]) | exact jm_eqM (by rw [x_cg_y h_76]; rfl) | fail
  · refine jm_icN (Y := YX6_readsCell) (pc := 62) 1 dX6_readsCell_62 rfl ?_
    refine jm_goto (Y := YX6_readsCell) (pc := 63) dX6_readsCell_63 rfl ?_
    refine jm_icN (Y := YX6_readsCell) (pc := 67) 1 dX6_readsCell_67 rfl ?_
    refine jm_V2ie (Y := YX6_readsCell) (pc := 68) dX6_readsCell_68 lk_RX6_111 ⟨_, rfl⟩ rfl rfl rfl (by decide) (Nat.le_of_ble_eq_true rfl) ⟨by decide, by decide⟩ (c_takes t n (jm_sf M 18 (jm_n (g))) hn hb h16 h6 fk ((x_c1 t n g s).2) (x_c1_p hp) (decide (s_tk t n (x_c1 t n g s).2.1 = 4)) _ (by first | exact (jm_b_t (decide_eq_true h_59)).symm | exact (jm_b_f (fun z => h_59 (of_decide_eq_true z))).symm | exact (jm_b_f (fun z => absurd (of_decide_eq_true z) (by omega))).symm) 1 (by decide)) ?_
    refine jm_pop (Y := YX6_readsCell) (pc := 71) dX6_readsCell_71 rfl ?_
    refine jm_ald_n (Y := YX6_readsCell) (pc := 72) (i := 0) dX6_readsCell_72 rfl rfl ?_
    refine jm_V0ie (Y := YX6_readsCell) (pc := 73) dX6_readsCell_73 lk_RX6_101 ⟨_, rfl⟩ rfl (by decide) (Nat.le_of_ble_eq_true rfl) ⟨by decide, by decide⟩ (c_isWell t n (jm_sf M 18 (jm_n (g))) hn hb h16 h6 fk (x_c3 t n g s) (x_c3_p hp)) ?_
    refine jm_if_eqB (Y := YX6_readsCell) (pc := 76) dX6_readsCell_76 rfl (fun h_76 => ?_) (fun h_76 => ?_)
    · refine jm_retv (Y := YX6_readsCell) (pc := 96) (st := []) dX6_readsCell_96 rfl ?_
      first | exact absurd h_76 (x_c3_12 h12) | exact jm_eqM (by rw [x_cg_n h_76]) | exact jm_eqM (by rw [x_cg_y h_76]; rfl) | fail
    · refine jm_ald_n (Y := YX6_readsCell) (pc := 79) (i := 0) dX6_readsCell_79 rfl rfl ?_
      refine jm_getR (Y := YX6_readsCell) (pc := 80) dX6_readsCell_80 fr_RX6_28 rfl (by decide) rfl ?_
      refine jm_ild_n (Y := YX6_readsCell) (pc := 83) (i := 1) dX6_readsCell_83 rfl rfl ?_
      refine jm_ild_n (Y := YX6_readsCell) (pc := 84) (i := 2) dX6_readsCell_84 rfl rfl ?_
      refine jm_iasN (Y := YX6_readsCell) (pc := 85) dX6_readsCell_85 rfl (by omega) ?_
      rw [PT_18]
      refine jm_ald_n (Y := YX6_readsCell) (pc := 86) (i := 0) dX6_readsCell_86 rfl rfl ?_
      refine jm_getR (Y := YX6_readsCell) (pc := 87) dX6_readsCell_87 fr_RX6_28 rfl (by decide) rfl ?_
      refine jm_icN (Y := YX6_readsCell) (pc := 90) 2 dX6_readsCell_90 rfl ?_
      refine jm_dup2 (Y := YX6_readsCell) (pc := 91) dX6_readsCell_91 rfl rfl ?_
      refine jm_ialN (Y := YX6_readsCell) (pc := 92) dX6_readsCell_92 (by first | assumption | exact jm_arR1 ha | exact jm_arR2 ha | exact jm_arR3 ha | exact jm_arR1 hb | exact jm_arR2 hb | exact jm_arR3 hb | rfl) (by omega) ((show _ = nI (g 2) from congrArg nI (wU_n g _ (by omega)))) ?_
      refine jm_icN (Y := YX6_readsCell) (pc := 93) 1 dX6_readsCell_93 rfl ?_
      refine jm_addN (Y := YX6_readsCell) (pc := 94) dX6_readsCell_94 ?_
      refine jm_iasN (Y := YX6_readsCell) (pc := 95) dX6_readsCell_95 rfl (by omega) ?_
      rw [PT_18]
      refine jm_retv (Y := YX6_readsCell) (pc := 96) (st := []) dX6_readsCell_96 rfl ?_
      first | exact absurd h_76 (x_c3_12 h12) | exact jm_eqM (by rw [x_cg_n h_76]) | exact jm_eqM (by rw [x_cg_y h_76]; rfl) | fail
theorem c_readsWordA (t : Nat → Nat) (n : Nat) (M : jm_M) (hn : n ≤ 110) (hb : ∀ i, t i ≤ 255) (h16 : ∀ i, i < n → M 16 i = nI (t i)) (h6 : M 11 6 = nI n) (fk : Int32) (s : Nat × Nat) (hp : s.1 ≤ n) (g : Nat → Nat) (hg2 : 1 ≤ g 2) (hg12 : g 2 ≤ 12) (hg3 : g 3 ≤ 7) (hl : s_tk t n s.1 = 1) (h7 : g 3 < 7) : jm_J none YX6_readsWord 0 [some (.ref 11), none, none, none, none] [] (PT (jm_sf M 18 (jm_n (g))) t n fk (s)) (jm_is none (PT (jm_sf M 18 (jm_n (x_wg t n g s))) t n fk (x_w4 t n g s))) := by
  have k5 := s_tk_le t n (x_w3 t n g s).2.1
  have tb := hb s.1
  refine jm_ald_n (Y := YX6_readsWord) (pc := 0) (i := 0) dX6_readsWord_0 rfl rfl ?_
  refine jm_getE (Y := YX6_readsWord) (pc := 1) dX6_readsWord_1 fw_RX6_92 rfl (by decide) rfl ((show _ = nI (t s.1) from s_tv_l hl)) ?_
  refine jm_S1ie (Y := YX6_readsWord) (pc := 4) dX6_readsWord_4 lk_RX6_118 ⟨_, rfl⟩ rfl (by decide) (Nat.le_of_ble_eq_true rfl) ⟨by decide, by decide⟩ (c_kindOf _ (t s.1) (hb s.1)) ?_
  refine jm_ist_n (Y := YX6_readsWord) (pc := 7) (i := 1) (ls' := [_, _, _, _, _]) dX6_readsWord_7 rfl (Nat.le_of_ble_eq_true rfl) rfl rfl ?_
  refine jm_ald_n (Y := YX6_readsWord) (pc := 8) (i := 0) dX6_readsWord_8 rfl rfl ?_
  refine jm_ald_n (Y := YX6_readsWord) (pc := 9) (i := 0) dX6_readsWord_9 rfl rfl ?_
  refine jm_getR (Y := YX6_readsWord) (pc := 10) dX6_readsWord_10 fr_RX6_28 rfl (by decide) rfl ?_
  refine jm_icN (Y := YX6_readsWord) (pc := 13) 3 dX6_readsWord_13 rfl ?_
  refine jm_ialN (Y := YX6_readsWord) (pc := 14) dX6_readsWord_14 (by first | assumption | exact jm_arR1 ha | exact jm_arR2 ha | exact jm_arR3 ha | exact jm_arR1 hb | exact jm_arR2 hb | exact jm_arR3 hb | rfl) (by omega) ((show _ = nI (g 3) from rfl)) ?_
  refine jm_bpN (Y := YX6_readsWord) (pc := 15) 7 dX6_readsWord_15 rfl ?_
  refine jm_icmp_geN (Y := YX6_readsWord) (pc := 17) dX6_readsWord_17 rfl (by omega) (by omega) (fun h_17 => by exfalso; omega) (fun h_17 => ?_)
  refine jm_icN (Y := YX6_readsWord) (pc := 20) 1 dX6_readsWord_20 rfl ?_
  refine jm_goto (Y := YX6_readsWord) (pc := 21) dX6_readsWord_21 rfl ?_
  refine jm_icN (Y := YX6_readsWord) (pc := 25) 3 dX6_readsWord_25 rfl ?_
  refine jm_V2ie (Y := YX6_readsWord) (pc := 26) dX6_readsWord_26 lk_RX6_111 ⟨_, rfl⟩ rfl rfl rfl (by decide) (Nat.le_of_ble_eq_true rfl) ⟨by decide, by decide⟩ (c_takes t n (jm_sf M 18 (jm_n (g))) hn hb h16 h6 fk (s) hp (decide (g 3 < 7)) _ (by first | exact (jm_b_t (decide_eq_true h7)).symm | exact (jm_b_f (fun z => h7 (of_decide_eq_true z))).symm) 3 (by decide)) ?_
  refine jm_pop (Y := YX6_readsWord) (pc := 29) dX6_readsWord_29 rfl ?_
  refine jm_bpN (Y := YX6_readsWord) (pc := 30) 17 dX6_readsWord_30 rfl ?_
  refine jm_icN (Y := YX6_readsWord) (pc := 32) 4 dX6_readsWord_32 rfl ?_
  refine jm_ald_n (Y := YX6_readsWord) (pc := 33) (i := 0) dX6_readsWord_33 rfl rfl ?_
  refine jm_getR (Y := YX6_readsWord) (pc := 34) dX6_readsWord_34 fr_RX6_28 rfl (by decide) rfl ?_
  refine jm_icN (Y := YX6_readsWord) (pc := 37) 3 dX6_readsWord_37 rfl ?_
  refine jm_ialN (Y := YX6_readsWord) (pc := 38) dX6_readsWord_38 (by first | assumption | exact jm_arR1 ha | exact jm_arR2 ha | exact jm_arR3 ha | exact jm_arR1 hb | exact jm_arR2 hb | exact jm_arR3 hb | rfl) (by omega) ((show _ = nI (g 3) from rfl)) ?_
  refine jm_bpN (Y := YX6_readsWord) (pc := 39) 7 dX6_readsWord_39 rfl ?_
  refine jm_icmp_geN (Y := YX6_readsWord) (pc := 41) dX6_readsWord_41 rfl (by omega) (by omega) (fun h_41 => by exfalso; omega) (fun h_41 => ?_)
  refine jm_ald_n (Y := YX6_readsWord) (pc := 44) (i := 0) dX6_readsWord_44 rfl rfl ?_
  refine jm_getR (Y := YX6_readsWord) (pc := 45) dX6_readsWord_45 fr_RX6_28 rfl (by decide) rfl ?_
  refine jm_icN (Y := YX6_readsWord) (pc := 48) 3 dX6_readsWord_48 rfl ?_
  refine jm_ialN (Y := YX6_readsWord) (pc := 49) dX6_readsWord_49 (by first | assumption | exact jm_arR1 ha | exact jm_arR2 ha | exact jm_arR3 ha | exact jm_arR1 hb | exact jm_arR2 hb | exact jm_arR3 hb | rfl) (by omega) ((show _ = nI (g 3) from rfl)) ?_
  refine jm_goto (Y := YX6_readsWord) (pc := 50) dX6_readsWord_50 rfl ?_
  refine jm_mulN (Y := YX6_readsWord) (pc := 54) dX6_readsWord_54 ?_
  refine jm_addN (Y := YX6_readsWord) (pc := 55) dX6_readsWord_55 ?_
  refine jm_ist_n (Y := YX6_readsWord) (pc := 56) (i := 2) (ls' := [_, _, _, _, _]) dX6_readsWord_56 rfl (Nat.le_of_ble_eq_true rfl) rfl rfl ?_
  refine jm_ald_n (Y := YX6_readsWord) (pc := 57) (i := 0) dX6_readsWord_57 rfl rfl ?_
  refine jm_icN (Y := YX6_readsWord) (pc := 58) 1 dX6_readsWord_58 rfl ?_
  refine jm_bpN (Y := YX6_readsWord) (pc := 59) 60 dX6_readsWord_59 rfl ?_
  refine jm_V2ie (Y := YX6_readsWord) (pc := 61) dX6_readsWord_61 lk_RX6_115 ⟨_, rfl⟩ rfl rfl rfl (by decide) (Nat.le_of_ble_eq_true rfl) ⟨by decide, by decide⟩ (c_figure t n (jm_sf M 18 (jm_n (g))) hn hb h16 h6 fk (x_tk t n (decide (g 3 < 7)) 3 s) (x_tk_p hp) 1 61 (by decide) (nI 60) (by decide)) ?_
  refine jm_ist_n (Y := YX6_readsWord) (pc := 64) (i := 3) (ls' := [_, _, _, _, _]) dX6_readsWord_64 rfl (Nat.le_of_ble_eq_true rfl) rfl rfl ?_
  refine jm_ald_n (Y := YX6_readsWord) (pc := 65) (i := 0) dX6_readsWord_65 rfl rfl ?_
  refine jm_icN (Y := YX6_readsWord) (pc := 66) 0 dX6_readsWord_66 rfl ?_
  refine jm_ald_n (Y := YX6_readsWord) (pc := 67) (i := 0) dX6_readsWord_67 rfl rfl ?_
  refine jm_getR (Y := YX6_readsWord) (pc := 68) dX6_readsWord_68 fr_RX6_28 rfl (by decide) rfl ?_
  refine jm_icN (Y := YX6_readsWord) (pc := 71) 2 dX6_readsWord_71 rfl ?_
  refine jm_ialN (Y := YX6_readsWord) (pc := 72) dX6_readsWord_72 (by first | assumption | exact jm_arR1 ha | exact jm_arR2 ha | exact jm_arR3 ha | exact jm_arR1 hb | exact jm_arR2 hb | exact jm_arR3 hb | rfl) (by omega) (by first | assumption | rfl) ?_
  refine jm_icN (Y := YX6_readsWord) (pc := 73) 1 dX6_readsWord_73 rfl ?_
  refine jm_subN (Y := YX6_readsWord) (pc := 74) dX6_readsWord_74 (by omega) ?_
  refine jm_V2ie (Y := YX6_readsWord) (pc := 75) dX6_readsWord_75 lk_RX6_121 ⟨_, rfl⟩ rfl rfl rfl (by decide) (Nat.le_of_ble_eq_true rfl) ⟨by decide, by decide⟩ (c_follows t n (jm_sf M 18 (jm_n (g))) hn hb h16 h6 fk ((x_w2 t n g s).2) (x_w2_p hp) 0 (g 2) (by decide) (nI (g 2 - 1)) (by rw [jm_tI (by omega)]; omega)) ?_
  refine jm_ist (Y := YX6_readsWord) (pc := 78) (ls' := [_, _, _, _, _]) dX6_readsWord_78 (Nat.le_of_ble_eq_true rfl) rfl rfl ?_
  refine jm_ald_n (Y := YX6_readsWord) (pc := 80) (i := 0) dX6_readsWord_80 rfl rfl ?_
  refine jm_ald_n (Y := YX6_readsWord) (pc := 81) (i := 0) dX6_readsWord_81 rfl rfl ?_
  refine jm_getE (Y := YX6_readsWord) (pc := 82) dX6_readsWord_82 fw_RX6_95 rfl (by decide) rfl ((show _ = nI (s_tk t n (x_w3 t n g s).2.1) from rfl)) ?_
  refine jm_icN (Y := YX6_readsWord) (pc := 85) 4 dX6_readsWord_85 rfl ?_
  refine jm_icmp_neN (Y := YX6_readsWord) (pc := 86) dX6_readsWord_86 rfl (by omega) (by omega) (fun h_86 => ?_) (fun h_86 => ?_)
  · refine jm_icN (Y := YX6_readsWord) (pc := 93) 0 dX6_readsWord_93 rfl ?_
    refine jm_icN (Y := YX6_readsWord) (pc := 94) 1 dX6_readsWord_94 rfl ?_
    refine jm_V2ie (Y := YX6_readsWord) (pc := 95) dX6_readsWord_95 lk_RX6_111 ⟨_, rfl⟩ rfl rfl rfl (by decide) (Nat.le_of_ble_eq_true rfl) ⟨by decide, by decide⟩ (c_takes t n (jm_sf M 18 (jm_n (g))) hn hb h16 h6 fk ((x_w3 t n g s).2) (x_w3_p hp) (decide (s_tk t n (x_w3 t n g s).2.1 = 4)) _ (by first | exact (jm_b_t (decide_eq_true h_86)).symm | exact (jm_b_f (fun z => h_86 (of_decide_eq_true z))).symm | exact (jm_b_f (fun z => absurd (of_decide_eq_true z) (by omega))).symm) 1 (by decide)) ?_
    refine jm_pop (Y := YX6_readsWord) (pc := 98) dX6_readsWord_98 rfl ?_
    refine jm_ald_n (Y := YX6_readsWord) (pc := 99) (i := 0) dX6_readsWord_99 rfl rfl ?_
    refine jm_V0ie (Y := YX6_readsWord) (pc := 100) dX6_readsWord_100 lk_RX6_101 ⟨_, rfl⟩ rfl (by decide) (Nat.le_of_ble_eq_true rfl) ⟨by decide, by decide⟩ (c_isWell t n (jm_sf M 18 (jm_n (g))) hn hb h16 h6 fk (x_w4 t n g s) (x_w4_p hp)) ?_
    refine jm_if_eqB (Y := YX6_readsWord) (pc := 103) dX6_readsWord_103 rfl (fun h_103 => ?_) (fun h_103 => ?_)
    · refine jm_retv (Y := YX6_readsWord) (pc := 142) (st := []) dX6_readsWord_142 rfl ?_
      first | exact absurd h_103 (x_w4_7 h7) | exact jm_eqM (by rw [x_wg_n h_103]) | exact jm_eqM (by rw [x_wg_y h_103]; rfl) | fail
    · refine jm_ald_n (Y := YX6_readsWord) (pc := 106) (i := 0) dX6_readsWord_106 rfl rfl ?_
      refine jm_getR (Y := YX6_readsWord) (pc := 107) dX6_readsWord_107 fr_RX6_28 rfl (by decide) rfl ?_
      refine jm_ild_n (Y := YX6_readsWord) (pc := 110) (i := 2) dX6_readsWord_110 rfl rfl ?_
      refine jm_ild_n (Y := YX6_readsWord) (pc := 111) (i := 1) dX6_readsWord_111 rfl rfl ?_
      refine jm_iasN (Y := YX6_readsWord) (pc := 112) dX6_readsWord_112 rfl (by omega) ?_
      rw [PT_18]
      refine jm_ald_n (Y := YX6_readsWord) (pc := 113) (i := 0) dX6_readsWord_113 rfl rfl ?_
      refine jm_getR (Y := YX6_readsWord) (pc := 114) dX6_readsWord_114 fr_RX6_28 rfl (by decide) rfl ?_
      refine jm_ild_n (Y := YX6_readsWord) (pc := 117) (i := 2) dX6_readsWord_117 rfl rfl ?_
      refine jm_icN (Y := YX6_readsWord) (pc := 118) 1 dX6_readsWord_118 rfl ?_
      refine jm_addN (Y := YX6_readsWord) (pc := 119) dX6_readsWord_119 ?_
      refine jm_ild_n (Y := YX6_readsWord) (pc := 120) (i := 3) dX6_readsWord_120 rfl rfl ?_
      refine jm_iasN (Y := YX6_readsWord) (pc := 121) dX6_readsWord_121 rfl (by omega) ?_
      rw [PT_18]
      refine jm_ald_n (Y := YX6_readsWord) (pc := 122) (i := 0) dX6_readsWord_122 rfl rfl ?_
      refine jm_getR (Y := YX6_readsWord) (pc := 123) dX6_readsWord_123 fr_RX6_28 rfl (by decide) rfl ?_
      refine jm_ild_n (Y := YX6_readsWord) (pc := 126) (i := 2) dX6_readsWord_126 rfl rfl ?_
      refine jm_icN (Y := YX6_readsWord) (pc := 127) 2 dX6_readsWord_127 rfl ?_
      refine jm_addN (Y := YX6_readsWord) (pc := 128) dX6_readsWord_128 ?_
      refine jm_iload (Y := YX6_readsWord) (pc := 129) dX6_readsWord_129 rfl ?_
      refine jm_iasN (Y := YX6_readsWord) (pc := 131) dX6_readsWord_131 rfl (by omega) ?_
      rw [PT_18]
      refine jm_ald_n (Y := YX6_readsWord) (pc := 132) (i := 0) dX6_readsWord_132 rfl rfl ?_
      refine jm_getR (Y := YX6_readsWord) (pc := 133) dX6_readsWord_133 fr_RX6_28 rfl (by decide) rfl ?_
      refine jm_icN (Y := YX6_readsWord) (pc := 136) 3 dX6_readsWord_136 rfl ?_
      refine jm_dup2 (Y := YX6_readsWord) (pc := 137) dX6_readsWord_137 rfl rfl ?_
      refine jm_ialN (Y := YX6_readsWord) (pc := 138) dX6_readsWord_138 (by first | assumption | exact jm_arR1 ha | exact jm_arR2 ha | exact jm_arR3 ha | exact jm_arR1 hb | exact jm_arR2 hb | exact jm_arR3 hb | rfl) (by omega) ((show _ = nI (g 3) from congrArg nI (by rw [wU_n _ _ (by omega), wU_n _ _ (by omega), wU_n _ _ (by omega)]))) ?_
      refine jm_icN (Y := YX6_readsWord) (pc := 139) 1 dX6_readsWord_139 rfl ?_
      refine jm_addN (Y := YX6_readsWord) (pc := 140) dX6_readsWord_140 ?_
      refine jm_iasN (Y := YX6_readsWord) (pc := 141) dX6_readsWord_141 rfl (by omega) ?_
      rw [PT_18]
      refine jm_retv (Y := YX6_readsWord) (pc := 142) (st := []) dX6_readsWord_142 rfl ?_
      first | exact absurd h_103 (x_w4_7 h7) | exact jm_eqM (by rw [x_wg_n h_103]) | exact jm_eqM (by rw [x_wg_y h_103]; rfl) | fail
  · refine jm_icN (Y := YX6_readsWord) (pc := 89) 1 dX6_readsWord_89 rfl ?_
    refine jm_goto (Y := YX6_readsWord) (pc := 90) dX6_readsWord_90 rfl ?_
    refine jm_icN (Y := YX6_readsWord) (pc := 94) 1 dX6_readsWord_94 rfl ?_
    refine jm_V2ie (Y := YX6_readsWord) (pc := 95) dX6_readsWord_95 lk_RX6_111 ⟨_, rfl⟩ rfl rfl rfl (by decide) (Nat.le_of_ble_eq_true rfl) ⟨by decide, by decide⟩ (c_takes t n (jm_sf M 18 (jm_n (g))) hn hb h16 h6 fk ((x_w3 t n g s).2) (x_w3_p hp) (decide (s_tk t n (x_w3 t n g s).2.1 = 4)) _ (by first | exact (jm_b_t (decide_eq_true h_86)).symm | exact (jm_b_f (fun z => h_86 (of_decide_eq_true z))).symm | exact (jm_b_f (fun z => absurd (of_decide_eq_true z) (by omega))).symm) 1 (by decide)) ?_
    refine jm_pop (Y := YX6_readsWord) (pc := 98) dX6_readsWord_98 rfl ?_
    refine jm_ald_n (Y := YX6_readsWord) (pc := 99) (i := 0) dX6_readsWord_99 rfl rfl ?_
    refine jm_V0ie (Y := YX6_readsWord) (pc := 100) dX6_readsWord_100 lk_RX6_101 ⟨_, rfl⟩ rfl (by decide) (Nat.le_of_ble_eq_true rfl) ⟨by decide, by decide⟩ (c_isWell t n (jm_sf M 18 (jm_n (g))) hn hb h16 h6 fk (x_w4 t n g s) (x_w4_p hp)) ?_
    refine jm_if_eqB (Y := YX6_readsWord) (pc := 103) dX6_readsWord_103 rfl (fun h_103 => ?_) (fun h_103 => ?_)
    · refine jm_retv (Y := YX6_readsWord) (pc := 142) (st := []) dX6_readsWord_142 rfl ?_
      first | exact absurd h_103 (x_w4_7 h7) | exact jm_eqM (by rw [x_wg_n h_103]) | exact jm_eqM (by rw [x_wg_y h_103]; rfl) | fail
    · refine jm_ald_n (Y := YX6_readsWord) (pc := 106) (i := 0) dX6_readsWord_106 rfl rfl ?_
      refine jm_getR (Y := YX6_readsWord) (pc := 107) dX6_readsWord_107 fr_RX6_28 rfl (by decide) rfl ?_
      refine jm_ild_n (Y := YX6_readsWord) (pc := 110) (i := 2) dX6_readsWord_110 rfl rfl ?_
      refine jm_ild_n (Y := YX6_readsWord) (pc := 111) (i := 1) dX6_readsWord_111 rfl rfl ?_
      refine jm_iasN (Y := YX6_readsWord) (pc := 112) dX6_readsWord_112 rfl (by omega) ?_
      rw [PT_18]
      refine jm_ald_n (Y := YX6_readsWord) (pc := 113) (i := 0) dX6_readsWord_113 rfl rfl ?_
      refine jm_getR (Y := YX6_readsWord) (pc := 114) dX6_readsWord_114 fr_RX6_28 rfl (by decide) rfl ?_
      refine jm_ild_n (Y := YX6_readsWord) (pc := 117) (i := 2) dX6_readsWord_117 rfl rfl ?_
      refine jm_icN (Y := YX6_readsWord) (pc := 118) 1 dX6_readsWord_118 rfl ?_
      refine jm_addN (Y := YX6_readsWord) (pc := 119) dX6_readsWord_119 ?_
      refine jm_ild_n (Y := YX6_readsWord) (pc := 120) (i := 3) dX6_readsWord_120 rfl rfl ?_
      refine jm_iasN (Y := YX6_readsWord) (pc := 121) dX6_readsWord_121 rfl (by omega) ?_
      rw [PT_18]
      refine jm_ald_n (Y := YX6_readsWord) (pc := 122) (i := 0) dX6_readsWord_122 rfl rfl ?_
      refine jm_getR (Y := YX6_readsWord) (pc := 123) dX6_readsWord_123 fr_RX6_28 rfl (by decide) rfl ?_
      refine jm_ild_n (Y := YX6_readsWord) (pc := 126) (i := 2) dX6_readsWord_126 rfl rfl ?_
      refine jm_icN (Y := YX6_readsWord) (pc := 127) 2 dX6_readsWord_127 rfl ?_
      refine jm_addN (Y := YX6_readsWord) (pc := 128) dX6_readsWord_128 ?_
      refine jm_iload (Y := YX6_readsWord) (pc := 129) dX6_readsWord_129 rfl ?_
      refine jm_iasN (Y := YX6_readsWord) (pc := 131) dX6_readsWord_131 rfl (by omega) ?_
      rw [PT_18]
      refine jm_ald_n (Y := YX6_readsWord) (pc := 132) (i := 0) dX6_readsWord_132 rfl rfl ?_
      refine jm_getR (Y := YX6_readsWord) (pc := 133) dX6_readsWord_133 fr_RX6_28 rfl (by decide) rfl ?_
      refine jm_icN (Y := YX6_readsWord) (pc := 136) 3 dX6_readsWord_136 rfl ?_
      refine jm_dup2 (Y := YX6_readsWord) (pc := 137) dX6_readsWord_137 rfl rfl ?_
      refine jm_ialN (Y := YX6_readsWord) (pc := 138) dX6_readsWord_138 (by first | assumption | exact jm_arR1 ha | exact jm_arR2 ha | exact jm_arR3 ha | exact jm_arR1 hb | exact jm_arR2 hb | exact jm_arR3 hb | rfl) (by omega) ((show _ = nI (g 3) from congrArg nI (by rw [wU_n _ _ (by omega), wU_n _ _ (by omega), wU_n _ _ (by omega)]))) ?_
      refine jm_icN (Y := YX6_readsWord) (pc := 139) 1 dX6_readsWord_139 rfl ?_
      refine jm_addN (Y := YX6_readsWord) (pc := 140) dX6_readsWord_140 ?_
      refine jm_iasN (Y := YX6_readsWord) (pc := 141) dX6_readsWord_141 rfl (by omega) ?_
      rw [PT_18]
      refine jm_retv (Y := YX6_readsWord) (pc := 142) (st := []) dX6_readsWord_142 rfl ?_
      first | exact absurd h_103 (x_w4_7 h7) | exact jm_eqM (by rw [x_wg_n h_103]) | exact jm_eqM (by rw [x_wg_y h_103]; rfl) | fail
theorem c_readsWordB (t : Nat → Nat) (n : Nat) (M : jm_M) (hn : n ≤ 110) (hb : ∀ i, t i ≤ 255) (h16 : ∀ i, i < n → M 16 i = nI (t i)) (h6 : M 11 6 = nI n) (fk : Int32) (s : Nat × Nat) (hp : s.1 ≤ n) (g : Nat → Nat) (hg2 : 1 ≤ g 2) (hg12 : g 2 ≤ 12) (hg3 : g 3 ≤ 7) (hl : s_tk t n s.1 = 1) (h7 : ¬ g 3 < 7) : jm_J none YX6_readsWord 0 [some (.ref 11), none, none, none, none] [] (PT (jm_sf M 18 (jm_n (g))) t n fk (s)) (jm_is none (PT (jm_sf M 18 (jm_n (x_wg t n g s))) t n fk (x_w4 t n g s))) := by
  have k5 := s_tk_le t n (x_w3 t n g s).2.1
  have tb := hb s.1
  refine jm_ald_n (Y := YX6_readsWord) (pc := 0) (i := 0) dX6_readsWord_0 rfl rfl ?_
  refine jm_getE (Y := YX6_readsWord) (pc := 1) dX6_readsWord_1 fw_RX6_92 rfl (by decide) rfl ((show _ = nI (t s.1) from s_tv_l hl)) ?_
  refine jm_S1ie (Y := YX6_readsWord) (pc := 4) dX6_readsWord_4 lk_RX6_118 ⟨_, rfl⟩ rfl (by decide) (Nat.le_of_ble_eq_true rfl) ⟨by decide, by decide⟩ (c_kindOf _ (t s.1) (hb s.1)) ?_
  refine jm_ist_n (Y := YX6_readsWord) (pc := 7) (i := 1) (ls' := [_, _, _, _, _]) dX6_readsWord_7 rfl (Nat.le_of_ble_eq_true rfl) rfl rfl ?_
  refine jm_ald_n (Y := YX6_readsWord) (pc := 8) (i := 0) dX6_readsWord_8 rfl rfl ?_
  refine jm_ald_n (Y := YX6_readsWord) (pc := 9) (i := 0) dX6_readsWord_9 rfl rfl ?_
  refine jm_getR (Y := YX6_readsWord) (pc := 10) dX6_readsWord_10 fr_RX6_28 rfl (by decide) rfl ?_
  refine jm_icN (Y := YX6_readsWord) (pc := 13) 3 dX6_readsWord_13 rfl ?_
  refine jm_ialN (Y := YX6_readsWord) (pc := 14) dX6_readsWord_14 (by first | assumption | exact jm_arR1 ha | exact jm_arR2 ha | exact jm_arR3 ha | exact jm_arR1 hb | exact jm_arR2 hb | exact jm_arR3 hb | rfl) (by omega) ((show _ = nI (g 3) from rfl)) ?_
  refine jm_bpN (Y := YX6_readsWord) (pc := 15) 7 dX6_readsWord_15 rfl ?_
  refine jm_icmp_geN (Y := YX6_readsWord) (pc := 17) dX6_readsWord_17 rfl (by omega) (by omega) (fun h_17 => ?_) (fun h_17 => by exfalso; omega)
  refine jm_icN (Y := YX6_readsWord) (pc := 24) 0 dX6_readsWord_24 rfl ?_
  refine jm_icN (Y := YX6_readsWord) (pc := 25) 3 dX6_readsWord_25 rfl ?_
  refine jm_V2ie (Y := YX6_readsWord) (pc := 26) dX6_readsWord_26 lk_RX6_111 ⟨_, rfl⟩ rfl rfl rfl (by decide) (Nat.le_of_ble_eq_true rfl) ⟨by decide, by decide⟩ (c_takes t n (jm_sf M 18 (jm_n (g))) hn hb h16 h6 fk (s) hp (decide (g 3 < 7)) _ (by first | exact (jm_b_t (decide_eq_true h7)).symm | exact (jm_b_f (fun z => h7 (of_decide_eq_true z))).symm) 3 (by decide)) ?_
  refine jm_pop (Y := YX6_readsWord) (pc := 29) dX6_readsWord_29 rfl ?_
  refine jm_bpN (Y := YX6_readsWord) (pc := 30) 17 dX6_readsWord_30 rfl ?_
  refine jm_icN (Y := YX6_readsWord) (pc := 32) 4 dX6_readsWord_32 rfl ?_
  refine jm_ald_n (Y := YX6_readsWord) (pc := 33) (i := 0) dX6_readsWord_33 rfl rfl ?_
  refine jm_getR (Y := YX6_readsWord) (pc := 34) dX6_readsWord_34 fr_RX6_28 rfl (by decide) rfl ?_
  refine jm_icN (Y := YX6_readsWord) (pc := 37) 3 dX6_readsWord_37 rfl ?_
  refine jm_ialN (Y := YX6_readsWord) (pc := 38) dX6_readsWord_38 (by first | assumption | exact jm_arR1 ha | exact jm_arR2 ha | exact jm_arR3 ha | exact jm_arR1 hb | exact jm_arR2 hb | exact jm_arR3 hb | rfl) (by omega) ((show _ = nI (g 3) from rfl)) ?_
  refine jm_bpN (Y := YX6_readsWord) (pc := 39) 7 dX6_readsWord_39 rfl ?_
  refine jm_icmp_geN (Y := YX6_readsWord) (pc := 41) dX6_readsWord_41 rfl (by omega) (by omega) (fun h_41 => ?_) (fun h_41 => by exfalso; omega)
  refine jm_icN (Y := YX6_readsWord) (pc := 53) 0 dX6_readsWord_53 rfl ?_
  refine jm_mulN (Y := YX6_readsWord) (pc := 54) dX6_readsWord_54 ?_
  refine jm_addN (Y := YX6_readsWord) (pc := 55) dX6_readsWord_55 ?_
  refine jm_ist_n (Y := YX6_readsWord) (pc := 56) (i := 2) (ls' := [_, _, _, _, _]) dX6_readsWord_56 rfl (Nat.le_of_ble_eq_true rfl) rfl rfl ?_
  refine jm_ald_n (Y := YX6_readsWord) (pc := 57) (i := 0) dX6_readsWord_57 rfl rfl ?_
  refine jm_icN (Y := YX6_readsWord) (pc := 58) 1 dX6_readsWord_58 rfl ?_
  refine jm_bpN (Y := YX6_readsWord) (pc := 59) 60 dX6_readsWord_59 rfl ?_
  refine jm_V2ie (Y := YX6_readsWord) (pc := 61) dX6_readsWord_61 lk_RX6_115 ⟨_, rfl⟩ rfl rfl rfl (by decide) (Nat.le_of_ble_eq_true rfl) ⟨by decide, by decide⟩ (c_figure t n (jm_sf M 18 (jm_n (g))) hn hb h16 h6 fk (x_tk t n (decide (g 3 < 7)) 3 s) (x_tk_p hp) 1 61 (by decide) (nI 60) (by decide)) ?_
  refine jm_ist_n (Y := YX6_readsWord) (pc := 64) (i := 3) (ls' := [_, _, _, _, _]) dX6_readsWord_64 rfl (Nat.le_of_ble_eq_true rfl) rfl rfl ?_
  refine jm_ald_n (Y := YX6_readsWord) (pc := 65) (i := 0) dX6_readsWord_65 rfl rfl ?_
  refine jm_icN (Y := YX6_readsWord) (pc := 66) 0 dX6_readsWord_66 rfl ?_
  refine jm_ald_n (Y := YX6_readsWord) (pc := 67) (i := 0) dX6_readsWord_67 rfl rfl ?_
  refine jm_getR (Y := YX6_readsWord) (pc := 68) dX6_readsWord_68 fr_RX6_28 rfl (by decide) rfl ?_
  refine jm_icN (Y := YX6_readsWord) (pc := 71) 2 dX6_readsWord_71 rfl ?_
  refine jm_ialN (Y := YX6_readsWord) (pc := 72) dX6_readsWord_72 (by first | assumption | exact jm_arR1 ha | exact jm_arR2 ha | exact jm_arR3 ha | exact jm_arR1 hb | exact jm_arR2 hb | exact jm_arR3 hb | rfl) (by omega) (by first | assumption | rfl) ?_
  refine jm_icN (Y := YX6_readsWord) (pc := 73) 1 dX6_readsWord_73 rfl ?_
  refine jm_subN (Y := YX6_readsWord) (pc := 74) dX6_readsWord_74 (by omega) ?_
  refine jm_V2ie (Y := YX6_readsWord) (pc := 75) dX6_readsWord_75 lk_RX6_121 ⟨_, rfl⟩ rfl rfl rfl (by decide) (Nat.le_of_ble_eq_true rfl) ⟨by decide, by decide⟩ (c_follows t n (jm_sf M 18 (jm_n (g))) hn hb h16 h6 fk ((x_w2 t n g s).2) (x_w2_p hp) 0 (g 2) (by decide) (nI (g 2 - 1)) (by rw [jm_tI (by omega)]; omega)) ?_
  refine jm_ist (Y := YX6_readsWord) (pc := 78) (ls' := [_, _, _, _, _]) dX6_readsWord_78 (Nat.le_of_ble_eq_true rfl) rfl rfl ?_
  refine jm_ald_n (Y := YX6_readsWord) (pc := 80) (i := 0) dX6_readsWord_80 rfl rfl ?_
  refine jm_ald_n (Y := YX6_readsWord) (pc := 81) (i := 0) dX6_readsWord_81 rfl rfl ?_
  refine jm_getE (Y := YX6_readsWord) (pc := 82) dX6_readsWord_82 fw_RX6_95 rfl (by decide) rfl ((show _ = nI (s_tk t n (x_w3 t n g s).2.1) from rfl)) ?_
  refine jm_icN (Y := YX6_readsWord) (pc := 85) 4 dX6_readsWord_85 rfl ?_
  refine jm_icmp_neN (Y := YX6_readsWord) (pc := 86) dX6_readsWord_86 rfl (by omega) (by omega) (fun h_86 => ?_) (fun h_86 => ?_)
  · refine jm_icN (Y := YX6_readsWord) (pc := 93) 0 dX6_readsWord_93 rfl ?_
    refine jm_icN (Y := YX6_readsWord) (pc := 94) 1 dX6_readsWord_94 rfl ?_
    refine jm_V2ie (Y := YX6_readsWord) (pc := 95) dX6_readsWord_95 lk_RX6_111 ⟨_, rfl⟩ rfl rfl rfl (by decide) (Nat.le_of_ble_eq_true rfl) ⟨by decide, by decide⟩ (c_takes t n (jm_sf M 18 (jm_n (g))) hn hb h16 h6 fk ((x_w3 t n g s).2) (x_w3_p hp) (decide (s_tk t n (x_w3 t n g s).2.1 = 4)) _ (by first | exact (jm_b_t (decide_eq_true h_86)).symm | exact (jm_b_f (fun z => h_86 (of_decide_eq_true z))).symm | exact (jm_b_f (fun z => absurd (of_decide_eq_true z) (by omega))).symm) 1 (by decide)) ?_
    refine jm_pop (Y := YX6_readsWord) (pc := 98) dX6_readsWord_98 rfl ?_
    refine jm_ald_n (Y := YX6_readsWord) (pc := 99) (i := 0) dX6_readsWord_99 rfl rfl ?_
    refine jm_V0ie (Y := YX6_readsWord) (pc := 100) dX6_readsWord_100 lk_RX6_101 ⟨_, rfl⟩ rfl (by decide) (Nat.le_of_ble_eq_true rfl) ⟨by decide, by decide⟩ (c_isWell t n (jm_sf M 18 (jm_n (g))) hn hb h16 h6 fk (x_w4 t n g s) (x_w4_p hp)) ?_
    refine jm_if_eqB (Y := YX6_readsWord) (pc := 103) dX6_readsWord_103 rfl (fun h_103 => ?_) (fun h_103 => ?_)
    · refine jm_retv (Y := YX6_readsWord) (pc := 142) (st := []) dX6_readsWord_142 rfl ?_
      first | exact absurd h_103 (x_w4_7 h7) | exact jm_eqM (by rw [x_wg_n h_103]) | exact jm_eqM (by rw [x_wg_y h_103]; rfl) | fail
    · refine jm_ald_n (Y := YX6_readsWord) (pc := 106) (i := 0) dX6_readsWord_106 rfl rfl ?_
      refine jm_getR (Y := YX6_readsWord) (pc := 107) dX6_readsWord_107 fr_RX6_28 rfl (by decide) rfl ?_
      refine jm_ild_n (Y := YX6_readsWord) (pc := 110) (i := 2) dX6_readsWord_110 rfl rfl ?_
      refine jm_ild_n (Y := YX6_readsWord) (pc := 111) (i := 1) dX6_readsWord_111 rfl rfl ?_
      refine jm_iasN (Y := YX6_readsWord) (pc := 112) dX6_readsWord_112 rfl (by omega) ?_
      rw [PT_18]
      refine jm_ald_n (Y := YX6_readsWord) (pc := 113) (i := 0) dX6_readsWord_113 rfl rfl ?_
      refine jm_getR (Y := YX6_readsWord) (pc := 114) dX6_readsWord_114 fr_RX6_28 rfl (by decide) rfl ?_
      refine jm_ild_n (Y := YX6_readsWord) (pc := 117) (i := 2) dX6_readsWord_117 rfl rfl ?_
      refine jm_icN (Y := YX6_readsWord) (pc := 118) 1 dX6_readsWord_118 rfl ?_
      refine jm_addN (Y := YX6_readsWord) (pc := 119) dX6_readsWord_119 ?_
      refine jm_ild_n (Y := YX6_readsWord) (pc := 120) (i := 3) dX6_readsWord_120 rfl rfl ?_
      refine jm_iasN (Y := YX6_readsWord) (pc := 121) dX6_readsWord_121 rfl (by omega) ?_
      rw [PT_18]
      refine jm_ald_n (Y := YX6_readsWord) (pc := 122) (i := 0) dX6_readsWord_122 rfl rfl ?_
      refine jm_getR (Y := YX6_readsWord) (pc := 123) dX6_readsWord_123 fr_RX6_28 rfl (by decide) rfl ?_
      refine jm_ild_n (Y := YX6_readsWord) (pc := 126) (i := 2) dX6_readsWord_126 rfl rfl ?_
      refine jm_icN (Y := YX6_readsWord) (pc := 127) 2 dX6_readsWord_127 rfl ?_
      refine jm_addN (Y := YX6_readsWord) (pc := 128) dX6_readsWord_128 ?_
      refine jm_iload (Y := YX6_readsWord) (pc := 129) dX6_readsWord_129 rfl ?_
      refine jm_iasN (Y := YX6_readsWord) (pc := 131) dX6_readsWord_131 rfl (by omega) ?_
      rw [PT_18]
      refine jm_ald_n (Y := YX6_readsWord) (pc := 132) (i := 0) dX6_readsWord_132 rfl rfl ?_
      refine jm_getR (Y := YX6_readsWord) (pc := 133) dX6_readsWord_133 fr_RX6_28 rfl (by decide) rfl ?_
      refine jm_icN (Y := YX6_readsWord) (pc := 136) 3 dX6_readsWord_136 rfl ?_
      refine jm_dup2 (Y := YX6_readsWord) (pc := 137) dX6_readsWord_137 rfl rfl ?_
      refine jm_ialN (Y := YX6_readsWord) (pc := 138) dX6_readsWord_138 (by first | assumption | exact jm_arR1 ha | exact jm_arR2 ha | exact jm_arR3 ha | exact jm_arR1 hb | exact jm_arR2 hb | exact jm_arR3 hb | rfl) (by omega) ((show _ = nI (g 3) from congrArg nI (by rw [wU_n _ _ (by omega), wU_n _ _ (by omega), wU_n _ _ (by omega)]))) ?_
      refine jm_icN (Y := YX6_readsWord) (pc := 139) 1 dX6_readsWord_139 rfl ?_
      refine jm_addN (Y := YX6_readsWord) (pc := 140) dX6_readsWord_140 ?_
      refine jm_iasN (Y := YX6_readsWord) (pc := 141) dX6_readsWord_141 rfl (by omega) ?_
      rw [PT_18]
      refine jm_retv (Y := YX6_readsWord) (pc := 142) (st := []) dX6_readsWord_142 rfl ?_
      first | exact absurd h_103 (x_w4_7 h7) | exact jm_eqM (by rw [x_wg_n h_103]) | exact jm_eqM (by rw [x_wg_y h_103]; rfl) | fail
  · refine jm_icN (Y := YX6_readsWord) (pc := 89) 1 dX6_readsWord_89 rfl ?_
    refine jm_goto (Y := YX6_readsWord) (pc := 90) dX6_readsWord_90 rfl ?_
    refine jm_icN (Y := YX6_readsWord) (pc := 94) 1 dX6_readsWord_94 rfl ?_
    refine jm_V2ie (Y := YX6_readsWord) (pc := 95) dX6_readsWord_95 lk_RX6_111 ⟨_, rfl⟩ rfl rfl rfl (by decide) (Nat.le_of_ble_eq_true rfl) ⟨by decide, by decide⟩ (c_takes t n (jm_sf M 18 (jm_n (g))) hn hb h16 h6 fk ((x_w3 t n g s).2) (x_w3_p hp) (decide (s_tk t n (x_w3 t n g s).2.1 = 4)) _ (by first | exact (jm_b_t (decide_eq_true h_86)).symm | exact (jm_b_f (fun z => h_86 (of_decide_eq_true z))).symm | exact (jm_b_f (fun z => absurd (of_decide_eq_true z) (by omega))).symm) 1 (by decide)) ?_
    refine jm_pop (Y := YX6_readsWord) (pc := 98) dX6_readsWord_98 rfl ?_
    refine jm_ald_n (Y := YX6_readsWord) (pc := 99) (i := 0) dX6_readsWord_99 rfl rfl ?_
    refine jm_V0ie (Y := YX6_readsWord) (pc := 100) dX6_readsWord_100 lk_RX6_101 ⟨_, rfl⟩ rfl (by decide) (Nat.le_of_ble_eq_true rfl) ⟨by decide, by decide⟩ (c_isWell t n (jm_sf M 18 (jm_n (g))) hn hb h16 h6 fk (x_w4 t n g s) (x_w4_p hp)) ?_
    refine jm_if_eqB (Y := YX6_readsWord) (pc := 103) dX6_readsWord_103 rfl (fun h_103 => ?_) (fun h_103 => ?_)
    · refine jm_retv (Y := YX6_readsWord) (pc := 142) (st := []) dX6_readsWord_142 rfl ?_
      first | exact absurd h_103 (x_w4_7 h7) | exact jm_eqM (by rw [x_wg_n h_103]) | exact jm_eqM (by rw [x_wg_y h_103]; rfl) | fail
    · refine jm_ald_n (Y := YX6_readsWord) (pc := 106) (i := 0) dX6_readsWord_106 rfl rfl ?_
      refine jm_getR (Y := YX6_readsWord) (pc := 107) dX6_readsWord_107 fr_RX6_28 rfl (by decide) rfl ?_
      refine jm_ild_n (Y := YX6_readsWord) (pc := 110) (i := 2) dX6_readsWord_110 rfl rfl ?_
      refine jm_ild_n (Y := YX6_readsWord) (pc := 111) (i := 1) dX6_readsWord_111 rfl rfl ?_
      refine jm_iasN (Y := YX6_readsWord) (pc := 112) dX6_readsWord_112 rfl (by omega) ?_
      rw [PT_18]
      refine jm_ald_n (Y := YX6_readsWord) (pc := 113) (i := 0) dX6_readsWord_113 rfl rfl ?_
      refine jm_getR (Y := YX6_readsWord) (pc := 114) dX6_readsWord_114 fr_RX6_28 rfl (by decide) rfl ?_
      refine jm_ild_n (Y := YX6_readsWord) (pc := 117) (i := 2) dX6_readsWord_117 rfl rfl ?_
      refine jm_icN (Y := YX6_readsWord) (pc := 118) 1 dX6_readsWord_118 rfl ?_
      refine jm_addN (Y := YX6_readsWord) (pc := 119) dX6_readsWord_119 ?_
      refine jm_ild_n (Y := YX6_readsWord) (pc := 120) (i := 3) dX6_readsWord_120 rfl rfl ?_
      refine jm_iasN (Y := YX6_readsWord) (pc := 121) dX6_readsWord_121 rfl (by omega) ?_
      rw [PT_18]
      refine jm_ald_n (Y := YX6_readsWord) (pc := 122) (i := 0) dX6_readsWord_122 rfl rfl ?_
      refine jm_getR (Y := YX6_readsWord) (pc := 123) dX6_readsWord_123 fr_RX6_28 rfl (by decide) rfl ?_
      refine jm_ild_n (Y := YX6_readsWord) (pc := 126) (i := 2) dX6_readsWord_126 rfl rfl ?_
      refine jm_icN (Y := YX6_readsWord) (pc := 127) 2 dX6_readsWord_127 rfl ?_
      refine jm_addN (Y := YX6_readsWord) (pc := 128) dX6_readsWord_128 ?_
      refine jm_iload (Y := YX6_readsWord) (pc := 129) dX6_readsWord_129 rfl ?_
      refine jm_iasN (Y := YX6_readsWord) (pc := 131) dX6_readsWord_131 rfl (by omega) ?_
      rw [PT_18]
      refine jm_ald_n (Y := YX6_readsWord) (pc := 132) (i := 0) dX6_readsWord_132 rfl rfl ?_
      refine jm_getR (Y := YX6_readsWord) (pc := 133) dX6_readsWord_133 fr_RX6_28 rfl (by decide) rfl ?_
      refine jm_icN (Y := YX6_readsWord) (pc := 136) 3 dX6_readsWord_136 rfl ?_
      refine jm_dup2 (Y := YX6_readsWord) (pc := 137) dX6_readsWord_137 rfl rfl ?_
      refine jm_ialN (Y := YX6_readsWord) (pc := 138) dX6_readsWord_138 (by first | assumption | exact jm_arR1 ha | exact jm_arR2 ha | exact jm_arR3 ha | exact jm_arR1 hb | exact jm_arR2 hb | exact jm_arR3 hb | rfl) (by omega) ((show _ = nI (g 3) from congrArg nI (by rw [wU_n _ _ (by omega), wU_n _ _ (by omega), wU_n _ _ (by omega)]))) ?_
      refine jm_icN (Y := YX6_readsWord) (pc := 139) 1 dX6_readsWord_139 rfl ?_
      refine jm_addN (Y := YX6_readsWord) (pc := 140) dX6_readsWord_140 ?_
      refine jm_iasN (Y := YX6_readsWord) (pc := 141) dX6_readsWord_141 rfl (by omega) ?_
      rw [PT_18]
      refine jm_retv (Y := YX6_readsWord) (pc := 142) (st := []) dX6_readsWord_142 rfl ?_
      first | exact absurd h_103 (x_w4_7 h7) | exact jm_eqM (by rw [x_wg_n h_103]) | exact jm_eqM (by rw [x_wg_y h_103]; rfl) | fail
theorem c_readsCell (t : Nat → Nat) (n : Nat) (M : jm_M) (hn : n ≤ 110) (hb : ∀ i, t i ≤ 255) (h16 : ∀ i, i < n → M 16 i = nI (t i)) (h6 : M 11 6 = nI n) (fk : Int32) (s : Nat × Nat) (hp : s.1 ≤ n) (g : Nat → Nat) (hg2 : g 2 ≤ 12) : jm_J none YX6_readsCell 0 [some (.ref 11), none, none] [] (PT (jm_sf M 18 (jm_n (g))) t n fk (s)) (jm_is none (PT (jm_sf M 18 (jm_n (x_cg t n g s))) t n fk (x_c3 t n g s))) := by
  by_cases h : g 2 < 12
  · exact c_readsCellA t n M hn hb h16 h6 fk s hp g hg2 h
  · exact c_readsCellB t n M hn hb h16 h6 fk s hp g hg2 h
theorem c_readsWord (t : Nat → Nat) (n : Nat) (M : jm_M) (hn : n ≤ 110) (hb : ∀ i, t i ≤ 255) (h16 : ∀ i, i < n → M 16 i = nI (t i)) (h6 : M 11 6 = nI n) (fk : Int32) (s : Nat × Nat) (hp : s.1 ≤ n) (g : Nat → Nat) (hg2 : 1 ≤ g 2) (hg12 : g 2 ≤ 12) (hg3 : g 3 ≤ 7) (hl : s_tk t n s.1 = 1) : jm_J none YX6_readsWord 0 [some (.ref 11), none, none, none, none] [] (PT (jm_sf M 18 (jm_n (g))) t n fk (s)) (jm_is none (PT (jm_sf M 18 (jm_n (x_wg t n g s))) t n fk (x_w4 t n g s))) := by
  by_cases h : g 3 < 7
  · exact c_readsWordA t n M hn hb h16 h6 fk s hp g hg2 hg12 hg3 hl h
  · exact c_readsWordB t n M hn hb h16 h6 fk s hp g hg2 hg12 hg3 hl h
theorem s_tl_l {t : Nat → Nat} {n p : Nat} (h : s_tk t n p = 1) : s_tl t n p = 1 ∧ p < n := by
  have hd : ¬ 0 < s_d t n p := fun z => by
    unfold s_tk at h
    rw [if_pos z] at h
    split at h <;> omega
  have hp : ¬ n ≤ p := fun z => by
    unfold s_tk at h
    rw [if_neg hd, if_pos z] at h
    omega
  exact ⟨by unfold s_tl; rw [if_neg hd, if_neg hp], by omega⟩
def x_cells (t : Nat → Nat) (n : Nat) : Nat → (Nat → Nat) → Nat × Nat → (Nat → Nat) × Nat × Nat
  | 0, g, s => (g, s)
  | m + 1, g, s => if s.2 = 0 ∧ s_tk t n s.1 = 1 ∧ t s.1 = 99 then x_cells t n m (x_cg t n g s) (x_c3 t n g s) else (g, s)
def x_words (t : Nat → Nat) (n : Nat) : Nat → (Nat → Nat) → Nat × Nat → (Nat → Nat) × Nat × Nat
  | 0, g, s => (g, s)
  | m + 1, g, s => if s.2 = 0 ∧ s_tk t n s.1 = 1 ∧ 0 < x_kN (t s.1) then x_words t n m (x_wg t n g s) (x_w4 t n g s) else (g, s)
def x_ms (n : Nat) (s : Nat × Nat) : Nat := if s.2 = 0 then n + 1 - s.1 else 0
theorem x_ms_c {t : Nat → Nat} {n : Nat} {g : Nat → Nat} {s : Nat × Nat} {m : Nat} (hp : s.1 ≤ n) (h0 : s.2 = 0) (h1 : s_tk t n s.1 = 1) (hm : x_ms n s < m + 1) : x_ms n (x_c3 t n g s) < m := by
  unfold x_ms at hm ⊢
  rw [if_pos h0] at hm
  have := s_tl_l h1
  split
  · rename_i h
    have := (x_c3_z h).2.2.2
    omega
  · omega
theorem x_ms_w {t : Nat → Nat} {n : Nat} {g : Nat → Nat} {s : Nat × Nat} {m : Nat} (hp : s.1 ≤ n) (h0 : s.2 = 0) (h1 : s_tk t n s.1 = 1) (hm : x_ms n s < m + 1) : x_ms n (x_w4 t n g s) < m := by
  unfold x_ms at hm ⊢
  rw [if_pos h0] at hm
  have := s_tl_l h1
  split
  · rename_i h
    have := (x_w4_z h).2.2.2.2.2
    omega
  · omega
/-- what holds of a row that is being read -/
def rR (g : Nat → Nat) : Prop := rG g ∧ (∀ k, k < 7 → g (17 + 4 * k + 3) = 0) ∧ g 4 = 0
theorem x_kN_le (c : Nat) : x_kN c ≤ 5 := by unfold x_kN; (repeat' split) <;> omega
theorem rR_c {t : Nat → Nat} {n : Nat} {g : Nat → Nat} {s : Nat × Nat} (h : rR g) : rR (x_cg t n g s) := by
  by_cases z : (x_c3 t n g s).2 = 0
  · obtain ⟨z1, z2, z3, z4⟩ := x_c3_z z
    rw [x_cg_y z]
    obtain ⟨⟨⟨a0, a1, a2, a3, a4⟩, b, c, d, e⟩, f, i⟩ := h
    refine ⟨⟨⟨?_, ?_, ?_, ?_, ?_⟩, ?_, ?_, ?_, ?_⟩, ?_, ?_⟩
    · rw [wU_n _ _ (by decide), wU_n _ _ (by omega)]; exact a0
    · rw [wU_n _ _ (by decide), wU_n _ _ (by omega)]; exact a1
    · rw [wU_s]; omega
    · rw [wU_n _ _ (by decide), wU_n _ _ (by omega)]; exact a3
    · rw [wU_n _ _ (by decide), wU_n _ _ (by omega)]; exact a4
    · intro x hx
      rw [wU_n _ _ (by omega)]
      by_cases q : x = g 2
      · subst q; rw [wU_s]; exact z3
      · rw [wU_n _ _ (by omega)]; exact b x hx
    · intro k hk
      rw [wU_n _ _ (by omega), wU_n _ _ (by omega), wU_n _ _ (by omega), wU_n _ _ (by omega), wU_n _ _ (by omega), wU_n _ _ (by omega), wU_n _ _ (by omega), wU_n _ _ (by omega)]
      exact c k hk
    · intro j hj
      rw [wU_n _ _ (by omega), wU_n _ _ (by omega)]; exact d j hj
    · intro k hk
      rw [wU_n _ _ (by decide), wU_n _ _ (by omega)] at hk
      have q := e k hk
      rw [wU_s, wU_n _ _ (by omega), wU_n _ _ (by omega), wU_n _ _ (by omega), wU_n _ _ (by omega), wU_n _ _ (by omega), wU_n _ _ (by omega), wU_n _ _ (by omega), wU_n _ _ (by omega)]
      exact ⟨q.1, by omega, q.2.2⟩
    · intro k hk
      rw [wU_n _ _ (by omega), wU_n _ _ (by omega)]; exact f k hk
    · rw [wU_n _ _ (by decide), wU_n _ _ (by omega)]; exact i
  · rw [x_cg_n z]; exact h
theorem rR_w {t : Nat → Nat} {n : Nat} {g : Nat → Nat} {s : Nat × Nat} (hk0 : 0 < x_kN (t s.1)) (h : rR g) : rR (x_wg t n g s) := by
  by_cases z : (x_w4 t n g s).2 = 0
  · obtain ⟨z1, z2, z3, z4, z5, z6⟩ := x_w4_z z
    rw [x_wg_y z]
    have k5 := x_kN_le (t s.1)
    obtain ⟨⟨⟨a0, a1, a2, a3, a4⟩, b, c, d, e⟩, f, i⟩ := h
    refine ⟨⟨⟨?_, ?_, ?_, ?_, ?_⟩, ?_, ?_, ?_, ?_⟩, ?_, ?_⟩
    · rw [wU_n _ _ (by omega), wU_n _ _ (by omega), wU_n _ _ (by omega), wU_n _ _ (by omega)]; exact a0
    · rw [wU_n _ _ (by omega), wU_n _ _ (by omega), wU_n _ _ (by omega), wU_n _ _ (by omega)]; exact a1
    · rw [wU_n _ _ (by omega), wU_n _ _ (by omega), wU_n _ _ (by omega), wU_n _ _ (by omega)]; exact a2
    · rw [wU_s]; omega
    · rw [wU_n _ _ (by omega), wU_n _ _ (by omega), wU_n _ _ (by omega), wU_n _ _ (by omega)]; exact a4
    · intro x hx
      rw [wU_n _ _ (by omega), wU_n _ _ (by omega), wU_n _ _ (by omega), wU_n _ _ (by omega)]; exact b x hx
    · intro k hk
      by_cases q : k = g 3
      · subst q
        have e1 : ∀ (A B C : Nat), wU (wU (wU (wU g (17 + 4 * g 3) A) (17 + 4 * g 3 + 1) B) (17 + 4 * g 3 + 2) C) 3 (g 3 + 1) (17 + 4 * g 3) = A := fun A B C => by rw [wU_n _ _ (by omega), wU_n _ _ (by omega), wU_n _ _ (by omega), wU_s]
        have e2 : ∀ (A B C : Nat), wU (wU (wU (wU g (17 + 4 * g 3) A) (17 + 4 * g 3 + 1) B) (17 + 4 * g 3 + 2) C) 3 (g 3 + 1) (17 + 4 * g 3 + 1) = B := fun A B C => by rw [wU_n _ _ (by omega), wU_n _ _ (by omega), wU_s]
        have e3 : ∀ (A B C : Nat), wU (wU (wU (wU g (17 + 4 * g 3) A) (17 + 4 * g 3 + 1) B) (17 + 4 * g 3 + 2) C) 3 (g 3 + 1) (17 + 4 * g 3 + 2) = C := fun A B C => by rw [wU_n _ _ (by omega), wU_s]
        have e4 : ∀ (A B C : Nat), wU (wU (wU (wU g (17 + 4 * g 3) A) (17 + 4 * g 3 + 1) B) (17 + 4 * g 3 + 2) C) 3 (g 3 + 1) (17 + 4 * g 3 + 3) = g (17 + 4 * g 3 + 3) := fun A B C => by rw [wU_n _ _ (by omega), wU_n _ _ (by omega), wU_n _ _ (by omega), wU_n _ _ (by omega)]
        rw [e1, e2, e3, e4, f _ hk]
        exact ⟨by omega, by omega, by omega, by omega⟩
      · rw [wU_n _ _ (by omega), wU_n _ _ (by omega), wU_n _ _ (by omega), wU_n _ _ (by omega), wU_n _ _ (by omega), wU_n _ _ (by omega), wU_n _ _ (by omega), wU_n _ _ (by omega), wU_n _ _ (by omega), wU_n _ _ (by omega), wU_n _ _ (by omega), wU_n _ _ (by omega), wU_n _ _ (by omega), wU_n _ _ (by omega), wU_n _ _ (by omega), wU_n _ _ (by omega)]
        exact c k hk
    · intro j hj
      rw [wU_n _ _ (by omega), wU_n _ _ (by omega), wU_n _ _ (by omega), wU_n _ _ (by omega)]; exact d j hj
    · intro k hk
      rw [wU_s] at hk
      by_cases q : k = g 3
      · subst q
        have e1 : ∀ (A B C : Nat), wU (wU (wU (wU g (17 + 4 * g 3) A) (17 + 4 * g 3 + 1) B) (17 + 4 * g 3 + 2) C) 3 (g 3 + 1) (17 + 4 * g 3) = A := fun A B C => by rw [wU_n _ _ (by omega), wU_n _ _ (by omega), wU_n _ _ (by omega), wU_s]
        have e2 : ∀ (A B C : Nat), wU (wU (wU (wU g (17 + 4 * g 3) A) (17 + 4 * g 3 + 1) B) (17 + 4 * g 3 + 2) C) 3 (g 3 + 1) (17 + 4 * g 3 + 1) = B := fun A B C => by rw [wU_n _ _ (by omega), wU_n _ _ (by omega), wU_s]
        have e3 : ∀ (A B C : Nat), wU (wU (wU (wU g (17 + 4 * g 3) A) (17 + 4 * g 3 + 1) B) (17 + 4 * g 3 + 2) C) 3 (g 3 + 1) (17 + 4 * g 3 + 2) = C := fun A B C => by rw [wU_n _ _ (by omega), wU_s]
        have e4 : ∀ (A B C : Nat), wU (wU (wU (wU g (17 + 4 * g 3) A) (17 + 4 * g 3 + 1) B) (17 + 4 * g 3 + 2) C) 3 (g 3 + 1) (17 + 4 * g 3 + 3) = g (17 + 4 * g 3 + 3) := fun A B C => by rw [wU_n _ _ (by omega), wU_n _ _ (by omega), wU_n _ _ (by omega), wU_n _ _ (by omega)]
        have e5 : ∀ (A B C : Nat), wU (wU (wU (wU g (17 + 4 * g 3) A) (17 + 4 * g 3 + 1) B) (17 + 4 * g 3 + 2) C) 3 (g 3 + 1) 2 = g 2 := fun A B C => by rw [wU_n _ _ (by omega), wU_n _ _ (by omega), wU_n _ _ (by omega), wU_n _ _ (by omega)]
        rw [e1, e2, e3, e4, e5, f _ (by omega), if_neg (by omega)]
        exact ⟨by omega, by omega, rfl⟩
      · rw [wU_n _ _ (by omega), wU_n _ _ (by omega), wU_n _ _ (by omega), wU_n _ _ (by omega), wU_n _ _ (by omega), wU_n _ _ (by omega), wU_n _ _ (by omega), wU_n _ _ (by omega), wU_n _ _ (by omega), wU_n _ _ (by omega), wU_n _ _ (by omega), wU_n _ _ (by omega), wU_n _ _ (by omega), wU_n _ _ (by omega), wU_n _ _ (by omega), wU_n _ _ (by omega), wU_n _ _ (by omega), wU_n _ _ (by omega), wU_n _ _ (by omega), wU_n _ _ (by omega)]
        exact e k (by omega)
    · intro k hk
      rw [wU_n _ _ (by omega), wU_n _ _ (by omega), wU_n _ _ (by omega), wU_n _ _ (by omega)]; exact f k hk
    · rw [wU_n _ _ (by omega), wU_n _ _ (by omega), wU_n _ _ (by omega), wU_n _ _ (by omega)]; exact i
  · rw [x_wg_n z]; exact h
theorem x_cells_R {t : Nat → Nat} {n : Nat} : ∀ (m : Nat) (g : Nat → Nat) (s : Nat × Nat), rR g → s.1 ≤ n → rR (x_cells t n m g s).1 ∧ (x_cells t n m g s).2.1 ≤ n
  | 0, g, s, h, hp => ⟨h, hp⟩
  | m + 1, g, s, h, hp => by
    unfold x_cells
    split
    · exact x_cells_R m _ _ (rR_c h) (x_c3_p hp)
    · exact ⟨h, hp⟩
theorem x_words_R {t : Nat → Nat} {n : Nat} : ∀ (m : Nat) (g : Nat → Nat) (s : Nat × Nat), rR g → s.1 ≤ n → rR (x_words t n m g s).1 ∧ (x_words t n m g s).2.1 ≤ n
  | 0, g, s, h, hp => ⟨h, hp⟩
  | m + 1, g, s, h, hp => by
    unfold x_words
    split
    · rename_i q
      exact x_words_R m _ _ (rR_w q.2.2 h) (x_w4_p hp)
    · exact ⟨h, hp⟩
theorem c_rivC (t : Nat → Nat) (n : Nat) (M : jm_M) (hn : n ≤ 110) (hb : ∀ i, t i ≤ 255) (h16 : ∀ i, i < n → M 16 i = nI (t i)) (h6 : M 11 6 = nI n) (fk : Int32) (ls : jm_Ls) (l1 : Option Value) (Q : Option Value → jm_M → Prop) : ∀ (m : Nat) (g : Nat → Nat) (s : Nat × Nat), rR g → s.1 ≤ n → (jm_J none YX6_river 139 [some (.ref 11), l1] [] (PT (jm_sf M 18 (jm_n ((x_cells t n m g s).1))) t n fk ((x_cells t n m g s).2)) Q) → x_ms n s < m → jm_J none YX6_river 108 [some (.ref 11), l1] [] (PT (jm_sf M 18 (jm_n (g))) t n fk (s)) Q := by
  intro m
  induction m with
  | zero => intros; omega
  | succ m ih =>
    intro g s hR hp K hmm
    have k5 := s_tk_le t n s.1
    have tb := hb s.1
    refine jm_ald_n (Y := YX6_river) (pc := 108) (i := 0) dX6_river_108 rfl rfl ?_
    refine jm_V0ie (Y := YX6_river) (pc := 109) dX6_river_109 lk_RX6_101 ⟨_, rfl⟩ rfl (by decide) (Nat.le_of_ble_eq_true rfl) ⟨by decide, by decide⟩ (c_isWell t n (jm_sf M 18 (jm_n (g))) hn hb h16 h6 fk (s) hp) ?_
    refine jm_if_eqB (Y := YX6_river) (pc := 112) dX6_river_112 rfl (fun h_112 => ?_) (fun h_112 => ?_)
    · have e : x_cells t n (m + 1) g s = (g, s) := if_neg (by first | exact fun z => h_112 z.1 | exact fun z => h_120 z.2.1 | exact fun z => h_129 z.2.2 | omega)
      rw [e] at K
      exact K
    · refine jm_ald_n (Y := YX6_river) (pc := 115) (i := 0) dX6_river_115 rfl rfl ?_
      refine jm_getE (Y := YX6_river) (pc := 116) dX6_river_116 fw_RX6_95 rfl (by decide) rfl ((show _ = nI (s_tk t n s.1) from rfl)) ?_
      refine jm_icN (Y := YX6_river) (pc := 119) 1 dX6_river_119 rfl ?_
      refine jm_icmp_neN (Y := YX6_river) (pc := 120) dX6_river_120 rfl (by omega) (by omega) (fun h_120 => ?_) (fun h_120 => ?_)
      · have e : x_cells t n (m + 1) g s = (g, s) := if_neg (by first | exact fun z => h_112 z.1 | exact fun z => h_120 z.2.1 | exact fun z => h_129 z.2.2 | omega)
        rw [e] at K
        exact K
      · refine jm_ald_n (Y := YX6_river) (pc := 123) (i := 0) dX6_river_123 rfl rfl ?_
        refine jm_getE (Y := YX6_river) (pc := 124) dX6_river_124 fw_RX6_92 rfl (by decide) rfl ((show _ = nI (t s.1) from s_tv_l h_120)) ?_
        refine jm_bpN (Y := YX6_river) (pc := 127) 99 dX6_river_127 rfl ?_
        refine jm_icmp_neN (Y := YX6_river) (pc := 129) dX6_river_129 rfl (by omega) (by omega) (fun h_129 => ?_) (fun h_129 => ?_)
        · have e : x_cells t n (m + 1) g s = (g, s) := if_neg (by first | exact fun z => h_112 z.1 | exact fun z => h_120 z.2.1 | exact fun z => h_129 z.2.2 | omega)
          rw [e] at K
          exact K
        · refine jm_ald_n (Y := YX6_river) (pc := 132) (i := 0) dX6_river_132 rfl rfl ?_
          refine jm_V0ve (Y := YX6_river) (pc := 133) dX6_river_133 lk_RX6_124 rfl rfl (by decide) (Nat.le_of_ble_eq_true rfl) ⟨by decide, by decide⟩ (c_readsCell t n (jm_sf M 18 (jm_n (g))) hn hb h16 h6 fk (s) hp g hR.1.1.2.2.1) ?_
          refine jm_goto (Y := YX6_river) (pc := 136) dX6_river_136 rfl ?_
          exact ih (x_cg t n g s) (x_c3 t n g s) (rR_c hR) (x_c3_p hp) (by have e : x_cells t n (m + 1) g s = x_cells t n m (x_cg t n g s) (x_c3 t n g s) := if_pos ⟨h_112, h_120, h_129⟩; rw [e] at K; exact K) (x_ms_c hp h_112 h_120 hmm)
theorem c_rivW (t : Nat → Nat) (n : Nat) (M : jm_M) (hn : n ≤ 110) (hb : ∀ i, t i ≤ 255) (h16 : ∀ i, i < n → M 16 i = nI (t i)) (h6 : M 11 6 = nI n) (fk : Int32) (ls : jm_Ls) (l1 : Option Value) (Q : Option Value → jm_M → Prop) : ∀ (m : Nat) (g : Nat → Nat) (s : Nat × Nat), rR g → (s.2 = 0 → 4 ≤ g 2) → s.1 ≤ n → (jm_J none YX6_river 190 [some (.ref 11), l1] [] (PT (jm_sf M 18 (jm_n ((x_words t n m g s).1))) t n fk ((x_words t n m g s).2)) Q) → x_ms n s < m → jm_J none YX6_river 158 [some (.ref 11), l1] [] (PT (jm_sf M 18 (jm_n (g))) t n fk (s)) Q := by
  intro m
  induction m with
  | zero => intros; omega
  | succ m ih =>
    intro g s hR h4 hp K hmm
    have k5 := s_tk_le t n s.1
    have tb := hb s.1
    have kk := x_kN_le (t s.1)
    refine jm_ald_n (Y := YX6_river) (pc := 158) (i := 0) dX6_river_158 rfl rfl ?_
    refine jm_V0ie (Y := YX6_river) (pc := 159) dX6_river_159 lk_RX6_101 ⟨_, rfl⟩ rfl (by decide) (Nat.le_of_ble_eq_true rfl) ⟨by decide, by decide⟩ (c_isWell t n (jm_sf M 18 (jm_n (g))) hn hb h16 h6 fk (s) hp) ?_
    refine jm_if_eqB (Y := YX6_river) (pc := 162) dX6_river_162 rfl (fun h_162 => ?_) (fun h_162 => ?_)
    · have e : x_words t n (m + 1) g s = (g, s) := if_neg (by first | exact fun z => h_162 z.1 | exact fun z => h_170 z.2.1 | (intro z; have := z.2.2; omega) | omega)
      rw [e] at K
      exact K
    · refine jm_ald_n (Y := YX6_river) (pc := 165) (i := 0) dX6_river_165 rfl rfl ?_
      refine jm_getE (Y := YX6_river) (pc := 166) dX6_river_166 fw_RX6_95 rfl (by decide) rfl ((show _ = nI (s_tk t n s.1) from rfl)) ?_
      refine jm_icN (Y := YX6_river) (pc := 169) 1 dX6_river_169 rfl ?_
      refine jm_icmp_neN (Y := YX6_river) (pc := 170) dX6_river_170 rfl (by omega) (by omega) (fun h_170 => ?_) (fun h_170 => ?_)
      · have e : x_words t n (m + 1) g s = (g, s) := if_neg (by first | exact fun z => h_162 z.1 | exact fun z => h_170 z.2.1 | (intro z; have := z.2.2; omega) | omega)
        rw [e] at K
        exact K
      · refine jm_ald_n (Y := YX6_river) (pc := 173) (i := 0) dX6_river_173 rfl rfl ?_
        refine jm_getE (Y := YX6_river) (pc := 174) dX6_river_174 fw_RX6_92 rfl (by decide) rfl ((show _ = nI (t s.1) from s_tv_l h_170)) ?_
        refine jm_S1ie (Y := YX6_river) (pc := 177) dX6_river_177 lk_RX6_118 ⟨_, rfl⟩ rfl (by decide) (Nat.le_of_ble_eq_true rfl) ⟨by decide, by decide⟩ (c_kindOf _ (t s.1) (hb s.1)) ?_
        refine jm_if_leN (Y := YX6_river) (pc := 180) dX6_river_180 rfl (by omega) (fun h_180 => ?_) (fun h_180 => ?_)
        · have e : x_words t n (m + 1) g s = (g, s) := if_neg (by first | exact fun z => h_162 z.1 | exact fun z => h_170 z.2.1 | (intro z; have := z.2.2; omega) | omega)
          rw [e] at K
          exact K
        · refine jm_ald_n (Y := YX6_river) (pc := 183) (i := 0) dX6_river_183 rfl rfl ?_
          refine jm_V0ve (Y := YX6_river) (pc := 184) dX6_river_184 lk_RX6_131 rfl rfl (by decide) (Nat.le_of_ble_eq_true rfl) ⟨by decide, by decide⟩ (c_readsWord t n (jm_sf M 18 (jm_n (g))) hn hb h16 h6 fk (s) hp g (by have := h4 h_162; omega) hR.1.1.2.2.1 hR.1.1.2.2.2.1 h_170) ?_
          refine jm_goto (Y := YX6_river) (pc := 187) dX6_river_187 rfl ?_
          have e2 : x_wg t n g s 2 = g 2 := (by by_cases z : (x_w4 t n g s).2 = 0; (rw [x_wg_y z]; rw [wU_n _ _ (by omega), wU_n _ _ (by omega), wU_n _ _ (by omega), wU_n _ _ (by omega)]); (rw [x_wg_n z]))
          exact ih (x_wg t n g s) (x_w4 t n g s) (rR_w h_180 hR) (fun _ => by rw [e2]; exact h4 h_162) (x_w4_p hp) (by have e : x_words t n (m + 1) g s = x_words t n m (x_wg t n g s) (x_w4 t n g s) := if_pos ⟨h_162, h_170, h_180⟩; rw [e] at K; exact K) (x_ms_w hp h_162 h_170 hmm)
