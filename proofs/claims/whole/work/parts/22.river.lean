/-! the reference: river() -/
theorem PS_id (M : jm_M) : PS M (M 11 7) (M 11 8) (M 11 9) (M 11 10) (M 11 11) (M 11 12) = M := by
  refine jm_sfid (funext fun j => ?_)
  by_cases h7 : j = 7
  · subst h7; rfl
  by_cases h8 : j = 8
  · subst h8; rfl
  by_cases h9 : j = 9
  · subst h9; rfl
  by_cases h10 : j = 10
  · subst h10; rfl
  by_cases h11 : j = 11
  · subst h11; rfl
  by_cases h12 : j = 12
  · subst h12; rfl
  simp only [h7, h8, h9, h10, h11, h12, if_false]
theorem PT_k {M : jm_M} {t : Nat → Nat} {n : Nat} {fk : Int32} {s : Nat × Nat} {k : Nat} (x : Int32) (h : k < 7 ∨ 12 < k) : jm_sf (PT M t n fk s) 11 (upd (PT M t n fk s 11) k x) = PT (jm_sf M 11 (upd (M 11) k x)) t n fk s := by
  unfold PT PS
  rw [jm_sfsf, jm_sfsf]
  refine PS_ext (fun j => ?_)
  rw [jm_sf_s, jm_sf_s]
  by_cases e : j = k
  · subst e
    rw [upd_s, upd_s]
    rw [if_neg (by omega), if_neg (by omega), if_neg (by omega), if_neg (by omega), if_neg (by omega), if_neg (by omega)]
  · rw [upd_n _ _ e, upd_n _ _ e]
def x_r1 (t : Nat → Nat) (n : Nat) : Nat × Nat := x_tk t n (decide (s_tk t n 0 = 1 ∧ t 0 = 114)) 1 (0, 0)
def x_r2 (t : Nat → Nat) (n : Nat) : Nat × Nat × Nat := x_fg t n 0 16 (x_r1 t n)
def x_r3 (t : Nat → Nat) (n : Nat) : Nat × Nat × Nat := x_fo t n 0 11 (x_r2 t n).2
def x_r4 (t : Nat → Nat) (n : Nat) : Nat × Nat := x_tk t n (decide (s_tk t n (x_r3 t n).2.1 = 4)) 1 (x_r3 t n).2
def x_g4 (t : Nat → Nat) (n : Nat) : Nat → Nat := wU (wU (fun _ => 0) 0 (x_r2 t n).1) 1 (x_r3 t n).1
def x_r5 (t : Nat → Nat) (n : Nat) : (Nat → Nat) × Nat × Nat := x_cells t n (n + 2) (x_g4 t n) (x_r4 t n)
def x_r6 (t : Nat → Nat) (n : Nat) : Nat × Nat := if 3 < (x_r5 t n).1 2 then (x_r5 t n).2 else x_tk t n false 1 (x_r5 t n).2
def x_r7 (t : Nat → Nat) (n : Nat) : (Nat → Nat) × Nat × Nat := x_words t n (n + 2) (x_r5 t n).1 (x_r6 t n)
def x_r8 (t : Nat → Nat) (n : Nat) : Nat × Nat := if s_tk t n (x_r7 t n).2.1 = 0 then (x_r7 t n).2 else x_tk t n false 1 (x_r7 t n).2
theorem x_r1_p (t : Nat → Nat) (n : Nat) : (x_r1 t n).1 ≤ n := x_tk_p (Nat.zero_le _)
theorem x_r2_p (t : Nat → Nat) (n : Nat) : (x_r2 t n).2.1 ≤ n := x_fg_p (x_r1_p t n)
theorem x_r3_p (t : Nat → Nat) (n : Nat) : (x_r3 t n).2.1 ≤ n := x_fg_p (x_tk_p (x_r2_p t n))
theorem x_r4_p (t : Nat → Nat) (n : Nat) : (x_r4 t n).1 ≤ n := x_tk_p (x_r3_p t n)
theorem x_fg_lt {t : Nat → Nat} {n lo hi : Nat} {s : Nat × Nat} (hh : 0 < hi) : (x_fg t n lo hi s).1 < hi := by
  unfold x_fg
  (repeat' split) <;> first | exact hh | (rename_i q; exact q.2)
theorem x_g4_R (t : Nat → Nat) (n : Nat) : rR (x_g4 t n) := by
  have a : (x_r2 t n).1 < 16 := x_fg_lt (by decide)
  have b : (x_r3 t n).1 < 11 := x_fg_lt (by decide)
  have z : ∀ j, 2 ≤ j → x_g4 t n j = 0 := fun j hj => by unfold x_g4; rw [wU_n _ _ (by omega), wU_n _ _ (by omega)]
  refine ⟨⟨⟨?_, ?_, ?_, ?_, ?_⟩, ?_, ?_, ?_, ?_⟩, ?_, ?_⟩
  · unfold x_g4; rw [wU_n _ _ (by decide), wU_s]; omega
  · unfold x_g4; rw [wU_s]; omega
  · rw [z _ (by omega)]; omega
  · rw [z _ (by omega)]; omega
  · rw [z _ (by omega)]; omega
  · intro c hc; rw [z _ (by omega)]; omega
  · intro k hk; rw [z _ (by omega), z _ (by omega), z _ (by omega), z _ (by omega)]; omega
  · intro j hj; exact z _ (by omega)
  · intro k hk; rw [z 3 (by omega)] at hk; omega
  · intro k hk; exact z _ (by omega)
  · exact z _ (by omega)
theorem x_r5_R (t : Nat → Nat) (n : Nat) : rR (x_r5 t n).1 ∧ (x_r5 t n).2.1 ≤ n := by
  have h := x_cells_R (t := t) (n := n) (n + 2) (x_g4 t n) (x_r4 t n) (x_g4_R t n) (x_r4_p t n)
  unfold x_r5
  exact h
theorem x_r6_p (t : Nat → Nat) (n : Nat) : (x_r6 t n).1 ≤ n := by
  unfold x_r6
  split
  · exact (x_r5_R t n).2
  · exact x_tk_p (x_r5_R t n).2
theorem x_r7_R (t : Nat → Nat) (n : Nat) : rR (x_r7 t n).1 ∧ (x_r7 t n).2.1 ≤ n := by
  have h := x_words_R (t := t) (n := n) (n + 2) (x_r5 t n).1 (x_r6 t n) (x_r5_R t n).1 (x_r6_p t n)
  unfold x_r7
  exact h
theorem x_r8_p (t : Nat → Nat) (n : Nat) : (x_r8 t n).1 ≤ n := by
  unfold x_r8
  split
  · exact (x_r7_R t n).2
  · exact x_tk_p (x_r7_R t n).2
theorem x_ms_le (n : Nat) (s : Nat × Nat) : x_ms n s < n + 2 := by unfold x_ms; split <;> omega
theorem x_r6_4 {t : Nat → Nat} {n : Nat} (h : (x_r6 t n).2 = 0) : 4 ≤ (x_r5 t n).1 2 := by
  unfold x_r6 at h
  split at h
  · omega
  · exact absurd (x_tk_z (by decide) h).2.1 (by decide)
theorem c_isWF0 (t : Nat → Nat) (n : Nat) (M : jm_M) (hn : n ≤ 110) (fk : Int32) (s : Nat × Nat) (hp : s.1 ≤ n) (hs : s.2 = 0) : jm_J none YX6_isWell 0 [some (.ref 11)] [] (PT M t n fk s) (jm_is (some (.int (jm_b (s.2 = 0)))) (PT M t n fk s)) := by
  refine jm_ald_n (Y := YX6_isWell) (pc := 0) (i := 0) dX6_isWell_0 rfl rfl ?_
  refine jm_getE (Y := YX6_isWell) (pc := 1) dX6_isWell_1 fw_RX6_98 rfl (by decide) rfl ((by rw [PT_8, if_pos hs])) ?_
  refine jm_if_ge (Y := YX6_isWell) (pc := 4) dX6_isWell_4 rfl (fun h => absurd h (by decide)) (fun _ => ?_)
  refine jm_icN (Y := YX6_isWell) (pc := 7) 1 dX6_isWell_7 rfl ?_
  refine jm_goto (Y := YX6_isWell) (pc := 8) dX6_isWell_8 rfl ?_
  refine jm_ret (Y := YX6_isWell) (pc := 12) (st := []) dX6_isWell_12 rfl rfl ?_
  exact jm_bt hs
theorem c_isWF1 (t : Nat → Nat) (n : Nat) (M : jm_M) (hn : n ≤ 110) (fk : Int32) (s : Nat × Nat) (hp : s.1 ≤ n) (hs : ¬ s.2 = 0) : jm_J none YX6_isWell 0 [some (.ref 11)] [] (PT M t n fk s) (jm_is (some (.int (jm_b (s.2 = 0)))) (PT M t n fk s)) := by
  refine jm_ald_n (Y := YX6_isWell) (pc := 0) (i := 0) dX6_isWell_0 rfl rfl ?_
  refine jm_getE (Y := YX6_isWell) (pc := 1) dX6_isWell_1 fw_RX6_98 rfl (by decide) rfl ((show PT M t n fk s 11 8 = nI s.1 by rw [PT_8, if_neg hs])) ?_
  refine jm_if_geN (Y := YX6_isWell) (pc := 4) dX6_isWell_4 rfl (by omega) ?_
  refine jm_icN (Y := YX6_isWell) (pc := 11) 0 dX6_isWell_11 rfl ?_
  refine jm_ret (Y := YX6_isWell) (pc := 12) (st := []) dX6_isWell_12 rfl rfl ?_
  exact jm_bf hs
theorem c_isWF (t : Nat → Nat) (n : Nat) (M : jm_M) (hn : n ≤ 110) (fk : Int32) (s : Nat × Nat) (hp : s.1 ≤ n) : jm_J none YX6_isWell 0 [some (.ref 11)] [] (PT M t n fk s) (jm_is (some (.int (jm_b (s.2 = 0)))) (PT M t n fk s)) := by
  by_cases hs : s.2 = 0
  · exact c_isWF0 t n M hn fk s hp hs
  · exact c_isWF1 t n M hn fk s hp hs
theorem p_cp45 {f g : Nat → Nat} (hf : ∀ j, 45 ≤ j → f j = 0) (hg : ∀ j, 45 ≤ j → g j = 0) : p_cp f g 0 0 45 = f := by
  funext x
  unfold p_cp
  split
  · congr 1; omega
  · rw [hf x (by omega), hg x (by omega)]
theorem PT_17 {M : jm_M} {t : Nat → Nat} {n : Nat} {fk : Int32} {s : Nat × Nat} {i : Nat} (h : i ≠ 11) : PT M t n fk s i = M i := PS_o h
theorem c_riv6 (t : Nat → Nat) (n : Nat) (M : jm_M) (hn : n ≤ 110) (fk : Int32) (s : Nat × Nat) (hp : s.1 ≤ n) (w g : Nat → Nat) (h17 : M 17 = jm_n w) (h18 : M 18 = jm_n g) (hw : ∀ j, 45 ≤ j → w j = 0) (hg : ∀ j, 45 ≤ j → g j = 0) (l1 : Option Value) : jm_J none YX6_river 211 [some (.ref 11), l1] [] (PT M t n fk s) ((fun o M1 => (s.2 = 0 → o = some (.int (nI (g 2))) ∧ M1 = jm_sf (jm_sf (PT M t n fk s) 17 (jm_n g)) 11 (upd ((PT M t n fk s) 11) 17 (nI 0))) ∧ (¬ s.2 = 0 → o = some (.int (-1000100 - nI s.1)) ∧ M1 = (PT M t n fk s)))) := by
  refine jm_ald_n (Y := YX6_river) (pc := 211) (i := 0) dX6_river_211 rfl rfl ?_
  refine jm_V0ie (Y := YX6_river) (pc := 212) dX6_river_212 lk_RX6_101 ⟨_, rfl⟩ rfl (by decide) (Nat.le_of_ble_eq_true rfl) ⟨by decide, by decide⟩ (c_isWF t n M hn fk s hp) ?_
  refine jm_if_neB (Y := YX6_river) (pc := 215) dX6_river_215 rfl (fun h_215 => ?_) (fun h_215 => ?_)
  · refine jm_ald_n (Y := YX6_river) (pc := 226) (i := 0) dX6_river_226 rfl rfl ?_
    refine jm_getR (Y := YX6_river) (pc := 227) dX6_river_227 fr_RX6_28 rfl (by decide) rfl ?_
    refine jm_icN (Y := YX6_river) (pc := 230) 0 dX6_river_230 rfl ?_
    refine jm_ald_n (Y := YX6_river) (pc := 231) (i := 0) dX6_river_231 rfl rfl ?_
    refine jm_getR (Y := YX6_river) (pc := 232) dX6_river_232 fr_RX6_25 rfl (by decide) rfl ?_
    refine jm_icN (Y := YX6_river) (pc := 235) 0 dX6_river_235 rfl ?_
    refine jm_S4ve (Y := YX6_river) (pc := 236) dX6_river_236 lk_RX6_135 rfl rfl rfl rfl rfl (by decide) (Nat.le_of_ble_eq_true rfl) ⟨by decide, by decide⟩ (c_copies 18 17 45 45 0 0 g w _ rfl rfl (by decide) ((PT_17 (by decide)).trans h18) ((PT_17 (by decide)).trans h17) (by decide) (by decide)) ?_
    rw [p_cp45 hg hw]
    refine jm_ald_n (Y := YX6_river) (pc := 239) (i := 0) dX6_river_239 rfl rfl ?_
    refine jm_icN (Y := YX6_river) (pc := 240) 0 dX6_river_240 rfl ?_
    refine jm_put (Y := YX6_river) (pc := 241) dX6_river_241 fw_RX6_139 rfl (by decide) rfl ?_
    refine jm_ald_n (Y := YX6_river) (pc := 244) (i := 0) dX6_river_244 rfl rfl ?_
    refine jm_getR (Y := YX6_river) (pc := 245) dX6_river_245 fr_RX6_25 rfl (by decide) rfl ?_
    refine jm_icN (Y := YX6_river) (pc := 248) 2 dX6_river_248 rfl ?_
    refine jm_ialN (Y := YX6_river) (pc := 249) dX6_river_249 (by first | assumption | exact jm_arR1 ha | exact jm_arR2 ha | exact jm_arR3 ha | exact jm_arR1 hb | exact jm_arR2 hb | exact jm_arR3 hb | rfl) (by omega) ((show _ = nI (g 2) from rfl)) ?_
    refine jm_ret (Y := YX6_river) (pc := 250) (st := []) dX6_river_250 rfl rfl ?_
    first | exact ⟨fun z => absurd z h_215, fun _ => ⟨rfl, rfl⟩⟩ | exact ⟨fun _ => ⟨rfl, rfl⟩, fun z => absurd h_215 z⟩ | fail
  · refine jm_ldc (Y := YX6_river) (pc := 218) (v := -1000100) dX6_river_218 kc_RX6_134 ?_
    refine jm_ald_n (Y := YX6_river) (pc := 220) (i := 0) dX6_river_220 rfl rfl ?_
    refine jm_getE (Y := YX6_river) (pc := 221) dX6_river_221 fw_RX6_98 rfl (by decide) rfl ((show PT M t n fk s 11 8 = nI s.1 by rw [PT_8, if_neg h_215])) ?_
    refine jm_isub (Y := YX6_river) (pc := 224) dX6_river_224 ?_
    refine jm_ret (Y := YX6_river) (pc := 225) (st := []) dX6_river_225 rfl rfl ?_
    first | exact ⟨fun z => absurd z h_215, fun _ => ⟨rfl, rfl⟩⟩ | exact ⟨fun _ => ⟨rfl, rfl⟩, fun z => absurd h_215 z⟩ | fail
theorem x_r8_e {t : Nat → Nat} {n : Nat} : (if decide (s_tk t n (x_r7 t n).2.1 = 0) = true then (x_r7 t n).2 else x_tk t n false 1 (x_r7 t n).2) = x_r8 t n := by
  unfold x_r8
  by_cases z : s_tk t n (x_r7 t n).2.1 = 0
  · rw [if_pos (decide_eq_true z), if_pos z]
  · rw [if_neg (fun q => z (of_decide_eq_true q)), if_neg z]
theorem x_r6_e {t : Nat → Nat} {n : Nat} : (if decide (3 < (x_r5 t n).1 2) = true then (x_r5 t n).2 else x_tk t n false 1 (x_r5 t n).2) = x_r6 t n := by
  unfold x_r6
  by_cases z : 3 < (x_r5 t n).1 2
  · rw [if_pos (decide_eq_true z), if_pos z]
  · rw [if_neg (fun q => z (of_decide_eq_true q)), if_neg z]
theorem c_riv6x (t : Nat → Nat) (n : Nat) (M : jm_M) (hn : n ≤ 110) (hb : ∀ i, t i ≤ 255) (h16 : ∀ i, i < n → M 16 i = nI (t i)) (h6 : M 11 6 = nI n) (fk : Int32) (w : Nat → Nat) (hw : M 17 = jm_n w) (hw0 : ∀ j, 45 ≤ j → w j = 0) (l1 : Option Value) : jm_J none YX6_river 211 [some (.ref 11), l1] [] (PT (jm_sf (jm_sf M 18 (jm_n (x_r7 t n).1)) 11 (upd (M 11) 6 (nI 0))) t n fk (x_r8 t n)) (fun o M1 => ∃ M2, M2 = (PT (jm_sf (jm_sf M 18 (jm_n (x_r7 t n).1)) 11 (upd (M 11) 6 (nI 0))) t n fk (x_r8 t n)) ∧ ((x_r8 t n).2 = 0 → o = some (.int (nI ((x_r7 t n).1 2))) ∧ M1 = jm_sf (jm_sf M2 17 (jm_n (x_r7 t n).1)) 11 (upd (M2 11) 17 (nI 0))) ∧ (¬ (x_r8 t n).2 = 0 → o = some (.int (-1000100 - nI (x_r8 t n).1)) ∧ M1 = M2)) :=
  jm_wk (c_riv6 t n (jm_sf (jm_sf M 18 (jm_n (x_r7 t n).1)) 11 (upd (M 11) 6 (nI 0))) hn fk (x_r8 t n) (x_r8_p t n) w (x_r7 t n).1 hw rfl hw0 (x_r7_R t n).1.1.2.2.2.1 l1) (fun o M1 q => ⟨_, rfl, q⟩)
theorem c_riv5 (t : Nat → Nat) (n : Nat) (M : jm_M) (hn : n ≤ 110) (hb : ∀ i, t i ≤ 255) (h16 : ∀ i, i < n → M 16 i = nI (t i)) (h6 : M 11 6 = nI n) (fk : Int32) (w : Nat → Nat) (hw : M 17 = jm_n w) (hw0 : ∀ j, 45 ≤ j → w j = 0) (l1 : Option Value) (g : Nat → Nat) (s : Nat × Nat) (hp : s.1 ≤ n) (Q : Option Value → jm_M → Prop) (K : jm_J none YX6_river 211 [some (.ref 11), l1] [] (PT (jm_sf (jm_sf M 18 (jm_n g)) 11 (upd (M 11) 6 (nI 0))) t n fk (if decide (s_tk t n s.1 = 0) = true then s else x_tk t n false 1 s)) Q) : jm_J none YX6_river 190 [some (.ref 11), l1] [] (PT (jm_sf M 18 (jm_n (g))) t n fk (s)) Q := by
  have k5 := s_tk_le t n s.1
  refine jm_ald_n (Y := YX6_river) (pc := 190) (i := 0) dX6_river_190 rfl rfl ?_
  refine jm_ald_n (Y := YX6_river) (pc := 191) (i := 0) dX6_river_191 rfl rfl ?_
  refine jm_getE (Y := YX6_river) (pc := 192) dX6_river_192 fw_RX6_95 rfl (by decide) rfl ((show _ = nI (s_tk t n s.1) from rfl)) ?_
  refine jm_if_neN (Y := YX6_river) (pc := 195) dX6_river_195 rfl (by omega) (fun h_195 => ?_) (fun h_195 => ?_)
  · refine jm_icN (Y := YX6_river) (pc := 202) 0 dX6_river_202 rfl ?_
    refine jm_V1ve (Y := YX6_river) (pc := 203) dX6_river_203 lk_RX6_127 rfl rfl rfl (by decide) (Nat.le_of_ble_eq_true rfl) ⟨by decide, by decide⟩ (c_must t n (jm_sf M 18 (jm_n (g))) hn hb h16 h6 fk (s) hp (decide (s_tk t n s.1 = 0)) _ (by first | exact (jm_b_t (decide_eq_true h_195)).symm | exact (jm_b_f (fun z => h_195 (of_decide_eq_true z))).symm | exact (jm_b_f (fun z => absurd (of_decide_eq_true z) (by omega))).symm)) ?_
    refine jm_ald_n (Y := YX6_river) (pc := 206) (i := 0) dX6_river_206 rfl rfl ?_
    refine jm_icN (Y := YX6_river) (pc := 207) 0 dX6_river_207 rfl ?_
    refine jm_put (Y := YX6_river) (pc := 208) dX6_river_208 fw_RX6_79 rfl (by decide) rfl ?_
    rw [PT_k _ (by omega)]
    exact K
  · refine jm_icN (Y := YX6_river) (pc := 198) 1 dX6_river_198 rfl ?_
    refine jm_goto (Y := YX6_river) (pc := 199) dX6_river_199 rfl ?_
    refine jm_V1ve (Y := YX6_river) (pc := 203) dX6_river_203 lk_RX6_127 rfl rfl rfl (by decide) (Nat.le_of_ble_eq_true rfl) ⟨by decide, by decide⟩ (c_must t n (jm_sf M 18 (jm_n (g))) hn hb h16 h6 fk (s) hp (decide (s_tk t n s.1 = 0)) _ (by first | exact (jm_b_t (decide_eq_true h_195)).symm | exact (jm_b_f (fun z => h_195 (of_decide_eq_true z))).symm | exact (jm_b_f (fun z => absurd (of_decide_eq_true z) (by omega))).symm)) ?_
    refine jm_ald_n (Y := YX6_river) (pc := 206) (i := 0) dX6_river_206 rfl rfl ?_
    refine jm_icN (Y := YX6_river) (pc := 207) 0 dX6_river_207 rfl ?_
    refine jm_put (Y := YX6_river) (pc := 208) dX6_river_208 fw_RX6_79 rfl (by decide) rfl ?_
    rw [PT_k _ (by omega)]
    exact K
theorem c_riv4 (t : Nat → Nat) (n : Nat) (M : jm_M) (hn : n ≤ 110) (hb : ∀ i, t i ≤ 255) (h16 : ∀ i, i < n → M 16 i = nI (t i)) (h6 : M 11 6 = nI n) (fk : Int32) (w : Nat → Nat) (hw : M 17 = jm_n w) (hw0 : ∀ j, 45 ≤ j → w j = 0) (l1 : Option Value) (g : Nat → Nat) (s : Nat × Nat) (hp : s.1 ≤ n) (Q : Option Value → jm_M → Prop) (hR : rR g) (K : jm_J none YX6_river 158 [some (.ref 11), l1] [] (PT (jm_sf M 18 (jm_n (g))) t n fk (if decide (3 < g 2) = true then s else x_tk t n false 1 s)) Q) : jm_J none YX6_river 139 [some (.ref 11), l1] [] (PT (jm_sf M 18 (jm_n (g))) t n fk (s)) Q := by
  have g12 := hR.1.1.2.2.1
  refine jm_ald_n (Y := YX6_river) (pc := 139) (i := 0) dX6_river_139 rfl rfl ?_
  refine jm_ald_n (Y := YX6_river) (pc := 140) (i := 0) dX6_river_140 rfl rfl ?_
  refine jm_getR (Y := YX6_river) (pc := 141) dX6_river_141 fr_RX6_28 rfl (by decide) rfl ?_
  refine jm_icN (Y := YX6_river) (pc := 144) 2 dX6_river_144 rfl ?_
  refine jm_ialN (Y := YX6_river) (pc := 145) dX6_river_145 (by first | assumption | exact jm_arR1 ha | exact jm_arR2 ha | exact jm_arR3 ha | exact jm_arR1 hb | exact jm_arR2 hb | exact jm_arR3 hb | rfl) (by omega) ((show _ = nI (g 2) from rfl)) ?_
  refine jm_icN (Y := YX6_river) (pc := 146) 3 dX6_river_146 rfl ?_
  refine jm_icmp_leN (Y := YX6_river) (pc := 147) dX6_river_147 rfl (by omega) (by omega) (fun h_147 => ?_) (fun h_147 => ?_)
  · refine jm_icN (Y := YX6_river) (pc := 154) 0 dX6_river_154 rfl ?_
    refine jm_V1ve (Y := YX6_river) (pc := 155) dX6_river_155 lk_RX6_127 rfl rfl rfl (by decide) (Nat.le_of_ble_eq_true rfl) ⟨by decide, by decide⟩ (c_must t n (jm_sf M 18 (jm_n (g))) hn hb h16 h6 fk (s) hp (decide (3 < g 2)) _ (by first | exact (jm_b_t (decide_eq_true h_147)).symm | exact (jm_b_f (fun z => absurd (of_decide_eq_true z) (by omega))).symm | exact (jm_b_t (decide_eq_true (by omega))).symm)) ?_
    exact K
  · refine jm_icN (Y := YX6_river) (pc := 150) 1 dX6_river_150 rfl ?_
    refine jm_goto (Y := YX6_river) (pc := 151) dX6_river_151 rfl ?_
    refine jm_V1ve (Y := YX6_river) (pc := 155) dX6_river_155 lk_RX6_127 rfl rfl rfl (by decide) (Nat.le_of_ble_eq_true rfl) ⟨by decide, by decide⟩ (c_must t n (jm_sf M 18 (jm_n (g))) hn hb h16 h6 fk (s) hp (decide (3 < g 2)) _ (by first | exact (jm_b_t (decide_eq_true h_147)).symm | exact (jm_b_f (fun z => absurd (of_decide_eq_true z) (by omega))).symm | exact (jm_b_t (decide_eq_true (by omega))).symm)) ?_
    exact K
theorem c_riv3 (t : Nat → Nat) (n : Nat) (M : jm_M) (hn : n ≤ 110) (hb : ∀ i, t i ≤ 255) (h16 : ∀ i, i < n → M 16 i = nI (t i)) (h6 : M 11 6 = nI n) (a7 a9 a10 a11 a12 a8 : Int32) (l1 : Option Value) (Q : Option Value → jm_M → Prop) (K : jm_J none YX6_river 108 [some (.ref 11), l1] [] (PT (jm_sf M 18 (jm_n (x_g4 t n))) t n a7 (x_r4 t n)) Q) : jm_J none YX6_river 21 [some (.ref 11), l1] [] (PS (jm_sf M 18 (jm_n (fun _ => 0))) a7 a8 a9 a10 a11 a12) Q := by
  have k5 := s_tk_le t n 0
  have k6 := s_tk_le t n (x_r3 t n).2.1
  have tb := hb 0
  refine jm_ald_n (Y := YX6_river) (pc := 21) (i := 0) dX6_river_21 rfl rfl ?_
  refine jm_icN (Y := YX6_river) (pc := 22) 0 dX6_river_22 rfl ?_
  refine jm_put (Y := YX6_river) (pc := 23) dX6_river_23 fw_RX6_83 rfl (by decide) rfl ?_
  rw [PS_u9]
  refine jm_ald_n (Y := YX6_river) (pc := 26) (i := 0) dX6_river_26 rfl rfl ?_
  refine jm_iconst (Y := YX6_river) (pc := 27) (v := -1) dX6_river_27 rfl ?_
  refine jm_put (Y := YX6_river) (pc := 28) dX6_river_28 fw_RX6_98 rfl (by decide) rfl ?_
  rw [PS_u8]
  refine jm_ald_n (Y := YX6_river) (pc := 31) (i := 0) dX6_river_31 rfl rfl ?_
  refine jm_V0ve (Y := YX6_river) (pc := 32) dX6_river_32 lk_RX6_108 rfl rfl (by decide) (Nat.le_of_ble_eq_true rfl) ⟨by decide, by decide⟩ ((show jm_J none YX6_advances 0 _ [] _ (jm_is none (PT (jm_sf M 18 (jm_n (fun _ => 0))) t n a7 (0, 0))) from c_advances t n (jm_sf M 18 (jm_n (fun _ => 0))) hn hb h16 h6 a7 (-1) (nI 0) a10 a11 a12 0 (Nat.zero_le _))) ?_
  refine jm_ald_n (Y := YX6_river) (pc := 35) (i := 0) dX6_river_35 rfl rfl ?_
  refine jm_ald_n (Y := YX6_river) (pc := 36) (i := 0) dX6_river_36 rfl rfl ?_
  refine jm_getE (Y := YX6_river) (pc := 37) dX6_river_37 fw_RX6_95 rfl (by decide) rfl ((show _ = nI (s_tk t n 0) from rfl)) ?_
  refine jm_icN (Y := YX6_river) (pc := 40) 1 dX6_river_40 rfl ?_
  refine jm_icmp_neN (Y := YX6_river) (pc := 41) dX6_river_41 rfl (by omega) (by omega) (fun h_41 => ?_) (fun h_41 => ?_)
  · refine jm_icN (Y := YX6_river) (pc := 57) 0 dX6_river_57 rfl ?_
    refine jm_icN (Y := YX6_river) (pc := 58) 1 dX6_river_58 rfl ?_
    refine jm_V2ie (Y := YX6_river) (pc := 59) dX6_river_59 lk_RX6_111 ⟨_, rfl⟩ rfl rfl rfl (by decide) (Nat.le_of_ble_eq_true rfl) ⟨by decide, by decide⟩ (c_takes t n (jm_sf M 18 (jm_n (fun _ => 0))) hn hb h16 h6 a7 (0, 0) (Nat.zero_le _) (decide (s_tk t n 0 = 1 ∧ t 0 = 114)) _ (by first | exact (jm_b_t (decide_eq_true ⟨h_41, h_50⟩)).symm | exact (jm_b_f (fun z => absurd (of_decide_eq_true z) (by omega))).symm) 1 (by decide)) ?_
    refine jm_pop (Y := YX6_river) (pc := 62) dX6_river_62 rfl ?_
    refine jm_ald_n (Y := YX6_river) (pc := 63) (i := 0) dX6_river_63 rfl rfl ?_
    refine jm_getR (Y := YX6_river) (pc := 64) dX6_river_64 fr_RX6_28 rfl (by decide) rfl ?_
    refine jm_icN (Y := YX6_river) (pc := 67) 0 dX6_river_67 rfl ?_
    refine jm_ald_n (Y := YX6_river) (pc := 68) (i := 0) dX6_river_68 rfl rfl ?_
    refine jm_icN (Y := YX6_river) (pc := 69) 0 dX6_river_69 rfl ?_
    refine jm_bpN (Y := YX6_river) (pc := 70) 15 dX6_river_70 rfl ?_
    refine jm_V2ie (Y := YX6_river) (pc := 72) dX6_river_72 lk_RX6_115 ⟨_, rfl⟩ rfl rfl rfl (by decide) (Nat.le_of_ble_eq_true rfl) ⟨by decide, by decide⟩ (c_figure t n (jm_sf M 18 (jm_n (fun _ => 0))) hn hb h16 h6 a7 (x_r1 t n) (x_r1_p t n) 0 16 (by decide) (nI 15) (by decide)) ?_
    refine jm_iasN (Y := YX6_river) (pc := 75) dX6_river_75 rfl (by omega) ?_
    rw [PT_18]
    refine jm_ald_n (Y := YX6_river) (pc := 76) (i := 0) dX6_river_76 rfl rfl ?_
    refine jm_getR (Y := YX6_river) (pc := 77) dX6_river_77 fr_RX6_28 rfl (by decide) rfl ?_
    refine jm_icN (Y := YX6_river) (pc := 80) 1 dX6_river_80 rfl ?_
    refine jm_ald_n (Y := YX6_river) (pc := 81) (i := 0) dX6_river_81 rfl rfl ?_
    refine jm_icN (Y := YX6_river) (pc := 82) 0 dX6_river_82 rfl ?_
    refine jm_bpN (Y := YX6_river) (pc := 83) 10 dX6_river_83 rfl ?_
    refine jm_V2ie (Y := YX6_river) (pc := 85) dX6_river_85 lk_RX6_121 ⟨_, rfl⟩ rfl rfl rfl (by decide) (Nat.le_of_ble_eq_true rfl) ⟨by decide, by decide⟩ (c_follows t n (jm_sf M 18 (jm_n (wU (fun _ => 0) 0 (x_r2 t n).1))) hn hb h16 h6 a7 (x_r2 t n).2 (x_r2_p t n) 0 11 (by decide) (nI 10) (by decide)) ?_
    refine jm_iasN (Y := YX6_river) (pc := 88) dX6_river_88 rfl (by omega) ?_
    rw [PT_18]
    refine jm_ald_n (Y := YX6_river) (pc := 89) (i := 0) dX6_river_89 rfl rfl ?_
    refine jm_ald_n (Y := YX6_river) (pc := 90) (i := 0) dX6_river_90 rfl rfl ?_
    refine jm_getE (Y := YX6_river) (pc := 91) dX6_river_91 fw_RX6_95 rfl (by decide) rfl ((show _ = nI (s_tk t n (x_r3 t n).2.1) from rfl)) ?_
    refine jm_icN (Y := YX6_river) (pc := 94) 4 dX6_river_94 rfl ?_
    refine jm_icmp_neN (Y := YX6_river) (pc := 95) dX6_river_95 rfl (by omega) (by omega) (fun h_95 => ?_) (fun h_95 => ?_)
    · refine jm_icN (Y := YX6_river) (pc := 102) 0 dX6_river_102 rfl ?_
      refine jm_icN (Y := YX6_river) (pc := 103) 1 dX6_river_103 rfl ?_
      refine jm_V2ie (Y := YX6_river) (pc := 104) dX6_river_104 lk_RX6_111 ⟨_, rfl⟩ rfl rfl rfl (by decide) (Nat.le_of_ble_eq_true rfl) ⟨by decide, by decide⟩ (c_takes t n (jm_sf M 18 (jm_n (x_g4 t n))) hn hb h16 h6 a7 (x_r3 t n).2 (x_r3_p t n) (decide (s_tk t n (x_r3 t n).2.1 = 4)) _ (by first | exact (jm_b_t (decide_eq_true h_95)).symm | exact (jm_b_f (fun z => h_95 (of_decide_eq_true z))).symm | exact (jm_b_f (fun z => absurd (of_decide_eq_true z) (by omega))).symm) 1 (by decide)) ?_
      refine jm_pop (Y := YX6_river) (pc := 107) dX6_river_107 rfl ?_
      exact K
    · refine jm_icN (Y := YX6_river) (pc := 98) 1 dX6_river_98 rfl ?_
      refine jm_goto (Y := YX6_river) (pc := 99) dX6_river_99 rfl ?_
      refine jm_icN (Y := YX6_river) (pc := 103) 1 dX6_river_103 rfl ?_
      refine jm_V2ie (Y := YX6_river) (pc := 104) dX6_river_104 lk_RX6_111 ⟨_, rfl⟩ rfl rfl rfl (by decide) (Nat.le_of_ble_eq_true rfl) ⟨by decide, by decide⟩ (c_takes t n (jm_sf M 18 (jm_n (x_g4 t n))) hn hb h16 h6 a7 (x_r3 t n).2 (x_r3_p t n) (decide (s_tk t n (x_r3 t n).2.1 = 4)) _ (by first | exact (jm_b_t (decide_eq_true h_95)).symm | exact (jm_b_f (fun z => h_95 (of_decide_eq_true z))).symm | exact (jm_b_f (fun z => absurd (of_decide_eq_true z) (by omega))).symm) 1 (by decide)) ?_
      refine jm_pop (Y := YX6_river) (pc := 107) dX6_river_107 rfl ?_
      exact K
  · refine jm_ald_n (Y := YX6_river) (pc := 44) (i := 0) dX6_river_44 rfl rfl ?_
    refine jm_getE (Y := YX6_river) (pc := 45) dX6_river_45 fw_RX6_92 rfl (by decide) rfl ((show _ = nI (t 0) from s_tv_l h_41)) ?_
    refine jm_bpN (Y := YX6_river) (pc := 48) 114 dX6_river_48 rfl ?_
    refine jm_icmp_neN (Y := YX6_river) (pc := 50) dX6_river_50 rfl (by omega) (by omega) (fun h_50 => ?_) (fun h_50 => ?_)
    · refine jm_icN (Y := YX6_river) (pc := 57) 0 dX6_river_57 rfl ?_
      refine jm_icN (Y := YX6_river) (pc := 58) 1 dX6_river_58 rfl ?_
      refine jm_V2ie (Y := YX6_river) (pc := 59) dX6_river_59 lk_RX6_111 ⟨_, rfl⟩ rfl rfl rfl (by decide) (Nat.le_of_ble_eq_true rfl) ⟨by decide, by decide⟩ (c_takes t n (jm_sf M 18 (jm_n (fun _ => 0))) hn hb h16 h6 a7 (0, 0) (Nat.zero_le _) (decide (s_tk t n 0 = 1 ∧ t 0 = 114)) _ (by first | exact (jm_b_t (decide_eq_true ⟨h_41, h_50⟩)).symm | exact (jm_b_f (fun z => absurd (of_decide_eq_true z) (by omega))).symm) 1 (by decide)) ?_
      refine jm_pop (Y := YX6_river) (pc := 62) dX6_river_62 rfl ?_
      refine jm_ald_n (Y := YX6_river) (pc := 63) (i := 0) dX6_river_63 rfl rfl ?_
      refine jm_getR (Y := YX6_river) (pc := 64) dX6_river_64 fr_RX6_28 rfl (by decide) rfl ?_
      refine jm_icN (Y := YX6_river) (pc := 67) 0 dX6_river_67 rfl ?_
      refine jm_ald_n (Y := YX6_river) (pc := 68) (i := 0) dX6_river_68 rfl rfl ?_
      refine jm_icN (Y := YX6_river) (pc := 69) 0 dX6_river_69 rfl ?_
      refine jm_bpN (Y := YX6_river) (pc := 70) 15 dX6_river_70 rfl ?_
      refine jm_V2ie (Y := YX6_river) (pc := 72) dX6_river_72 lk_RX6_115 ⟨_, rfl⟩ rfl rfl rfl (by decide) (Nat.le_of_ble_eq_true rfl) ⟨by decide, by decide⟩ (c_figure t n (jm_sf M 18 (jm_n (fun _ => 0))) hn hb h16 h6 a7 (x_r1 t n) (x_r1_p t n) 0 16 (by decide) (nI 15) (by decide)) ?_
      refine jm_iasN (Y := YX6_river) (pc := 75) dX6_river_75 rfl (by omega) ?_
      rw [PT_18]
      refine jm_ald_n (Y := YX6_river) (pc := 76) (i := 0) dX6_river_76 rfl rfl ?_
      refine jm_getR (Y := YX6_river) (pc := 77) dX6_river_77 fr_RX6_28 rfl (by decide) rfl ?_
      refine jm_icN (Y := YX6_river) (pc := 80) 1 dX6_river_80 rfl ?_
      refine jm_ald_n (Y := YX6_river) (pc := 81) (i := 0) dX6_river_81 rfl rfl ?_
      refine jm_icN (Y := YX6_river) (pc := 82) 0 dX6_river_82 rfl ?_
      refine jm_bpN (Y := YX6_river) (pc := 83) 10 dX6_river_83 rfl ?_
      refine jm_V2ie (Y := YX6_river) (pc := 85) dX6_river_85 lk_RX6_121 ⟨_, rfl⟩ rfl rfl rfl (by decide) (Nat.le_of_ble_eq_true rfl) ⟨by decide, by decide⟩ (c_follows t n (jm_sf M 18 (jm_n (wU (fun _ => 0) 0 (x_r2 t n).1))) hn hb h16 h6 a7 (x_r2 t n).2 (x_r2_p t n) 0 11 (by decide) (nI 10) (by decide)) ?_
      refine jm_iasN (Y := YX6_river) (pc := 88) dX6_river_88 rfl (by omega) ?_
      rw [PT_18]
      refine jm_ald_n (Y := YX6_river) (pc := 89) (i := 0) dX6_river_89 rfl rfl ?_
      refine jm_ald_n (Y := YX6_river) (pc := 90) (i := 0) dX6_river_90 rfl rfl ?_
      refine jm_getE (Y := YX6_river) (pc := 91) dX6_river_91 fw_RX6_95 rfl (by decide) rfl ((show _ = nI (s_tk t n (x_r3 t n).2.1) from rfl)) ?_
      refine jm_icN (Y := YX6_river) (pc := 94) 4 dX6_river_94 rfl ?_
      refine jm_icmp_neN (Y := YX6_river) (pc := 95) dX6_river_95 rfl (by omega) (by omega) (fun h_95 => ?_) (fun h_95 => ?_)
      · refine jm_icN (Y := YX6_river) (pc := 102) 0 dX6_river_102 rfl ?_
        refine jm_icN (Y := YX6_river) (pc := 103) 1 dX6_river_103 rfl ?_
        refine jm_V2ie (Y := YX6_river) (pc := 104) dX6_river_104 lk_RX6_111 ⟨_, rfl⟩ rfl rfl rfl (by decide) (Nat.le_of_ble_eq_true rfl) ⟨by decide, by decide⟩ (c_takes t n (jm_sf M 18 (jm_n (x_g4 t n))) hn hb h16 h6 a7 (x_r3 t n).2 (x_r3_p t n) (decide (s_tk t n (x_r3 t n).2.1 = 4)) _ (by first | exact (jm_b_t (decide_eq_true h_95)).symm | exact (jm_b_f (fun z => h_95 (of_decide_eq_true z))).symm | exact (jm_b_f (fun z => absurd (of_decide_eq_true z) (by omega))).symm) 1 (by decide)) ?_
        refine jm_pop (Y := YX6_river) (pc := 107) dX6_river_107 rfl ?_
        exact K
      · refine jm_icN (Y := YX6_river) (pc := 98) 1 dX6_river_98 rfl ?_
        refine jm_goto (Y := YX6_river) (pc := 99) dX6_river_99 rfl ?_
        refine jm_icN (Y := YX6_river) (pc := 103) 1 dX6_river_103 rfl ?_
        refine jm_V2ie (Y := YX6_river) (pc := 104) dX6_river_104 lk_RX6_111 ⟨_, rfl⟩ rfl rfl rfl (by decide) (Nat.le_of_ble_eq_true rfl) ⟨by decide, by decide⟩ (c_takes t n (jm_sf M 18 (jm_n (x_g4 t n))) hn hb h16 h6 a7 (x_r3 t n).2 (x_r3_p t n) (decide (s_tk t n (x_r3 t n).2.1 = 4)) _ (by first | exact (jm_b_t (decide_eq_true h_95)).symm | exact (jm_b_f (fun z => h_95 (of_decide_eq_true z))).symm | exact (jm_b_f (fun z => absurd (of_decide_eq_true z) (by omega))).symm) 1 (by decide)) ?_
        refine jm_pop (Y := YX6_river) (pc := 107) dX6_river_107 rfl ?_
        exact K
    · refine jm_icN (Y := YX6_river) (pc := 53) 1 dX6_river_53 rfl ?_
      refine jm_goto (Y := YX6_river) (pc := 54) dX6_river_54 rfl ?_
      refine jm_icN (Y := YX6_river) (pc := 58) 1 dX6_river_58 rfl ?_
      refine jm_V2ie (Y := YX6_river) (pc := 59) dX6_river_59 lk_RX6_111 ⟨_, rfl⟩ rfl rfl rfl (by decide) (Nat.le_of_ble_eq_true rfl) ⟨by decide, by decide⟩ (c_takes t n (jm_sf M 18 (jm_n (fun _ => 0))) hn hb h16 h6 a7 (0, 0) (Nat.zero_le _) (decide (s_tk t n 0 = 1 ∧ t 0 = 114)) _ (by first | exact (jm_b_t (decide_eq_true ⟨h_41, h_50⟩)).symm | exact (jm_b_f (fun z => absurd (of_decide_eq_true z) (by omega))).symm) 1 (by decide)) ?_
      refine jm_pop (Y := YX6_river) (pc := 62) dX6_river_62 rfl ?_
      refine jm_ald_n (Y := YX6_river) (pc := 63) (i := 0) dX6_river_63 rfl rfl ?_
      refine jm_getR (Y := YX6_river) (pc := 64) dX6_river_64 fr_RX6_28 rfl (by decide) rfl ?_
      refine jm_icN (Y := YX6_river) (pc := 67) 0 dX6_river_67 rfl ?_
      refine jm_ald_n (Y := YX6_river) (pc := 68) (i := 0) dX6_river_68 rfl rfl ?_
      refine jm_icN (Y := YX6_river) (pc := 69) 0 dX6_river_69 rfl ?_
      refine jm_bpN (Y := YX6_river) (pc := 70) 15 dX6_river_70 rfl ?_
      refine jm_V2ie (Y := YX6_river) (pc := 72) dX6_river_72 lk_RX6_115 ⟨_, rfl⟩ rfl rfl rfl (by decide) (Nat.le_of_ble_eq_true rfl) ⟨by decide, by decide⟩ (c_figure t n (jm_sf M 18 (jm_n (fun _ => 0))) hn hb h16 h6 a7 (x_r1 t n) (x_r1_p t n) 0 16 (by decide) (nI 15) (by decide)) ?_
      refine jm_iasN (Y := YX6_river) (pc := 75) dX6_river_75 rfl (by omega) ?_
      rw [PT_18]
      refine jm_ald_n (Y := YX6_river) (pc := 76) (i := 0) dX6_river_76 rfl rfl ?_
      refine jm_getR (Y := YX6_river) (pc := 77) dX6_river_77 fr_RX6_28 rfl (by decide) rfl ?_
      refine jm_icN (Y := YX6_river) (pc := 80) 1 dX6_river_80 rfl ?_
      refine jm_ald_n (Y := YX6_river) (pc := 81) (i := 0) dX6_river_81 rfl rfl ?_
      refine jm_icN (Y := YX6_river) (pc := 82) 0 dX6_river_82 rfl ?_
      refine jm_bpN (Y := YX6_river) (pc := 83) 10 dX6_river_83 rfl ?_
      refine jm_V2ie (Y := YX6_river) (pc := 85) dX6_river_85 lk_RX6_121 ⟨_, rfl⟩ rfl rfl rfl (by decide) (Nat.le_of_ble_eq_true rfl) ⟨by decide, by decide⟩ (c_follows t n (jm_sf M 18 (jm_n (wU (fun _ => 0) 0 (x_r2 t n).1))) hn hb h16 h6 a7 (x_r2 t n).2 (x_r2_p t n) 0 11 (by decide) (nI 10) (by decide)) ?_
      refine jm_iasN (Y := YX6_river) (pc := 88) dX6_river_88 rfl (by omega) ?_
      rw [PT_18]
      refine jm_ald_n (Y := YX6_river) (pc := 89) (i := 0) dX6_river_89 rfl rfl ?_
      refine jm_ald_n (Y := YX6_river) (pc := 90) (i := 0) dX6_river_90 rfl rfl ?_
      refine jm_getE (Y := YX6_river) (pc := 91) dX6_river_91 fw_RX6_95 rfl (by decide) rfl ((show _ = nI (s_tk t n (x_r3 t n).2.1) from rfl)) ?_
      refine jm_icN (Y := YX6_river) (pc := 94) 4 dX6_river_94 rfl ?_
      refine jm_icmp_neN (Y := YX6_river) (pc := 95) dX6_river_95 rfl (by omega) (by omega) (fun h_95 => ?_) (fun h_95 => ?_)
      · refine jm_icN (Y := YX6_river) (pc := 102) 0 dX6_river_102 rfl ?_
        refine jm_icN (Y := YX6_river) (pc := 103) 1 dX6_river_103 rfl ?_
        refine jm_V2ie (Y := YX6_river) (pc := 104) dX6_river_104 lk_RX6_111 ⟨_, rfl⟩ rfl rfl rfl (by decide) (Nat.le_of_ble_eq_true rfl) ⟨by decide, by decide⟩ (c_takes t n (jm_sf M 18 (jm_n (x_g4 t n))) hn hb h16 h6 a7 (x_r3 t n).2 (x_r3_p t n) (decide (s_tk t n (x_r3 t n).2.1 = 4)) _ (by first | exact (jm_b_t (decide_eq_true h_95)).symm | exact (jm_b_f (fun z => h_95 (of_decide_eq_true z))).symm | exact (jm_b_f (fun z => absurd (of_decide_eq_true z) (by omega))).symm) 1 (by decide)) ?_
        refine jm_pop (Y := YX6_river) (pc := 107) dX6_river_107 rfl ?_
        exact K
      · refine jm_icN (Y := YX6_river) (pc := 98) 1 dX6_river_98 rfl ?_
        refine jm_goto (Y := YX6_river) (pc := 99) dX6_river_99 rfl ?_
        refine jm_icN (Y := YX6_river) (pc := 103) 1 dX6_river_103 rfl ?_
        refine jm_V2ie (Y := YX6_river) (pc := 104) dX6_river_104 lk_RX6_111 ⟨_, rfl⟩ rfl rfl rfl (by decide) (Nat.le_of_ble_eq_true rfl) ⟨by decide, by decide⟩ (c_takes t n (jm_sf M 18 (jm_n (x_g4 t n))) hn hb h16 h6 a7 (x_r3 t n).2 (x_r3_p t n) (decide (s_tk t n (x_r3 t n).2.1 = 4)) _ (by first | exact (jm_b_t (decide_eq_true h_95)).symm | exact (jm_b_f (fun z => h_95 (of_decide_eq_true z))).symm | exact (jm_b_f (fun z => absurd (of_decide_eq_true z) (by omega))).symm) 1 (by decide)) ?_
        refine jm_pop (Y := YX6_river) (pc := 107) dX6_river_107 rfl ?_
        exact K
def p_z (g : Nat → Nat) (k : Nat) : Nat → Nat := fun j => if j < k then 0 else g j
theorem p_z_s (g : Nat → Nat) (k : Nat) : wU (p_z g k) k 0 = p_z g (k + 1) := by
  funext j
  unfold p_z
  by_cases h : j = k
  · subst h; rw [wU_s, if_pos (by omega)]
  · rw [wU_n _ _ h]
    by_cases h2 : j < k
    · rw [if_pos h2, if_pos (by omega)]
    · rw [if_neg h2, if_neg (by omega)]
theorem p_z_45 {g : Nat → Nat} (h : ∀ j, 45 ≤ j → g j = 0) : p_z g 45 = fun _ => 0 := by
  funext j
  unfold p_z
  split
  · rfl
  · exact h j (by omega)
theorem p_z_0 (g : Nat → Nat) : p_z g 0 = g := by funext j; unfold p_z; rw [if_neg (by omega)]
theorem c_riv0 (M : jm_M) (g : Nat → Nat) (Q : Option Value → jm_M → Prop) (K : jm_J none YX6_river 21 [some (.ref 11), some (.int (nI 45))] [] (jm_sf M 18 (jm_n (p_z g 45))) Q) : ∀ (m : Nat) (k : Nat), k ≤ 45 → 45 - k < m → jm_J none YX6_river 2 [some (.ref 11), some (.int (nI k))] [] (jm_sf M 18 (jm_n (p_z g k))) Q := by
  intro m
  induction m with
  | zero => intros; omega
  | succ m ih =>
    intro k hk hmm
    refine jm_ild_n (Y := YX6_river) (pc := 2) (i := 1) dX6_river_2 rfl rfl ?_
    refine jm_bpN (Y := YX6_river) (pc := 3) 45 dX6_river_3 rfl ?_
    refine jm_icmp_geN (Y := YX6_river) (pc := 5) dX6_river_5 rfl (by omega) (by omega) (fun h_5 => ?_) (fun h_5 => ?_)
    · have e : k = 45 := by omega
      subst e
      exact K
    · refine jm_ald_n (Y := YX6_river) (pc := 8) (i := 0) dX6_river_8 rfl rfl ?_
      refine jm_getR (Y := YX6_river) (pc := 9) dX6_river_9 fr_RX6_28 rfl (by decide) rfl ?_
      refine jm_ild_n (Y := YX6_river) (pc := 12) (i := 1) dX6_river_12 rfl rfl ?_
      refine jm_icN (Y := YX6_river) (pc := 13) 0 dX6_river_13 rfl ?_
      refine jm_iasW (Y := YX6_river) (pc := 14) (M0 := M) (w := p_z g k) dX6_river_14 rfl rfl (by omega) ?_
      rw [p_z_s]
      refine jm_incN (Y := YX6_river) (pc := 15) (m := 1) (ls' := [_, _]) dX6_river_15 rfl rfl rfl rfl ?_
      refine jm_goto (Y := YX6_river) (pc := 18) dX6_river_18 rfl ?_
      exact ih (k + 1) (by omega) (by omega)
theorem c_river (t : Nat → Nat) (n : Nat) (M : jm_M) (hn : n ≤ 110) (hb : ∀ i, t i ≤ 255) (h16 : ∀ i, i < n → M 16 i = nI (t i)) (h6 : M 11 6 = nI n) (w g : Nat → Nat) (hw : M 17 = jm_n w) (hw0 : ∀ j, 45 ≤ j → w j = 0) (hg : M 18 = jm_n g) (hg0 : ∀ j, 45 ≤ j → g j = 0) : jm_J none YX6_river 0 [some (.ref 11), none] [] M (fun o M1 => ∃ M2, M2 = (PT (jm_sf (jm_sf M 18 (jm_n (x_r7 t n).1)) 11 (upd (M 11) 6 (nI 0))) t n (M 11 7) (x_r8 t n)) ∧ ((x_r8 t n).2 = 0 → o = some (.int (nI ((x_r7 t n).1 2))) ∧ M1 = jm_sf (jm_sf M2 17 (jm_n (x_r7 t n).1)) 11 (upd (M2 11) 17 (nI 0))) ∧ (¬ (x_r8 t n).2 = 0 → o = some (.int (-1000100 - nI (x_r8 t n).1)) ∧ M1 = M2)) := by
  have h6x : jm_J none YX6_river 211 [some (.ref 11), some (.int (nI 45))] [] (PT (jm_sf (jm_sf M 18 (jm_n (x_r7 t n).1)) 11 (upd (M 11) 6 (nI 0))) t n (M 11 7) (x_r8 t n)) (fun o M1 => ∃ M2, M2 = (PT (jm_sf (jm_sf M 18 (jm_n (x_r7 t n).1)) 11 (upd (M 11) 6 (nI 0))) t n (M 11 7) (x_r8 t n)) ∧ ((x_r8 t n).2 = 0 → o = some (.int (nI ((x_r7 t n).1 2))) ∧ M1 = jm_sf (jm_sf M2 17 (jm_n (x_r7 t n).1)) 11 (upd (M2 11) 17 (nI 0))) ∧ (¬ (x_r8 t n).2 = 0 → o = some (.int (-1000100 - nI (x_r8 t n).1)) ∧ M1 = M2)) := c_riv6x t n M hn hb h16 h6 (M 11 7) w hw hw0 _
  have h5 := c_riv5 t n M hn hb h16 h6 (M 11 7) w hw hw0 (some (.int (nI 45))) (x_r7 t n).1 (x_r7 t n).2 (x_r7_R t n).2 _ (by rw [x_r8_e]; exact h6x)
  have h4 := c_rivW t n M hn hb h16 h6 (M 11 7) [] (some (.int (nI 45))) _ (n + 2) (x_r5 t n).1 (x_r6 t n) (x_r5_R t n).1 x_r6_4 (x_r6_p t n) h5 (x_ms_le n _)
  have h3 := c_riv4 t n M hn hb h16 h6 (M 11 7) w hw hw0 (some (.int (nI 45))) (x_r5 t n).1 (x_r5 t n).2 (x_r5_R t n).2 _ (x_r5_R t n).1 (by rw [x_r6_e]; exact h4)
  have h2 := c_rivC t n M hn hb h16 h6 (M 11 7) [] (some (.int (nI 45))) _ (n + 2) (x_g4 t n) (x_r4 t n) (x_g4_R t n) (x_r4_p t n) h3 (x_ms_le n _)
  have h1 := c_riv3 t n M hn hb h16 h6 (M 11 7) (M 11 9) (M 11 10) (M 11 11) (M 11 12) (M 11 8) (some (.int (nI 45))) _ h2
  have h0 := PS_id (jm_sf M 18 (jm_n (fun _ => 0)))
  have h1' : jm_J none YX6_river 21 [some (.ref 11), some (.int (nI 45))] [] (PS (jm_sf M 18 (jm_n (fun _ => 0))) ((jm_sf M 18 (jm_n (fun _ => 0))) 11 7) ((jm_sf M 18 (jm_n (fun _ => 0))) 11 8) ((jm_sf M 18 (jm_n (fun _ => 0))) 11 9) ((jm_sf M 18 (jm_n (fun _ => 0))) 11 10) ((jm_sf M 18 (jm_n (fun _ => 0))) 11 11) ((jm_sf M 18 (jm_n (fun _ => 0))) 11 12)) _ := h1
  rw [h0, ← p_z_45 hg0] at h1'
  have hz := c_riv0 M g _ h1' 46 0 (by omega) (by omega)
  rw [p_z_0, jm_sfid hg] at hz
  refine jm_icN (Y := YX6_river) (pc := 0) 0 dX6_river_0 rfl ?_
  refine jm_ist_n (Y := YX6_river) (pc := 1) (i := 1) (ls' := [_, _]) dX6_river_1 rfl (Nat.le_of_ble_eq_true rfl) rfl rfl ?_
  exact hz
