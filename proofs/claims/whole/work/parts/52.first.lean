/-! the world that the law begins with, as numbers -/
def jn_aC (cI cB cO cQ : Nat) : Nat → Nat := fun t => if t = 0 then cI else if t = 1 then cB else if t = 2 then cO else cQ
def jn_pk (x : Nat × Nat × Nat × Nat) (j : Nat) : Nat := match j with | 0 => x.1 | 1 => x.2.1 | 2 => x.2.2.1 | _ => x.2.2.2
def jn_ad (b h : Nat) (u : aX) (h2 : Nat) (um : Nat → Nat) : Nat → Nat := fun i =>
  if i < 32 then (match i with | 0 => h | 1 => u.1.1 | 2 => u.2.1.1 | 3 => u.2.2.1.1 | 4 => u.1.2.1 | 5 => u.1.2.2.1 | 6 => u.1.2.2.2.1 | 7 => u.2.1.2 | 8 => u.2.2.1.2 | 9 => u.2.2.2.1.1 | 10 => u.2.2.2.1.2 | 11 => h2 | i => if i < 24 then um (i - 12) else u.1.2.2.2.2 (i - 24))
  else if i = 1000 then b else jn_pk (u.2.2.2.2 ((i - 32) / 4)) ((i - 32) % 4)
def jn_M : jm_M := fun i => if i = 6 then jn_f (-1) 8 (fun _ => nI 0) else if i = 12 then jn_f (-1000000) 8 (fun _ => nI 0) else fun _ => nI 0
def jn_pos : Nat → Nat := fun i => if i < 32 then (match i with | 0 => 13 | 1 => 133 | 2 => 130 | 3 => 128 | 4 => 134 | 5 => 135 | 6 => 132 | 7 => 131 | 8 => 129 | 9 => 14 | 10 => 15 | 11 => 0 | i => if i < 24 then i - 11 else 112 + i) else 16 + (4 * (27 - (i - 32) / 4) + (i - 32) % 4)
def jn_W (cI cB cO cQ h : Nat) (u : aX) (h2 : Nat) (um : Nat → Nat) : va_W := wm cI cB h2 um ++ wx cI cQ cO h u
def jn_B (cI cQ : Nat) (u : aX) : va_W := wa cI u.2.2.1 ++ (wt cI u.2.1 ++ (wr cI cQ u.1.1 u.1.2.1 u.1.2.2.1 u.1.2.2.2.1 u.1.2.2.2.2 ++ []))
theorem wrv_len (cI : ClassId) (v : Nat → Nat × Nat × Nat × Nat) : ∀ n : Nat, (wrv cI v n).length = 4 * n := by
  intro n
  induction n with
  | zero => rfl
  | succ n ih =>
    show (wv cI (v n) ++ wrv cI v n).length = _
    rw [List.length_append, ih]
    show 4 + 4 * n = _
    omega
theorem wrv_ix (cI : ClassId) (v : Nat → Nat × Nat × Nat × Nat) {j : Nat} (hj : j < 4) : ∀ (N n : Nat), n < N → (wrv cI v N)[4 * (N - 1 - n) + j]? = (wv cI (v n))[j]? := by
  intro N
  induction N with
  | zero => intro n h; omega
  | succ N ih =>
    intro n h
    show (wv cI (v N) ++ wrv cI v N)[4 * (N + 1 - 1 - n) + j]? = _
    have hl : (wv cI (v N)).length = 4 := rfl
    by_cases hn : n = N
    · subst hn
      have e : 4 * (n + 1 - 1 - n) + j = j := by omega
      rw [e, List.getElem?_append_left (by omega)]
    · rw [List.getElem?_append_right (by omega)]
      have e : 4 * (N + 1 - 1 - n) + j - (wv cI (v N)).length = 4 * (N - 1 - n) + j := by omega
      rw [e]
      exact ih n (by omega)
theorem ww_t (cI cB cO cQ h : Nat) (u : aX) (h2 : Nat) (um : Nat → Nat) (k : Nat) : (jn_W cI cB cO cQ h u h2 um)[16 + k]? = (wrv cI u.2.2.2.2 (26 + 2) ++ jn_B cI cQ u)[k]? := by
  have hl : (wm cI cB h2 um).length = 13 := rfl
  unfold jn_W
  rw [List.getElem?_append_right (by omega), hl]
  have e : 16 + k - 13 = k + 3 := by omega
  rw [e]
  rfl
theorem ww_r (cI cB cO cQ h : Nat) (u : aX) (h2 : Nat) (um : Nat → Nat) {n j : Nat} (hn : n < 28) (hj : j < 4) : (jn_W cI cB cO cQ h u h2 um)[16 + (4 * (27 - n) + j)]? = (wv cI (u.2.2.2.2 n))[j]? := by
  rw [ww_t, List.getElem?_append_left (by rw [wrv_len]; omega)]
  exact wrv_ix cI u.2.2.2.2 hj 28 n hn
theorem ww_b (cI cB cO cQ h : Nat) (u : aX) (h2 : Nat) (um : Nat → Nat) (k : Nat) : (jn_W cI cB cO cQ h u h2 um)[128 + k]? = (jn_B cI cQ u)[k]? := by
  have e : 128 + k = 16 + (112 + k) := by omega
  rw [e, ww_t, List.getElem?_append_right (by rw [wrv_len]; omega), wrv_len]
  have e : 112 + k - 4 * (26 + 2) = k := by omega
  rw [e]
theorem jn_atc {D : va_G} {cl : List vw_C} {q cA n : Nat} {f g : Nat → Option Nat} {H : Heap} (hfg : ∀ k, k < n → f k = g k) (h : va_at D cl (q, .inl (cA, n, .inr (.inr (.inr (.inr f))))) H) : va_at D cl (q, .inl (cA, n, .inr (.inr (.inr (.inr g))))) H := by
  have e : arrV cA n (fun j => va_rf (f j)) = arrV cA n (fun j => va_rf (g j)) := by
    unfold arrV
    have e2 : (fun (j : Fin n) => va_rf (f j.val)) = fun (j : Fin n) => va_rf (g j.val) := funext fun j => by rw [hfg j.val j.isLt]
    rw [e2]
  exact Eq.trans (show H[q]? = some (arrV cA n (fun j => va_rf (f j))) from h) (congrArg some e)
theorem jn_kob : ∀ n, n < 28 → jm_ob (32 + 4 * n + 0) = some (1, 8) ∧ jm_ob (32 + 4 * n + 1) = none ∧ jm_ob (32 + 4 * n + 2) = none ∧ jm_ob (32 + 4 * n + 3) = none ∧ jm_ar (32 + 4 * n + 1) = some (0, 12) ∧ jm_ar (32 + 4 * n + 2) = some (0, 7) ∧ jm_ar (32 + 4 * n + 3) = some (0, 7) := by decide +kernel
theorem jn_krf : ∀ n, n < 28 → ∀ k, k < 8 → jm_rf (32 + 4 * n + 0) k = if k < 5 then none else some (32 + 4 * n + 0 + (k - 4)) := by decide +kernel
theorem jn_adr (b h : Nat) (u : aX) (h2 : Nat) (um : Nat → Nat) {n j : Nat} (hn : n < 28) (hj : j < 4) : jn_ad b h u h2 um (32 + 4 * n + j) = jn_pk (u.2.2.2.2 n) j := by
  unfold jn_ad
  rw [if_neg (by omega), if_neg (by omega)]
  have e1 : (32 + 4 * n + j - 32) % 4 = j := by omega
  have e2 : (32 + 4 * n + j - 32) / 4 = n := by omega
  rw [e1, e2]
theorem jn_Mr {n j : Nat} : jn_M (32 + 4 * n + j) = fun _ => nI 0 := by
  unfold jn_M
  rw [if_neg (by omega), if_neg (by omega)]
theorem jn_pr {n j : Nat} (hj : j < 4) : jn_pos (32 + 4 * n + j) = 16 + (4 * (27 - n) + j) := by
  unfold jn_pos
  rw [if_neg (by omega)]
  have e1 : (32 + 4 * n + j - 32) % 4 = j := by omega
  have e2 : (32 + 4 * n + j - 32) / 4 = n := by omega
  rw [e1, e2]
def jn_Key (D : va_G) (H : Heap) (cI cB cO cQ b h : Nat) (u : aX) (h2 : Nat) (um : Nat → Nat) (i : Nat) : Prop := ∃ e : va_E, (jn_W cI cB cO cQ h u h2 um)[jn_pos i]? = some (jn_ad b h u h2 um i, e) ∧ (va_at D classes (jn_ad b h u h2 um i, e) H → va_at D classes (jn_ad b h u h2 um i, jm_e (jn_aC cI cB cO cQ) (jn_ad b h u h2 um) jn_M i) H)
set_option maxHeartbeats 4000000 in
theorem jn_kr (D : va_G) (H : Heap) (cI cB cO cQ b h : Nat) (u : aX) (h2 : Nat) (um : Nat → Nat) {n j : Nat} (hn : n < 28) (hj : j < 4) : jn_Key D H cI cB cO cQ b h u h2 um (32 + 4 * n + j) := by
  obtain ⟨o0, o1, o2, o3, a1, a2, a3⟩ := jn_kob n hn
  have hr := jn_krf n hn
  unfold jn_Key
  rw [jn_pr hj, ww_r _ _ _ _ _ _ _ _ hn hj]
  have d0 := jn_adr b h u h2 um hn (j := 0) (by decide)
  have d1 := jn_adr b h u h2 um hn (j := 1) (by decide)
  have d2 := jn_adr b h u h2 um hn (j := 2) (by decide)
  have d3 := jn_adr b h u h2 um hn (j := 3) (by decide)
  match j, hj with
  | 0, _ =>
    refine ⟨.inr (1, [.int (nI 0), .int (nI 0), .int (nI 0), .int (nI 0), .int (nI 0), .ref (u.2.2.2.2 n).2.1, .ref (u.2.2.2.2 n).2.2.1, .ref (u.2.2.2.2 n).2.2.2]), ?_, fun hh => ?_⟩
    · rw [d0]; rfl
    · have e : jm_e (jn_aC cI cB cO cQ) (jn_ad b h u h2 um) jn_M (32 + 4 * n + 0) = .inr (1, [.int (nI 0), .int (nI 0), .int (nI 0), .int (nI 0), .int (nI 0), .ref (u.2.2.2.2 n).2.1, .ref (u.2.2.2.2 n).2.2.1, .ref (u.2.2.2.2 n).2.2.2]) := by
        unfold jm_e
        rw [o0]
        show Sum.inr (1, jm_fs (jn_ad b h u h2 um) jn_M (32 + 4 * n + 0) 8) = _
        have ef : jm_fs (jn_ad b h u h2 um) jn_M (32 + 4 * n + 0) 8 = [.int (nI 0), .int (nI 0), .int (nI 0), .int (nI 0), .int (nI 0), .ref (jn_ad b h u h2 um (32 + 4 * n + 1)), .ref (jn_ad b h u h2 um (32 + 4 * n + 2)), .ref (jn_ad b h u h2 um (32 + 4 * n + 3))] := by
          unfold jm_fs
          rw [jn_Mr]
          show [_, _, _, _, _, _, _, _] = _
          dsimp only
          rw [hr 0 (by decide), hr 1 (by decide), hr 2 (by decide), hr 3 (by decide), hr 4 (by decide), hr 5 (by decide), hr 6 (by decide), hr 7 (by decide)]
          rfl
        rw [ef, d1, d2, d3]
        rfl
      rw [e]
      exact hh
  | 1, _ =>
    refine ⟨.inl (cI, 12, .inl (fun _ => nI 0)), ?_, fun hh => ?_⟩
    · rw [d1]; rfl
    · have e : jm_e (jn_aC cI cB cO cQ) (jn_ad b h u h2 um) jn_M (32 + 4 * n + 1) = .inl (cI, 12, .inl (fun _ => nI 0)) := by
        unfold jm_e
        rw [o1, a1, jn_Mr]
        rfl
      rw [e]
      exact hh
  | 2, _ =>
    refine ⟨.inl (cI, 7, .inl (fun _ => nI 0)), ?_, fun hh => ?_⟩
    · rw [d2]; rfl
    · have e : jm_e (jn_aC cI cB cO cQ) (jn_ad b h u h2 um) jn_M (32 + 4 * n + 2) = .inl (cI, 7, .inl (fun _ => nI 0)) := by
        unfold jm_e
        rw [o2, a2, jn_Mr]
        rfl
      rw [e]
      exact hh
  | 3, _ =>
    refine ⟨.inl (cI, 7, .inl (fun _ => nI 0)), ?_, fun hh => ?_⟩
    · rw [d3]; rfl
    · have e : jm_e (jn_aC cI cB cO cQ) (jn_ad b h u h2 um) jn_M (32 + 4 * n + 3) = .inl (cI, 7, .inl (fun _ => nI 0)) := by
        unfold jm_e
        rw [o3, a3, jn_Mr]
        rfl
      rw [e]
      exact hh
theorem jn_k0 (D : va_G) (H : Heap) (cI cB cO cQ b h : Nat) (u : aX) (h2 : Nat) (um : Nat → Nat) : jn_Key D H cI cB cO cQ b h u h2 um 0 := ⟨jm_e (jn_aC cI cB cO cQ) (jn_ad b h u h2 um) jn_M 0, rfl, (fun hh => hh)⟩
theorem jn_k1 (D : va_G) (H : Heap) (cI cB cO cQ b h : Nat) (u : aX) (h2 : Nat) (um : Nat → Nat) : jn_Key D H cI cB cO cQ b h u h2 um 1 := ⟨jm_e (jn_aC cI cB cO cQ) (jn_ad b h u h2 um) jn_M 1, ((ww_b cI cB cO cQ h u h2 um 5).trans rfl), (fun hh => hh)⟩
theorem jn_k2 (D : va_G) (H : Heap) (cI cB cO cQ b h : Nat) (u : aX) (h2 : Nat) (um : Nat → Nat) : jn_Key D H cI cB cO cQ b h u h2 um 2 := ⟨jm_e (jn_aC cI cB cO cQ) (jn_ad b h u h2 um) jn_M 2, ((ww_b cI cB cO cQ h u h2 um 2).trans rfl), (fun hh => hh)⟩
theorem jn_k3 (D : va_G) (H : Heap) (cI cB cO cQ b h : Nat) (u : aX) (h2 : Nat) (um : Nat → Nat) : jn_Key D H cI cB cO cQ b h u h2 um 3 := ⟨jm_e (jn_aC cI cB cO cQ) (jn_ad b h u h2 um) jn_M 3, ((ww_b cI cB cO cQ h u h2 um 0).trans rfl), (fun hh => hh)⟩
theorem jn_k4 (D : va_G) (H : Heap) (cI cB cO cQ b h : Nat) (u : aX) (h2 : Nat) (um : Nat → Nat) : jn_Key D H cI cB cO cQ b h u h2 um 4 := ⟨.inl (cQ, 8, .inr (.inr (.inr (.inr (fun k => if k < 8 then some (u.1.2.2.2.2 k) else none))))), ((ww_b cI cB cO cQ h u h2 um 6).trans rfl), (fun hh => jn_atc (g := (fun k => (jm_rf 4 k).map (jn_ad b h u h2 um))) (fun k hk => by rw [if_pos hk]; show _ = some (jn_ad b h u h2 um (24 + k)); unfold jn_ad; rw [if_pos (by omega)]; match k, hk with | 0, _ => rfl | 1, _ => rfl | 2, _ => rfl | 3, _ => rfl | 4, _ => rfl | 5, _ => rfl | 6, _ => rfl | 7, _ => rfl) hh)⟩
theorem jn_k5 (D : va_G) (H : Heap) (cI cB cO cQ b h : Nat) (u : aX) (h2 : Nat) (um : Nat → Nat) : jn_Key D H cI cB cO cQ b h u h2 um 5 := ⟨jm_e (jn_aC cI cB cO cQ) (jn_ad b h u h2 um) jn_M 5, ((ww_b cI cB cO cQ h u h2 um 7).trans rfl), (fun hh => hh)⟩
theorem jn_k6 (D : va_G) (H : Heap) (cI cB cO cQ b h : Nat) (u : aX) (h2 : Nat) (um : Nat → Nat) : jn_Key D H cI cB cO cQ b h u h2 um 6 := ⟨jm_e (jn_aC cI cB cO cQ) (jn_ad b h u h2 um) jn_M 6, ((ww_b cI cB cO cQ h u h2 um 4).trans rfl), (fun hh => hh)⟩
theorem jn_k7 (D : va_G) (H : Heap) (cI cB cO cQ b h : Nat) (u : aX) (h2 : Nat) (um : Nat → Nat) : jn_Key D H cI cB cO cQ b h u h2 um 7 := ⟨jm_e (jn_aC cI cB cO cQ) (jn_ad b h u h2 um) jn_M 7, ((ww_b cI cB cO cQ h u h2 um 3).trans rfl), (fun hh => hh)⟩
theorem jn_k8 (D : va_G) (H : Heap) (cI cB cO cQ b h : Nat) (u : aX) (h2 : Nat) (um : Nat → Nat) : jn_Key D H cI cB cO cQ b h u h2 um 8 := ⟨jm_e (jn_aC cI cB cO cQ) (jn_ad b h u h2 um) jn_M 8, ((ww_b cI cB cO cQ h u h2 um 1).trans rfl), (fun hh => hh)⟩
theorem jn_k9 (D : va_G) (H : Heap) (cI cB cO cQ b h : Nat) (u : aX) (h2 : Nat) (um : Nat → Nat) : jn_Key D H cI cB cO cQ b h u h2 um 9 := ⟨.inl (cO, 24, .inr (.inr (.inr (.inr (wf u.2.2.2.2 2 24))))), rfl, (fun hh => jn_atc (g := (fun k => (jm_rf 9 k).map (jn_ad b h u h2 um))) (fun k hk => by unfold wf; rw [if_pos hk]; show _ = some (jn_ad b h u h2 um (40 + 4 * k)); have e9 : 40 + 4 * k = 32 + 4 * (2 + k) + 0 := (by omega); rw [e9, jn_adr b h u h2 um (show 2 + k < 28 by omega) (show 0 < 4 by decide)]; rfl) hh)⟩
theorem jn_k10 (D : va_G) (H : Heap) (cI cB cO cQ b h : Nat) (u : aX) (h2 : Nat) (um : Nat → Nat) : jn_Key D H cI cB cO cQ b h u h2 um 10 := ⟨.inl (cO, 2, .inr (.inr (.inr (.inr (wf u.2.2.2.2 26 2))))), rfl, (fun hh => jn_atc (g := (fun k => (jm_rf 10 k).map (jn_ad b h u h2 um))) (fun k hk => by unfold wf; rw [if_pos hk]; show _ = some (jn_ad b h u h2 um (136 + 4 * k)); have e9 : 136 + 4 * k = 32 + 4 * (26 + k) + 0 := (by omega); rw [e9, jn_adr b h u h2 um (show 26 + k < 28 by omega) (show 0 < 4 by decide)]; rfl) hh)⟩
theorem jn_k11 (D : va_G) (H : Heap) (cI cB cO cQ b h : Nat) (u : aX) (h2 : Nat) (um : Nat → Nat) : jn_Key D H cI cB cO cQ b h u h2 um 11 := ⟨jm_e (jn_aC cI cB cO cQ) (jn_ad b h u h2 um) jn_M 11, rfl, (fun hh => hh)⟩
theorem jn_k12 (D : va_G) (H : Heap) (cI cB cO cQ b h : Nat) (u : aX) (h2 : Nat) (um : Nat → Nat) : jn_Key D H cI cB cO cQ b h u h2 um 12 := ⟨jm_e (jn_aC cI cB cO cQ) (jn_ad b h u h2 um) jn_M 12, rfl, (fun hh => hh)⟩
theorem jn_k13 (D : va_G) (H : Heap) (cI cB cO cQ b h : Nat) (u : aX) (h2 : Nat) (um : Nat → Nat) : jn_Key D H cI cB cO cQ b h u h2 um 13 := ⟨jm_e (jn_aC cI cB cO cQ) (jn_ad b h u h2 um) jn_M 13, rfl, (fun hh => hh)⟩
theorem jn_k14 (D : va_G) (H : Heap) (cI cB cO cQ b h : Nat) (u : aX) (h2 : Nat) (um : Nat → Nat) : jn_Key D H cI cB cO cQ b h u h2 um 14 := ⟨jm_e (jn_aC cI cB cO cQ) (jn_ad b h u h2 um) jn_M 14, rfl, (fun hh => hh)⟩
theorem jn_k15 (D : va_G) (H : Heap) (cI cB cO cQ b h : Nat) (u : aX) (h2 : Nat) (um : Nat → Nat) : jn_Key D H cI cB cO cQ b h u h2 um 15 := ⟨jm_e (jn_aC cI cB cO cQ) (jn_ad b h u h2 um) jn_M 15, rfl, (fun hh => hh)⟩
theorem jn_k16 (D : va_G) (H : Heap) (cI cB cO cQ b h : Nat) (u : aX) (h2 : Nat) (um : Nat → Nat) : jn_Key D H cI cB cO cQ b h u h2 um 16 := ⟨jm_e (jn_aC cI cB cO cQ) (jn_ad b h u h2 um) jn_M 16, rfl, (fun hh => hh)⟩
theorem jn_k17 (D : va_G) (H : Heap) (cI cB cO cQ b h : Nat) (u : aX) (h2 : Nat) (um : Nat → Nat) : jn_Key D H cI cB cO cQ b h u h2 um 17 := ⟨jm_e (jn_aC cI cB cO cQ) (jn_ad b h u h2 um) jn_M 17, rfl, (fun hh => hh)⟩
theorem jn_k18 (D : va_G) (H : Heap) (cI cB cO cQ b h : Nat) (u : aX) (h2 : Nat) (um : Nat → Nat) : jn_Key D H cI cB cO cQ b h u h2 um 18 := ⟨jm_e (jn_aC cI cB cO cQ) (jn_ad b h u h2 um) jn_M 18, rfl, (fun hh => hh)⟩
theorem jn_k19 (D : va_G) (H : Heap) (cI cB cO cQ b h : Nat) (u : aX) (h2 : Nat) (um : Nat → Nat) : jn_Key D H cI cB cO cQ b h u h2 um 19 := ⟨jm_e (jn_aC cI cB cO cQ) (jn_ad b h u h2 um) jn_M 19, rfl, (fun hh => hh)⟩
theorem jn_k20 (D : va_G) (H : Heap) (cI cB cO cQ b h : Nat) (u : aX) (h2 : Nat) (um : Nat → Nat) : jn_Key D H cI cB cO cQ b h u h2 um 20 := ⟨jm_e (jn_aC cI cB cO cQ) (jn_ad b h u h2 um) jn_M 20, rfl, (fun hh => hh)⟩
theorem jn_k21 (D : va_G) (H : Heap) (cI cB cO cQ b h : Nat) (u : aX) (h2 : Nat) (um : Nat → Nat) : jn_Key D H cI cB cO cQ b h u h2 um 21 := ⟨jm_e (jn_aC cI cB cO cQ) (jn_ad b h u h2 um) jn_M 21, rfl, (fun hh => hh)⟩
theorem jn_k22 (D : va_G) (H : Heap) (cI cB cO cQ b h : Nat) (u : aX) (h2 : Nat) (um : Nat → Nat) : jn_Key D H cI cB cO cQ b h u h2 um 22 := ⟨jm_e (jn_aC cI cB cO cQ) (jn_ad b h u h2 um) jn_M 22, rfl, (fun hh => hh)⟩
theorem jn_k23 (D : va_G) (H : Heap) (cI cB cO cQ b h : Nat) (u : aX) (h2 : Nat) (um : Nat → Nat) : jn_Key D H cI cB cO cQ b h u h2 um 23 := ⟨jm_e (jn_aC cI cB cO cQ) (jn_ad b h u h2 um) jn_M 23, rfl, (fun hh => hh)⟩
theorem jn_k24 (D : va_G) (H : Heap) (cI cB cO cQ b h : Nat) (u : aX) (h2 : Nat) (um : Nat → Nat) : jn_Key D H cI cB cO cQ b h u h2 um 24 := ⟨jm_e (jn_aC cI cB cO cQ) (jn_ad b h u h2 um) jn_M 24, ((ww_b cI cB cO cQ h u h2 um 8).trans rfl), (fun hh => hh)⟩
theorem jn_k25 (D : va_G) (H : Heap) (cI cB cO cQ b h : Nat) (u : aX) (h2 : Nat) (um : Nat → Nat) : jn_Key D H cI cB cO cQ b h u h2 um 25 := ⟨jm_e (jn_aC cI cB cO cQ) (jn_ad b h u h2 um) jn_M 25, ((ww_b cI cB cO cQ h u h2 um 9).trans rfl), (fun hh => hh)⟩
theorem jn_k26 (D : va_G) (H : Heap) (cI cB cO cQ b h : Nat) (u : aX) (h2 : Nat) (um : Nat → Nat) : jn_Key D H cI cB cO cQ b h u h2 um 26 := ⟨jm_e (jn_aC cI cB cO cQ) (jn_ad b h u h2 um) jn_M 26, ((ww_b cI cB cO cQ h u h2 um 10).trans rfl), (fun hh => hh)⟩
theorem jn_k27 (D : va_G) (H : Heap) (cI cB cO cQ b h : Nat) (u : aX) (h2 : Nat) (um : Nat → Nat) : jn_Key D H cI cB cO cQ b h u h2 um 27 := ⟨jm_e (jn_aC cI cB cO cQ) (jn_ad b h u h2 um) jn_M 27, ((ww_b cI cB cO cQ h u h2 um 11).trans rfl), (fun hh => hh)⟩
theorem jn_k28 (D : va_G) (H : Heap) (cI cB cO cQ b h : Nat) (u : aX) (h2 : Nat) (um : Nat → Nat) : jn_Key D H cI cB cO cQ b h u h2 um 28 := ⟨jm_e (jn_aC cI cB cO cQ) (jn_ad b h u h2 um) jn_M 28, ((ww_b cI cB cO cQ h u h2 um 12).trans rfl), (fun hh => hh)⟩
theorem jn_k29 (D : va_G) (H : Heap) (cI cB cO cQ b h : Nat) (u : aX) (h2 : Nat) (um : Nat → Nat) : jn_Key D H cI cB cO cQ b h u h2 um 29 := ⟨jm_e (jn_aC cI cB cO cQ) (jn_ad b h u h2 um) jn_M 29, ((ww_b cI cB cO cQ h u h2 um 13).trans rfl), (fun hh => hh)⟩
theorem jn_k30 (D : va_G) (H : Heap) (cI cB cO cQ b h : Nat) (u : aX) (h2 : Nat) (um : Nat → Nat) : jn_Key D H cI cB cO cQ b h u h2 um 30 := ⟨jm_e (jn_aC cI cB cO cQ) (jn_ad b h u h2 um) jn_M 30, ((ww_b cI cB cO cQ h u h2 um 14).trans rfl), (fun hh => hh)⟩
theorem jn_k31 (D : va_G) (H : Heap) (cI cB cO cQ b h : Nat) (u : aX) (h2 : Nat) (um : Nat → Nat) : jn_Key D H cI cB cO cQ b h u h2 um 31 := ⟨jm_e (jn_aC cI cB cO cQ) (jn_ad b h u h2 um) jn_M 31, ((ww_b cI cB cO cQ h u h2 um 15).trans rfl), (fun hh => hh)⟩
theorem jn_key (D : va_G) (H : Heap) (cI cB cO cQ b h : Nat) (u : aX) (h2 : Nat) (um : Nat → Nat) (i : Nat) (hi : i < 144) : jn_Key D H cI cB cO cQ b h u h2 um i := by
  by_cases h9 : i < 32
  · match i, h9 with
    | 0, _ => exact jn_k0 D H cI cB cO cQ b h u h2 um
    | 1, _ => exact jn_k1 D H cI cB cO cQ b h u h2 um
    | 2, _ => exact jn_k2 D H cI cB cO cQ b h u h2 um
    | 3, _ => exact jn_k3 D H cI cB cO cQ b h u h2 um
    | 4, _ => exact jn_k4 D H cI cB cO cQ b h u h2 um
    | 5, _ => exact jn_k5 D H cI cB cO cQ b h u h2 um
    | 6, _ => exact jn_k6 D H cI cB cO cQ b h u h2 um
    | 7, _ => exact jn_k7 D H cI cB cO cQ b h u h2 um
    | 8, _ => exact jn_k8 D H cI cB cO cQ b h u h2 um
    | 9, _ => exact jn_k9 D H cI cB cO cQ b h u h2 um
    | 10, _ => exact jn_k10 D H cI cB cO cQ b h u h2 um
    | 11, _ => exact jn_k11 D H cI cB cO cQ b h u h2 um
    | 12, _ => exact jn_k12 D H cI cB cO cQ b h u h2 um
    | 13, _ => exact jn_k13 D H cI cB cO cQ b h u h2 um
    | 14, _ => exact jn_k14 D H cI cB cO cQ b h u h2 um
    | 15, _ => exact jn_k15 D H cI cB cO cQ b h u h2 um
    | 16, _ => exact jn_k16 D H cI cB cO cQ b h u h2 um
    | 17, _ => exact jn_k17 D H cI cB cO cQ b h u h2 um
    | 18, _ => exact jn_k18 D H cI cB cO cQ b h u h2 um
    | 19, _ => exact jn_k19 D H cI cB cO cQ b h u h2 um
    | 20, _ => exact jn_k20 D H cI cB cO cQ b h u h2 um
    | 21, _ => exact jn_k21 D H cI cB cO cQ b h u h2 um
    | 22, _ => exact jn_k22 D H cI cB cO cQ b h u h2 um
    | 23, _ => exact jn_k23 D H cI cB cO cQ b h u h2 um
    | 24, _ => exact jn_k24 D H cI cB cO cQ b h u h2 um
    | 25, _ => exact jn_k25 D H cI cB cO cQ b h u h2 um
    | 26, _ => exact jn_k26 D H cI cB cO cQ b h u h2 um
    | 27, _ => exact jn_k27 D H cI cB cO cQ b h u h2 um
    | 28, _ => exact jn_k28 D H cI cB cO cQ b h u h2 um
    | 29, _ => exact jn_k29 D H cI cB cO cQ b h u h2 um
    | 30, _ => exact jn_k30 D H cI cB cO cQ b h u h2 um
    | 31, _ => exact jn_k31 D H cI cB cO cQ b h u h2 um
    | n + 32, h => omega
  · obtain ⟨n, j, hn, hj, rfl⟩ : ∃ n j, n < 28 ∧ j < 4 ∧ i = 32 + 4 * n + j := ⟨(i - 32) / 4, (i - 32) % 4, by omega, by omega, by omega⟩
    exact jn_kr D H cI cB cO cQ b h u h2 um hn hj
theorem jn_P {D : va_G} {H : Heap} {cI cB cO cQ b h : Nat} {u : aX} {h2 : Nat} {um : Nat → Nat} (hP : va_P D classes (jn_W cI cB cO cQ h u h2 um) H) : va_P D classes (jm_ws (jn_aC cI cB cO cQ) (jn_ad b h u h2 um) jn_M) H := by
  refine jn_mem.mpr (fun q hq => ?_)
  unfold jm_ws at hq
  obtain ⟨i, hi, rfl⟩ := List.mem_map.mp hq
  obtain ⟨e, h1, h3⟩ := jn_key D H cI cB cO cQ b h u h2 um i (List.mem_range.mp hi)
  exact h3 (hP _ _ h1)
theorem jn_pinj : ∀ i, i < 144 → ∀ j, j < 144 → jn_pos i = jn_pos j → i = j := by decide +kernel
theorem jn_Dj {A : Nat → Prop} {cI cB cO cQ b h : Nat} {u : aX} {h2 : Nat} {um : Nat → Nat} (hD : va_D A (jn_W cI cB cO cQ h u h2 um)) : (∀ i j, i < 144 → j < 144 → jn_ad b h u h2 um i = jn_ad b h u h2 um j → i = j) ∧ ∀ i, i < 144 → A (jn_ad b h u h2 um i) := by
  refine ⟨fun i j hi hj hij => ?_, fun i hi => ?_⟩
  · obtain ⟨e, h1, -⟩ := jn_key (fun _ => 0, fun _ _ => 0) #[] cI cB cO cQ b h u h2 um i hi
    obtain ⟨e2, h3, -⟩ := jn_key (fun _ => 0, fun _ _ => 0) #[] cI cB cO cQ b h u h2 um j hj
    exact jn_pinj i hi j hj (hD.1 _ _ _ _ h1 h3 hij)
  · obtain ⟨e, h1, -⟩ := jn_key (fun _ => 0, fun _ _ => 0) #[] cI cB cO cQ b h u h2 um i hi
    exact hD.2 _ _ h1
theorem jn_GI : GI jn_M := by
  have hG : rG (fun _ => 0) := ⟨⟨by decide, by decide, by decide, by decide, by decide⟩, fun _ _ => Nat.zero_le _, fun _ _ => ⟨Nat.zero_le _, Nat.zero_le _, (show 0 < 12 by decide), Nat.zero_le _⟩, fun _ _ => rfl, fun k h => absurd h (Nat.not_lt_zero k)⟩
  refine ⟨fun _ => 0, fun _ => 0, 0, fun _ => 0, fun _ => false, jn_f (-1000000) 8 (fun _ => nI 0), fun _ => 0, fun _ => nI 0, 0, fun _ => 0, [], ⟨hG, by decide, by decide, fun r h => absurd h (Nat.not_lt_zero r)⟩, ⟨fun k _ h => absurd h Bool.false_ne_true, by decide, fun _ => Nat.zero_le _, by decide⟩, ⟨⟨rfl, rfl, rfl⟩, ⟨rfl, fun k _ => rfl⟩, ⟨rfl, fun _ _ => rfl, rfl⟩, ⟨rfl, fun i h => absurd h (Nat.not_lt_zero i)⟩, ⟨rfl, fun i h => absurd h (Nat.not_lt_zero i)⟩, ⟨fun _ => 0, fun _ _ => rfl, rfl⟩, ⟨fun _ => 0, fun _ _ => rfl, rfl⟩⟩, ⟨⟨⟨⟨rfl, rfl, rfl, rfl, rfl⟩, fun _ _ => rfl, fun _ _ => ⟨rfl, rfl⟩⟩, rfl, 0, by decide, rfl, fun j h => absurd h (Nat.not_lt_zero j)⟩, fun k hk => ⟨fun h => absurd h Bool.false_ne_true, fun _ => by rcases (show k = 0 ∨ k = 1 by omega) with rfl | rfl <;> rfl⟩, fun r hr => ⟨Nat.zero_le _, Or.inl ⟨?_, ?_⟩⟩, ⟨fun i h => absurd h (Nat.not_lt_zero i), rfl⟩, ⟨rfl, fun i h => absurd h (Nat.not_lt_zero i)⟩⟩, rfl, rfl⟩
  · show jn_f (-1) 8 (fun _ => nI 0) r = -1
    unfold jn_f
    rw [if_pos hr]
  · show jn_f (-1000000) 8 (fun _ => nI 0) r = -1000000
    unfold jn_f
    rw [if_pos hr]
