/-! rows keep what holds of both sides -/
/-- both sides' rows and findings change -/
theorem GX_rw {M M2 : jm_M} {ln' : Nat → Int32} {mn' : Nat → Nat} {it' : Nat → Int32} {w pf : Nat → Nat} {n : Nat} {im : Nat → Nat} {kp : Nat → Bool} {ln : Nat → Int32} {mn : Nat → Nat} {it : Nat → Int32} {tn : Nat} {t : Nat → Nat} {L : List Nat} (g : GX M w pf n im kp ln mn it tn t L) (h : ∀ i, i ≠ 0 → i ≠ 5 → i ≠ 6 → ¬ (24 ≤ i ∧ i < 32) → i ≠ 11 → i ≠ 12 → i ≠ 13 → i ≠ 14 → i ≠ 15 → M2 i = M i) (h0 : ∀ j, j ≠ 9 → M2 0 j = M 0 j) (h11 : ∀ j, j ≠ 4 → M2 11 j = M 11 j) (he : M2 0 9 = M2 11 4) (h12 : M2 12 = ln') (h13 : ∀ r, r < 8 → M2 13 r = nI (mn' r)) (h14 : M2 14 = it') (hW : RW M2 ln' mn' it') : GX M2 w pf n im kp ln' mn' it' tn t L := by
  obtain ⟨g1, g2, ⟨⟨a1, a2, a3⟩, ⟨b1, b2⟩, c, ⟨d1, d2⟩, ⟨e1, e2⟩, ⟨f1, f2⟩⟩, ⟨k1, k2, k3, ⟨k4, k4'⟩, k5, k5'⟩, g5, g6⟩ := g
  have hh : ∀ i, (i = 2 ∨ i = 3 ∨ i = 7 ∨ i = 8 ∨ (16 ≤ i ∧ i < 24) ∨ 32 ≤ i) → M2 i = M i := fun i hi => h i (by omega) (by omega) (by omega) (by omega) (by omega) (by omega) (by omega) (by omega) (by omega)
  refine ⟨g1, g2, ⟨⟨?_, ?_, ?_⟩, ⟨?_, ?_⟩, ⟨h12, h13, h14⟩, ⟨?_, ?_⟩, ⟨?_, ?_⟩, ?_, ?_⟩, ⟨CA_f k1 ⟨h0 7 (by decide), h0 8 (by decide)⟩ (fun i a b _ => hh i (by omega)), CI_f k2 (fun i a b => hh i (by omega)), hW, ⟨?_, ?_⟩, ?_, ?_⟩, he, ?_⟩
  · rw [hh 17 (by omega)]; exact a1
  · rw [hh 20 (by omega)]; exact a2
  · rw [h11 17 (by decide)]; exact a3
  · rw [hh 21 (by omega)]; exact b1
  · rw [hh 22 (by omega)]; exact b2
  · rw [h11 6 (by decide)]; exact d1
  · rw [hh 16 (by omega)]; exact d2
  · rw [h11 21 (by decide)]; exact e1
  · rw [hh 23 (by omega)]; exact e2
  · rw [hh 19 (by omega)]; exact f1
  · rw [hh 18 (by omega)]; exact f2
  · rw [hh 7 (by omega)]; exact k4
  · rw [hh 2 (by omega)]; exact k4'
  · rw [hh 3 (by omega)]; exact k5
  · rw [hh 8 (by omega)]; exact k5'
  · rw [hh 2 (by omega), h11 7 (by decide)]; exact g6
theorem st_drop {M : jm_M} (hI : GI M) (r : Int32) : NE M YX5_drop YX6_drop [some (.ref 0), some (.int r)] [some (.ref 11), some (.int r)] := by
  obtain ⟨w, pf, n, im, kp, ln, mn, it, tn, t, L, hX⟩ := hI
  obtain ⟨⟨hg, hm, hn, hpr⟩, ⟨him, htn, ht, hL⟩, hGR, hGK, hGS⟩ := id hX
  have hCA := hGK.1
  have hR := hCA.1
  have hW := hGK.2.2.1
  have h40 : ∀ r, r < 8 → mn r ≤ 40 := fun r hr => (hW r hr).1
  refine jm_wk (w_drop M ln mn it hW r) (fun o M1 q => ?_)
  by_cases h1 : 0 ≤ r.toInt ∧ r.toInt ≤ 7
  · obtain ⟨k, hk, ek, -, nk⟩ := jm_ofL (v := r) (n := 8) (by omega) (by omega)
    subst ek
    rw [if_pos h1, nk] at q
    by_cases h2 : ln k = -1000000
    · rw [if_pos h2] at q
      obtain ⟨ho, e1⟩ := q
      subst e1
      have hr := c_drop (jm_sf M 0 (upd (M 0) 9 (nI 1))) mn hGR.2.2.1.2.1 h40 (nI k)
      refine ⟨_, ho, jm_wk hr (fun o2 M2 q2 => ?_)⟩
      rw [if_pos h1, nk, if_pos (show jm_sf M 0 (upd (M 0) 9 (nI 1)) 12 k = -1000000 by rw [jm_sf_n _ _ (by decide), hGR.2.2.1.1]; exact h2)] at q2
      obtain ⟨ho2, e2⟩ := q2
      subst e2
      exact ⟨ho2, w, pf, n, im, kp, ln, mn, it, tn, t, L, GX_st _ hX⟩
    · rw [if_neg h2] at q
      obtain ⟨ho, e1⟩ := q
      generalize hM : jm_sf (jm_sf M 6 (upd (M 6) k (-1))) 0 (upd (M 0) 9 (nI 0)) = M9 at e1
      subst e1
      have f12 : M1 12 = ln := by rw [← hM, jm_sf_n _ _ (by decide), jm_sf_n _ _ (by decide)]; exact hGR.2.2.1.1
      have f13 : ∀ r, r < 8 → M1 13 r = nI (mn r) := by rw [← hM, jm_sf_n _ _ (by decide), jm_sf_n _ _ (by decide)]; exact hGR.2.2.1.2.1
      have f14 : M1 14 = it := by rw [← hM, jm_sf_n _ _ (by decide), jm_sf_n _ _ (by decide)]; exact hGR.2.2.1.2.2
      have hr := c_drop M1 mn f13 h40 (nI k)
      refine ⟨_, ho, jm_wk hr (fun o2 M2 q2 => ?_)⟩
      rw [if_pos h1, nk, if_neg (show ¬ M1 12 k = -1000000 by rw [f12]; exact h2)] at q2
      obtain ⟨ho2, e2⟩ := q2
      refine ⟨ho2, w, pf, n, im, kp, upd ln k (-1000000), mn, it, tn, t, L, GX_rw hX (fun i x0 x5 x6 xr x11 x12 x13 x14 x15 => by rw [e2, jm_sf_n _ _ x11, jm_sf_n _ _ x12, ← hM, jm_sf_n _ _ x0, jm_sf_n _ _ x6]) (fun j hj => by rw [e2, jm_sf_n _ _ (by decide), jm_sf_n _ _ (by decide), ← hM, jm_sf_s, upd_n _ _ hj]) (fun j hj => by rw [e2, jm_sf_s, upd_n _ _ hj, ← hM, jm_sf_n _ _ (by decide), jm_sf_n _ _ (by decide)]) (by rw [e2, jm_sf_n _ _ (by decide), jm_sf_n _ _ (by decide), jm_sf_s, upd_s, ← hM, jm_sf_s, upd_s]) (by rw [e2, jm_sf_n _ _ (by decide), jm_sf_s, f12]) (by rw [e2, jm_sf_n _ _ (by decide), jm_sf_n _ _ (by decide)]; exact f13) (by rw [e2, jm_sf_n _ _ (by decide), jm_sf_n _ _ (by decide)]; exact f14) ?_⟩
      have e6 : M2 6 = upd (M 6) k (-1) := by rw [e2, jm_sf_n _ _ (by decide), jm_sf_n _ _ (by decide), ← hM, jm_sf_n _ _ (by decide), jm_sf_s]
      have e5 : M2 5 = M 5 := by rw [e2, jm_sf_n _ _ (by decide), jm_sf_n _ _ (by decide), ← hM, jm_sf_n _ _ (by decide), jm_sf_n _ _ (by decide)]
      intro r hr8
      have ei : M2 (24 + r) = M (24 + r) := by rw [e2, jm_sf_n _ _ (by omega), jm_sf_n _ _ (by omega), ← hM, jm_sf_n _ _ (by omega), jm_sf_n _ _ (by omega)]
      rw [e6, e5, ei]
      by_cases z : r = k
      · subst z
        rw [upd_s, upd_s]
        exact ⟨h40 r hr8, Or.inl ⟨rfl, rfl⟩⟩
      · rw [upd_n _ _ z, upd_n _ _ z]
        exact hW r hr8
  · rw [if_neg h1] at q
    obtain ⟨ho, e⟩ := q
    subst e
    refine ⟨_, ho, jm_wk (c_drop M1 mn hGR.2.2.1.2.1 h40 r) (fun o2 M2 q2 => ?_)⟩
    rw [if_neg h1] at q2
    obtain ⟨ho2, e2⟩ := q2
    subst e2
    exact ⟨ho2, w, pf, n, im, kp, ln, mn, it, tn, t, L, hX⟩
theorem st_set {M : jm_M} (hI : GI M) (r i v : Int32) : NE M YX5_set YX6_set [some (.ref 0), some (.int r), some (.int i), some (.int v)] [some (.ref 11), some (.int r), some (.int i), some (.int v)] := by
  obtain ⟨w, pf, n, im, kp, ln, mn, it, tn, t, L, hX⟩ := hI
  obtain ⟨⟨hg, hm, hn, hpr⟩, ⟨him, htn, ht, hL⟩, hGR, hGK, hGS⟩ := id hX
  have hCA := hGK.1
  have hR := hCA.1
  have hW := hGK.2.2.1
  have h40 : ∀ r, r < 8 → mn r ≤ 40 := fun r hr => (hW r hr).1
  refine jm_wk (w_set M ln mn it hW r i v) (fun o M1 q => ?_)
  by_cases h1 : 0 ≤ r.toInt ∧ r.toInt ≤ 7
  · obtain ⟨k, hk, ek, -, nk⟩ := jm_ofL (v := r) (n := 8) (by omega) (by omega)
    subst ek
    rw [if_pos h1, nk] at q
    by_cases h2 : ln k = -1000000
    · rw [if_pos h2] at q
      obtain ⟨ho, e1⟩ := q
      subst e1
      have hr := c_set (jm_sf M 0 (upd (M 0) 9 (nI 1))) mn hGR.2.2.1.2.1 h40 (nI k) i v
      refine ⟨_, ho, jm_wk hr (fun o2 M2 q2 => ?_)⟩
      rw [if_pos h1, nk, show (jm_sf M 0 (upd (M 0) 9 (nI 1))) 12 k = ln k from congrFun hGR.2.2.1.1 k, if_pos h2] at q2
      obtain ⟨ho2, e2⟩ := q2
      subst e2
      exact ⟨ho2, w, pf, n, im, kp, ln, mn, it, tn, t, L, GX_st _ hX⟩
    · rw [if_neg h2] at q
      by_cases h3 : 0 ≤ i.toInt ∧ i.toInt < mn k
      · rw [if_pos h3] at q
        have k40 := h40 k hk
        obtain ⟨j, hj, ej, -, nj⟩ := jm_ofL (v := i) (n := mn k) (by omega) (by omega)
        subst ej
        rw [nj] at q
        obtain ⟨ho, e1⟩ := q
        generalize hM : jm_sf (jm_sf M (24 + k) (upd (M (24 + k)) j (p_cut (ln k) v))) 0 (upd (M 0) 9 (nI 0)) = M9 at e1
        subst e1
        have fr : ∀ i, i ≠ 0 → i ≠ 24 + k → M1 i = M i := fun i a b => by rw [← hM, jm_sf_n _ _ a, jm_sf_n _ _ b]
        have f12 : M1 12 = ln := by rw [fr 12 (by decide) (by omega)]; exact hGR.2.2.1.1
        have f13 : ∀ r, r < 8 → M1 13 r = nI (mn r) := by rw [fr 13 (by decide) (by omega)]; exact hGR.2.2.1.2.1
        have f14 : M1 14 = it := by rw [fr 14 (by decide) (by omega)]; exact hGR.2.2.1.2.2
        have hr := c_set M1 mn f13 h40 (nI k) (nI j) v
        refine ⟨_, ho, jm_wk hr (fun o2 M2 q2 => ?_)⟩
        rw [if_pos h1, nk, nj, f12, if_neg h2, if_pos h3, f14] at q2
        obtain ⟨ho2, e2⟩ := q2
        refine ⟨ho2, w, pf, n, im, kp, ln, mn, upd it (40 * k + j) (p_cut (ln k) v), tn, t, L, GX_rw hX (fun i x0 x5 x6 xr x11 x12 x13 x14 x15 => by rw [e2, jm_sf_n _ _ x11, jm_sf_n _ _ x14, fr i x0 (by omega)]) (fun j hj => by rw [e2, jm_sf_n _ _ (by decide), jm_sf_n _ _ (by decide), ← hM, jm_sf_s, upd_n _ _ hj]) (fun j hj => by rw [e2, jm_sf_s, upd_n _ _ hj, fr 11 (by decide) (by omega)]) (by rw [e2, jm_sf_n _ _ (by decide), jm_sf_n _ _ (by decide), jm_sf_s, upd_s, ← hM, jm_sf_s, upd_s]) (by rw [e2, jm_sf_n _ _ (by decide), jm_sf_n _ _ (by decide)]; exact f12) (by rw [e2, jm_sf_n _ _ (by decide), jm_sf_n _ _ (by decide)]; exact f13) (by rw [e2, jm_sf_n _ _ (by decide), jm_sf_s]) ?_⟩
        intro r hr8
        have e6 : M2 6 = M 6 := by rw [e2, jm_sf_n _ _ (by decide), jm_sf_n _ _ (by decide), fr 6 (by decide) (by omega)]
        have e5 : M2 5 = M 5 := by rw [e2, jm_sf_n _ _ (by decide), jm_sf_n _ _ (by decide), fr 5 (by decide) (by omega)]
        rw [e6, e5]
        refine ⟨h40 r hr8, ?_⟩
        rcases (hW r hr8).2 with ⟨a, b⟩ | ⟨a, b, c, d⟩
        · exact Or.inl ⟨a, b⟩
        · refine Or.inr ⟨a, b, c, fun x hx => ?_⟩
          have ei : M2 (24 + r) = M1 (24 + r) := by rw [e2, jm_sf_n _ _ (by omega), jm_sf_n _ _ (by omega)]
          rw [ei]
          by_cases z : r = k
          · subst z
            rw [← hM, jm_sf_n _ _ (by omega), jm_sf_s]
            by_cases y : x = j
            · subst y; rw [upd_s, upd_s]
            · rw [upd_n _ _ y, upd_n _ _ (by omega)]; exact d x hx
          · rw [fr _ (by omega) (by omega), upd_n _ _ (by omega)]
            exact d x hx
      · rw [if_neg h3] at q
        obtain ⟨ho, e1⟩ := q
        subst e1
        have hr := c_set (jm_sf M 0 (upd (M 0) 9 (nI 2))) mn hGR.2.2.1.2.1 h40 (nI k) i v
        refine ⟨_, ho, jm_wk hr (fun o2 M2 q2 => ?_)⟩
        rw [if_pos h1, nk, show (jm_sf M 0 (upd (M 0) 9 (nI 2))) 12 k = ln k from congrFun hGR.2.2.1.1 k, if_neg h2, if_neg h3] at q2
        obtain ⟨ho2, e2⟩ := q2
        subst e2
        exact ⟨ho2, w, pf, n, im, kp, ln, mn, it, tn, t, L, GX_st _ hX⟩
  · rw [if_neg h1] at q
    obtain ⟨ho, e⟩ := q
    subst e
    refine ⟨_, ho, jm_wk (c_set M1 mn hGR.2.2.1.2.1 h40 r i v) (fun o2 M2 q2 => ?_)⟩
    rw [if_neg h1] at q2
    obtain ⟨ho2, e2⟩ := q2
    subst e2
    exact ⟨ho2, w, pf, n, im, kp, ln, mn, it, tn, t, L, hX⟩
theorem st_row {M : jm_M} (hI : GI M) (r l x : Int32) : NE M YX5_row YX6_row [some (.ref 0), some (.int r), some (.int l), some (.int x)] [some (.ref 11), some (.int r), some (.int l), some (.int x), none] := by
  obtain ⟨w, pf, n, im, kp, ln, mn, it, tn, t, L, hX⟩ := hI
  obtain ⟨⟨hg, hm, hn, hpr⟩, ⟨him, htn, ht, hL⟩, hGR, hGK, hGS⟩ := id hX
  have hCA := hGK.1
  have hR := hCA.1
  have hW := hGK.2.2.1
  have h40 : ∀ r, r < 8 → mn r ≤ 40 := fun r hr => (hW r hr).1
  refine jm_wk (w_row M r l x) (fun o M1 q => ?_)
  rcases Classical.em (q_row r l x) with h | h
  · by_cases h2 : x.toInt < 0
    · obtain ⟨ho, e1⟩ := (q.1 h).1 h2
      subst e1
      refine ⟨_, ho, jm_wk (c_row _ r l x) (fun o2 M2 q2 => ?_)⟩
      obtain ⟨ho2, e2⟩ := (q2.1 h).1 h2
      subst e2
      exact ⟨ho2, w, pf, n, im, kp, ln, mn, it, tn, t, L, GX_st _ hX⟩
    · obtain ⟨ho, e1⟩ := (q.1 h).2 h2
      have h' := h
      unfold q_row at h'
      obtain ⟨k, hk, ek, -, nk⟩ := jm_ofL (v := r) (n := 8) (by omega) (by omega)
      obtain ⟨y, hy, ey, -, ny⟩ := jm_ofL (v := x) (n := 41) (by omega) (by omega)
      subst ek ey
      rw [nk] at e1
      generalize hM : jm_sf (jm_sf (jm_sf (jm_sf M 5 (upd (M 5) k l)) 6 (upd (M 6) k (nI y))) (24 + k) (p_zr (M (24 + k)) 0 40)) 0 (upd (M 0) 9 (nI 0)) = M9 at e1
      subst e1
      have fr : ∀ i, i ≠ 0 → i ≠ 5 → i ≠ 6 → i ≠ 24 + k → M1 i = M i := fun i a b c d => by rw [← hM, jm_sf_n _ _ a, jm_sf_n _ _ d, jm_sf_n _ _ c, jm_sf_n _ _ b]
      refine ⟨_, ho, jm_wk (c_row M1 (nI k) l (nI y)) (fun o2 M2 q2 => ?_)⟩
      obtain ⟨ho2, e2⟩ := (q2.1 h).2 h2
      rw [nk, fr 12 (by decide) (by decide) (by decide) (by omega), fr 13 (by decide) (by decide) (by decide) (by omega), fr 14 (by decide) (by decide) (by decide) (by omega), hGR.2.2.1.1, hGR.2.2.1.2.2] at e2
      refine ⟨ho2, w, pf, n, im, kp, upd ln k l, wU mn k y, p_zr it (40 * k) 40, tn, t, L, GX_rw hX (fun i x0 x5 x6 xr x11 x12 x13 x14 x15 => by rw [e2, jm_sf_n _ _ x11, jm_sf_n _ _ x14, jm_sf_n _ _ x13, jm_sf_n _ _ x12, fr i x0 x5 x6 (by omega)]) (fun j hj => by rw [e2, jm_sf_n _ _ (by decide), jm_sf_n _ _ (by decide), jm_sf_n _ _ (by decide), jm_sf_n _ _ (by decide), ← hM, jm_sf_s, upd_n _ _ hj]) (fun j hj => by rw [e2, jm_sf_s, upd_n _ _ hj, fr 11 (by decide) (by decide) (by decide) (by omega)]) (by rw [e2, jm_sf_n _ _ (by decide), jm_sf_n _ _ (by decide), jm_sf_n _ _ (by decide), jm_sf_n _ _ (by decide), jm_sf_s, upd_s, ← hM, jm_sf_s, upd_s]) (by rw [e2, jm_sf_n _ _ (by decide), jm_sf_n _ _ (by decide), jm_sf_n _ _ (by decide), jm_sf_s]) (fun r hr => by rw [e2, jm_sf_n _ _ (by decide), jm_sf_n _ _ (by decide), jm_sf_s]; by_cases z : r = k; (subst z; rw [upd_s, wU_s]); (rw [upd_n _ _ z, wU_n _ _ z]; exact hGR.2.2.1.2.1 r hr)) (by rw [e2, jm_sf_n _ _ (by decide), jm_sf_s]) ?_⟩
      have o2m : ∀ i, i ≠ 11 → i ≠ 12 → i ≠ 13 → i ≠ 14 → M2 i = M1 i := fun i a b c d => by rw [e2, jm_sf_n _ _ a, jm_sf_n _ _ d, jm_sf_n _ _ c, jm_sf_n _ _ b]
      have e6 : M2 6 = upd (M 6) k (nI y) := by rw [o2m 6 (by decide) (by decide) (by decide) (by decide), ← hM, jm_sf_n _ _ (by decide), jm_sf_n _ _ (by omega), jm_sf_s]
      have e5 : M2 5 = upd (M 5) k l := by rw [o2m 5 (by decide) (by decide) (by decide) (by decide), ← hM, jm_sf_n _ _ (by decide), jm_sf_n _ _ (by omega), jm_sf_n _ _ (by decide), jm_sf_s]
      intro r hr8
      rw [e6, e5, o2m _ (by omega) (by omega) (by omega) (by omega)]
      by_cases z : r = k
      · subst z
        rw [upd_s, upd_s, wU_s, upd_s, ← hM, jm_sf_n _ _ (by omega), jm_sf_s]
        refine ⟨by omega, Or.inr ⟨rfl, fun z => ?_, rfl, fun j hj => ?_⟩⟩
        · rw [z] at h'
          have e9 : (-1000000 : Int32).toInt = -1000000 := by decide
          omega
        · unfold p_zr
          rw [if_pos (by omega), if_pos (by omega)]
      · rw [upd_n _ _ z, upd_n _ _ z, wU_n _ _ z, upd_n _ _ z, fr _ (by omega) (by omega) (by omega) (by omega)]
        refine ⟨h40 r hr8, ?_⟩
        rcases (hW r hr8).2 with ⟨a, b⟩ | ⟨a, b, c, d⟩
        · exact Or.inl ⟨a, b⟩
        · refine Or.inr ⟨a, b, c, fun x hx => ?_⟩
          rw [d x hx]
          unfold p_zr
          rw [if_neg (by omega)]
  · obtain ⟨ho, e⟩ := q.2 h
    subst e
    refine ⟨_, ho, jm_wk (c_row M1 r l x) (fun o2 M2 q2 => ?_)⟩
    obtain ⟨ho2, e2⟩ := q2.2 h
    subst e2
    exact ⟨ho2, w, pf, n, im, kp, ln, mn, it, tn, t, L, hX⟩
