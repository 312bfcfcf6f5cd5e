/-! the other calls keep what holds of both sides -/
theorem GR_p {M M1 : jm_M} (h : ∀ i, 12 ≤ i → i ≤ 23 → M1 i = M i) (h6 : M1 11 6 = M 11 6) (h17 : M1 11 17 = M 11 17) (h21 : M1 11 21 = M 11 21) {w pf : Nat → Nat} {n : Nat} {im : Nat → Nat} {kp : Nat → Bool} {ln : Nat → Int32} {mn : Nat → Nat} {it : Nat → Int32} {tn : Nat} {t : Nat → Nat} {L : List Nat} (g : GR M w pf n im kp ln mn it tn t L) : GR M1 w pf n im kp ln mn it tn t L := by
  obtain ⟨⟨a1, a2, a3⟩, ⟨b1, b2⟩, ⟨c1, c2, c3⟩, ⟨d1, d2⟩, ⟨e1, e2⟩, ⟨f1, f2⟩⟩ := g
  refine ⟨⟨?_, ?_, ?_⟩, ⟨?_, ?_⟩, ⟨?_, ?_, ?_⟩, ⟨?_, ?_⟩, ⟨?_, ?_⟩, ⟨?_, ?_⟩⟩
  · rw [h _ (by decide) (by decide)]; exact a1
  · rw [h _ (by decide) (by decide)]; exact a2
  · rw [h17]; exact a3
  · rw [h _ (by decide) (by decide)]; exact b1
  · rw [h _ (by decide) (by decide)]; exact b2
  · rw [h _ (by decide) (by decide)]; exact c1
  · rw [h _ (by decide) (by decide)]; exact c2
  · rw [h _ (by decide) (by decide)]; exact c3
  · rw [h6]; exact d1
  · rw [h _ (by decide) (by decide)]; exact d2
  · rw [h21]; exact e1
  · rw [h _ (by decide) (by decide)]; exact e2
  · rw [h _ (by decide) (by decide)]; exact f1
  · rw [h _ (by decide) (by decide)]; exact f2
/-- both sides keep another finding -/
theorem GX_s {M M2 : jm_M} (h : ∀ i, i ≠ 0 → i ≠ 11 → M2 i = M i) (h0 : ∀ j, j ≠ 9 → M2 0 j = M 0 j) (h11 : ∀ j, j ≠ 4 → M2 11 j = M 11 j) (he : M2 0 9 = M2 11 4) {w pf : Nat → Nat} {n : Nat} {im : Nat → Nat} {kp : Nat → Bool} {ln : Nat → Int32} {mn : Nat → Nat} {it : Nat → Int32} {tn : Nat} {t : Nat → Nat} {L : List Nat} (g : GX M w pf n im kp ln mn it tn t L) : GX M2 w pf n im kp ln mn it tn t L := by
  obtain ⟨g1, g2, g3, g4, g5⟩ := g
  refine ⟨g1, g2, GR_p (fun i a b => h i (by omega) (by omega)) (h11 6 (by decide)) (h11 17 (by decide)) (h11 21 (by decide)) g3, GK_f ⟨h0 7 (by decide), h0 8 (by decide)⟩ (by rw [h 2 (by decide) (by decide)]) (fun i a b c d => h i a (by omega)) g4, he, ?_⟩
  rw [h 2 (by decide) (by decide), h11 7 (by decide)]
  exact g5.2
theorem GX_st {M : jm_M} (z : Int32) {w pf : Nat → Nat} {n : Nat} {im : Nat → Nat} {kp : Nat → Bool} {ln : Nat → Int32} {mn : Nat → Nat} {it : Nat → Int32} {tn : Nat} {t : Nat → Nat} {L : List Nat} (g : GX M w pf n im kp ln mn it tn t L) : GX (jm_sf (jm_sf M 0 (upd (M 0) 9 z)) 11 (upd (jm_sf M 0 (upd (M 0) 9 z) 11) 4 z)) w pf n im kp ln mn it tn t L :=
  GX_s (fun i a b => by rw [jm_sf_n _ _ b, jm_sf_n _ _ a]) (fun j hj => by rw [jm_sf_n _ _ (by decide), jm_sf_s, upd_n _ _ hj]) (fun j hj => by rw [jm_sf_s, upd_n _ _ hj, jm_sf_n _ _ (by decide)]) (by rw [jm_sf_n _ _ (by decide), jm_sf_s, upd_s, jm_sf_s, upd_s]) g
theorem GP_nt {w w' pf : Nat → Nat} {n : Nat} (h : GP w pf n) (hG : rG w') (h4 : w' 4 ≤ 9999) : GP w' (p_nt w pf n) (p_na n) := by
  obtain ⟨h1, h2, h3, h5⟩ := h
  refine ⟨hG, h4, p_na_le h3, fun r hr => ?_⟩
  by_cases e : r = p_na n - 1
  · rw [e, p_row_nt h3 h1.z]; exact ⟨h1, h2⟩
  · have q := p_row_no (w := w) (pf := pf) (j := p_na n - 1 - r) h3 (by omega) (by omega)
    rw [show p_na n - 1 - (p_na n - 1 - r) = r by omega] at q
    rw [q]
    have e2 : (n = 24 ∧ p_na n = 24) ∨ p_na n = n + 1 := by
      unfold p_na
      split
      · exact Or.inl ⟨by assumption, rfl⟩
      · exact Or.inr rfl
    exact h5 _ (by omega)
theorem GP_mp {w pf : Nat → Nat} {n N : Nat} (h : GP w pf n) (hN : w 4 + N ≤ 9999) : ∀ k, k ≤ N → GP (p_on w k) (p_mp w pf n k).1 (p_mp w pf n k).2
  | 0, _ => h
  | k + 1, hk => by
    have i := GP_mp h hN k (by omega)
    exact GP_nt i (p_on_rG h.1 (k + 1) (by omega)) (by rw [p_on_4]; omega)
/-- an act of both sides -/
theorem GX_a {M M1 : jm_M} {w' pf' : Nat → Nat} {n' : Nat} {w pf : Nat → Nat} {n : Nat} {im : Nat → Nat} {kp : Nat → Bool} {ln : Nat → Int32} {mn : Nat → Nat} {it : Nat → Int32} {tn : Nat} {t : Nat → Nat} {L : List Nat} (g : GX M w pf n im kp ln mn it tn t L) (hC : CA M1 w' pf' n') (hA : AF M M1) (hP : GP w' pf' n') : GX (S3 M1 w' pf' n') w' pf' n' im kp ln mn it tn t L := by
  obtain ⟨g1, g2, ⟨⟨a1, a2, a3⟩, ⟨b1, b2⟩, ⟨c1, c2, c3⟩, ⟨d1, d2⟩, ⟨e1, e2⟩, ⟨f1, f2⟩⟩, ⟨k1, k2, k3, ⟨k4, k4'⟩, k5, k5'⟩, g5, g6⟩ := g
  have h : ∀ i, 0 < i → i < 32 ∨ 136 ≤ i → i ≠ 11 → i ≠ 17 → i ≠ 20 → S3 M1 w' pf' n' i = M i := fun i h0 hi h11 h17 h20 => by
    rw [S3_at, if_neg h11, if_neg h20, if_neg h17]; exact hA.1 i (by omega) (by omega)
  have h11 : ∀ j, j ≠ 17 → S3 M1 w' pf' n' 11 j = M 11 j := fun j hj => by
    rw [S3_11, upd_n _ _ hj, hA.1 11 (by decide) (by omega)]
  refine ⟨hP, g2, ⟨⟨S3_17, S3_20, S3_a⟩, ⟨?_, ?_⟩, ⟨?_, ?_, ?_⟩, ⟨?_, ?_⟩, ⟨?_, ?_⟩, ⟨?_, ?_⟩⟩, ⟨?_, ?_, ?_, ⟨?_, ?_⟩, ?_, ?_⟩, ?_, ?_⟩
  · rw [h 21 (by decide) (by omega) (by decide) (by decide) (by decide)]; exact b1
  · rw [h 22 (by decide) (by omega) (by decide) (by decide) (by decide)]; exact b2
  · rw [h 12 (by decide) (by omega) (by decide) (by decide) (by decide)]; exact c1
  · rw [h 13 (by decide) (by omega) (by decide) (by decide) (by decide)]; exact c2
  · rw [h 14 (by decide) (by omega) (by decide) (by decide) (by decide)]; exact c3
  · rw [h11 6 (by decide)]; exact d1
  · rw [h 16 (by decide) (by omega) (by decide) (by decide) (by decide)]; exact d2
  · rw [h11 21 (by decide)]; exact e1
  · rw [h 23 (by decide) (by omega) (by decide) (by decide) (by decide)]; exact e2
  · rw [h 19 (by decide) (by omega) (by decide) (by decide) (by decide)]; exact f1
  · rw [h 18 (by decide) (by omega) (by decide) (by decide) (by decide)]; exact f2
  · exact CA_f hC ⟨rfl, rfl⟩ (fun i a b c => by rw [S3_at, if_neg (by omega), if_neg (by omega), if_neg (by omega)])
  · exact CI_f k2 (fun i a b => h i (by omega) (by omega) (by omega) (by omega) (by omega))
  · exact RW_f k3 (h 5 (by decide) (by omega) (by decide) (by decide) (by decide)) (h 6 (by decide) (by omega) (by decide) (by decide) (by decide)) (fun r hr => h _ (by omega) (by omega) (by omega) (by omega) (by omega))
  · rw [h 7 (by decide) (by omega) (by decide) (by decide) (by decide)]; exact k4
  · rw [h 2 (by decide) (by omega) (by decide) (by decide) (by decide)]; exact k4'
  · rw [h 3 (by decide) (by omega) (by decide) (by decide) (by decide)]; exact k5
  · rw [h 8 (by decide) (by omega) (by decide) (by decide) (by decide)]; exact k5'
  · rw [h11 4 (by decide)]
    show M1 0 9 = _
    rw [hA.2]; exact g5
  · rw [h11 7 (by decide), h 2 (by decide) (by omega) (by decide) (by decide) (by decide)]; exact g6
theorem S3_af {M M1 : jm_M} {w pf : Nat → Nat} {n : Nat} (hA : AF M M1) (g : GR1 M w pf n) : S3 M1 w pf n = M1 := S3_id (by rw [hA.1 17 (by decide) (by omega)]; exact g.1) (by rw [hA.1 20 (by decide) (by omega)]; exact g.2.1) (by rw [hA.1 11 (by decide) (by omega)]; exact g.2.2)
theorem st_as {M : jm_M} (hI : GI M) (v kd : Int32) : NE M YX5_as YX6_as [some (.ref 0), some (.int v), some (.int kd)] [some (.ref 11), some (.int v), some (.int kd), none, none] := by
  obtain ⟨w, pf, n, im, kp, ln, mn, it, tn, t, L, hX⟩ := hI
  obtain ⟨⟨hg, hm, hn, hpr⟩, ⟨him, htn, ht, hL⟩, hGR, hGK, hGS⟩ := id hX
  have hCA := hGK.1
  have hR := hCA.1
  refine jm_wk (w_as w M hR hg hm v kd) (fun o M1 q => ?_)
  rcases Classical.em (q_as w v kd) with h | h
  · rcases Classical.em (q_isa (w (17 + 4 * v.toInt.toNat)) kd.toInt.toNat) with h2 | h2
    · obtain ⟨ho, e⟩ := (q.1 h).1 h2
      subst e
      refine ⟨_, ho, jm_wk (c_as w (jm_sf M 0 (upd (M 0) 9 (nI 0))) hGR.1.1 hg v kd) (fun o2 M2 q2 => ?_)⟩
      obtain ⟨ho2, e2⟩ := (q2.1 h).1 h2
      subst e2
      exact ⟨ho2, w, pf, n, im, kp, ln, mn, it, tn, t, L, GX_st _ hX⟩
    · obtain ⟨ho, e⟩ := (q.1 h).2 h2
      subst e
      refine ⟨_, ho, jm_wk (c_as w (jm_sf M 0 (upd (M 0) 9 (nI 3))) hGR.1.1 hg v kd) (fun o2 M2 q2 => ?_)⟩
      obtain ⟨ho2, e2⟩ := (q2.1 h).2 h2
      subst e2
      exact ⟨ho2, w, pf, n, im, kp, ln, mn, it, tn, t, L, GX_st _ hX⟩
  · obtain ⟨ho, e⟩ := q.2 h
    subst e
    refine ⟨_, ho, jm_wk (c_as w _ hGR.1.1 hg v kd) (fun o2 M2 q2 => ?_)⟩
    obtain ⟨ho2, e2⟩ := q2.2 h
    subst e2
    exact ⟨ho2, w, pf, n, im, kp, ln, mn, it, tn, t, L, hX⟩
theorem st_say {M : jm_M} (hI : GI M) (v z c : Int32) : NE M YX5_say YX6_say [some (.ref 0), some (.int v), some (.int z), some (.int c), none] [some (.ref 11), some (.int v), some (.int z), some (.int c), none] := by
  obtain ⟨w, pf, n, im, kp, ln, mn, it, tn, t, L, hX⟩ := hI
  obtain ⟨⟨hg, hm, hn, hpr⟩, ⟨him, htn, ht, hL⟩, hGR, hGK, hGS⟩ := id hX
  have hCA := hGK.1
  have hR := hCA.1
  refine jm_wk (w_say w pf n M hCA hg hn hm v z c) (fun o M1 q => ?_)
  rcases Classical.em (q_say w v z c) with h | h
  · obtain ⟨ho, hC1, hA⟩ := q.1 h
    have hr := c_say M1 w pf n hg hm hn v z c
    rw [S3_af hA hGR.1] at hr
    refine ⟨_, ho, jm_wk hr (fun o2 M2 q2 => ?_)⟩
    obtain ⟨ho2, e2⟩ := q2.1 h
    subst e2
    refine ⟨ho2, _, _, _, im, kp, ln, mn, it, tn, t, L, GX_a hX hC1 hA ?_⟩
    unfold q_say at h
    exact GP_nt hX.1 (hg.says (by have := hg.1.2.2.2.1; omega) ⟨by omega, by omega⟩ (by omega)) (by rw [p_says_hd _ _ _ _ (by decide)]; exact hm)
  · obtain ⟨ho, e⟩ := q.2 h
    subst e
    have hr := c_say M1 w pf n hg hm hn v z c
    rw [S3_af (AF_0 M1) hGR.1] at hr
    refine ⟨_, ho, jm_wk hr (fun o2 M2 q2 => ?_)⟩
    obtain ⟨ho2, e2⟩ := q2.2 h
    subst e2
    exact ⟨ho2, w, pf, n, im, kp, ln, mn, it, tn, t, L, hX⟩
theorem st_speed {M : jm_M} (hI : GI M) (c v : Int32) : NE M YX5_speed YX6_speed [some (.ref 0), some (.int c), some (.int v), none] [some (.ref 11), some (.int c), some (.int v), none] := by
  obtain ⟨w, pf, n, im, kp, ln, mn, it, tn, t, L, hX⟩ := hI
  obtain ⟨⟨hg, hm, hn, hpr⟩, ⟨him, htn, ht, hL⟩, hGR, hGK, hGS⟩ := id hX
  have hCA := hGK.1
  have hR := hCA.1
  refine jm_wk (w_speed w pf n M hCA hg hn hm c v) (fun o M1 q => ?_)
  rcases Classical.em (q_speed w c v) with h | h
  · obtain ⟨ho, hC1, hA⟩ := q.1 h
    have hr := c_speed M1 w pf n hg hm hn c v
    rw [S3_af hA hGR.1] at hr
    refine ⟨_, ho, jm_wk hr (fun o2 M2 q2 => ?_)⟩
    obtain ⟨ho2, e2⟩ := q2.1 h
    subst e2
    refine ⟨ho2, _, _, _, im, kp, ln, mn, it, tn, t, L, GX_a hX hC1 hA ?_⟩
    unfold q_speed at h
    exact GP_nt hX.1 (hg.sp (by have := hg.1.2.2.1; omega) (by omega)) (by rw [wU_n _ _ (by omega)]; exact hm)
  · obtain ⟨ho, e⟩ := q.2 h
    subst e
    have hr := c_speed M1 w pf n hg hm hn c v
    rw [S3_af (AF_0 M1) hGR.1] at hr
    refine ⟨_, ho, jm_wk hr (fun o2 M2 q2 => ?_)⟩
    obtain ⟨ho2, e2⟩ := q2.2 h
    subst e2
    exact ⟨ho2, w, pf, n, im, kp, ln, mn, it, tn, t, L, hX⟩
theorem st_rain {M : jm_M} (hI : GI M) (v : Int32) : NE M YX5_rain YX6_rain [some (.ref 0), some (.int v), none] [some (.ref 11), some (.int v), none] := by
  obtain ⟨w, pf, n, im, kp, ln, mn, it, tn, t, L, hX⟩ := hI
  obtain ⟨⟨hg, hm, hn, hpr⟩, ⟨him, htn, ht, hL⟩, hGR, hGK, hGS⟩ := id hX
  have hCA := hGK.1
  have hR := hCA.1
  refine jm_wk (w_rain w pf n M hCA hg hn hm v) (fun o M1 q => ?_)
  by_cases h1 : w 2 = 0
  · rw [if_pos h1] at q
    obtain ⟨ho, e⟩ := q
    subst e
    have hr := c_rain M1 w pf n hg hm hn v
    rw [S3_af (AF_0 M1) hGR.1] at hr
    refine ⟨_, ho, jm_wk hr (fun o2 M2 q2 => ?_)⟩
    rw [if_pos h1] at q2
    obtain ⟨ho2, e2⟩ := q2
    subst e2
    exact ⟨ho2, w, pf, n, im, kp, ln, mn, it, tn, t, L, hX⟩
  · by_cases h2 : 0 ≤ v.toInt ∧ v.toInt ≤ 15
    · rw [if_neg h1, if_pos h2] at q
      obtain ⟨ho, hC1, hA⟩ := q
      have hr := c_rain M1 w pf n hg hm hn v
      rw [S3_af hA hGR.1] at hr
      refine ⟨_, ho, jm_wk hr (fun o2 M2 q2 => ?_)⟩
      rw [if_neg h1, if_pos h2] at q2
      obtain ⟨ho2, e2⟩ := q2
      subst e2
      refine ⟨ho2, _, _, _, im, kp, ln, mn, it, tn, t, L, GX_a hX hC1 hA ?_⟩
      exact GP_nt hX.1 (hg.up0 (by omega)) (by rw [wU_n _ _ (by decide)]; exact hm)
    · rw [if_neg h1, if_neg h2] at q
      obtain ⟨ho, e⟩ := q
      subst e
      have hr := c_rain M1 w pf n hg hm hn v
      rw [S3_af (AF_0 M1) hGR.1] at hr
      refine ⟨_, ho, jm_wk hr (fun o2 M2 q2 => ?_)⟩
      rw [if_neg h1, if_neg h2] at q2
      obtain ⟨ho2, e2⟩ := q2
      subst e2
      exact ⟨ho2, w, pf, n, im, kp, ln, mn, it, tn, t, L, hX⟩
theorem st_minutes {M : jm_M} (hI : GI M) (v : Int32) : NE M YX5_minutes YX6_minutes [some (.ref 0), some (.int v), none] [some (.ref 11), some (.int v), none] := by
  obtain ⟨w, pf, n, im, kp, ln, mn, it, tn, t, L, hX⟩ := hI
  obtain ⟨⟨hg, hm, hn, hpr⟩, ⟨him, htn, ht, hL⟩, hGR, hGK, hGS⟩ := id hX
  have hCA := hGK.1
  have hR := hCA.1
  refine jm_wk (w_minutes w pf n M hCA hg hn hm v) (fun o M1 q => ?_)
  by_cases h1 : w 2 = 0
  · rw [if_pos h1] at q
    obtain ⟨ho, e⟩ := q
    subst e
    have hr := c_minutes M1 w pf n hg hm hn v
    rw [S3_af (AF_0 M1) hGR.1] at hr
    refine ⟨_, ho, jm_wk hr (fun o2 M2 q2 => ?_)⟩
    rw [if_pos h1] at q2
    obtain ⟨ho2, e2⟩ := q2
    subst e2
    exact ⟨ho2, w, pf, n, im, kp, ln, mn, it, tn, t, L, hX⟩
  · by_cases h2 : 1 ≤ v.toInt ∧ v.toInt ≤ 24
    · by_cases h3 : w 4 + v.toInt.toNat ≤ 9999
      · rw [if_neg h1, if_pos h2, if_pos h3] at q
        obtain ⟨ho, hC1, hA⟩ := q
        have hr := c_minutes M1 w pf n hg hm hn v
        rw [S3_af hA hGR.1] at hr
        refine ⟨_, ho, jm_wk hr (fun o2 M2 q2 => ?_)⟩
        rw [if_neg h1, if_pos h2, if_pos h3] at q2
        obtain ⟨ho2, e2⟩ := q2
        subst e2
        refine ⟨ho2, _, _, _, im, kp, ln, mn, it, tn, t, L, GX_a hX hC1 hA ?_⟩
        exact GP_mp hX.1 h3 _ (Nat.le_refl _)
      · rw [if_neg h1, if_pos h2, if_neg h3] at q
        obtain ⟨ho, e⟩ := q
        subst e
        have hr := c_minutes M1 w pf n hg hm hn v
        rw [S3_af (AF_0 M1) hGR.1] at hr
        refine ⟨_, ho, jm_wk hr (fun o2 M2 q2 => ?_)⟩
        rw [if_neg h1, if_pos h2, if_neg h3] at q2
        obtain ⟨ho2, e2⟩ := q2
        subst e2
        exact ⟨ho2, w, pf, n, im, kp, ln, mn, it, tn, t, L, hX⟩
    · rw [if_neg h1, if_neg h2] at q
      obtain ⟨ho, e⟩ := q
      subst e
      have hr := c_minutes M1 w pf n hg hm hn v
      rw [S3_af (AF_0 M1) hGR.1] at hr
      refine ⟨_, ho, jm_wk hr (fun o2 M2 q2 => ?_)⟩
      rw [if_neg h1, if_neg h2] at q2
      obtain ⟨ho2, e2⟩ := q2
      subst e2
      exact ⟨ho2, w, pf, n, im, kp, ln, mn, it, tn, t, L, hX⟩
theorem st_undo {M : jm_M} (hI : GI M) : NE M YX5_undo YX6_undo [some (.ref 0)] [some (.ref 11)] := by
  obtain ⟨w, pf, n, im, kp, ln, mn, it, tn, t, L, hX⟩ := hI
  obtain ⟨⟨hg, hm, hn, hpr⟩, ⟨him, htn, ht, hL⟩, hGR, hGK, hGS⟩ := id hX
  have hCA := hGK.1
  have hR := hCA.1
  refine jm_wk (w_undo w pf n M hCA hn (fun r hr => (hpr r hr).1)) (fun o M1 q => ?_)
  by_cases h1 : n = 0
  · rw [if_pos h1] at q
    obtain ⟨ho, e⟩ := q
    subst e
    have hr := c_undo M1 w pf n hg hm hn 
    rw [S3_af (AF_0 M1) hGR.1] at hr
    refine ⟨_, ho, jm_wk hr (fun o2 M2 q2 => ?_)⟩
    rw [if_pos h1] at q2
    obtain ⟨ho2, e2⟩ := q2
    subst e2
    exact ⟨ho2, w, pf, n, im, kp, ln, mn, it, tn, t, L, hX⟩
  · rw [if_neg h1] at q
    obtain ⟨ho, hC1, hA⟩ := q
    have hr := c_undo M1 w pf n hg hm hn 
    rw [S3_af hA hGR.1] at hr
    refine ⟨_, ho, jm_wk hr (fun o2 M2 q2 => ?_)⟩
    rw [if_neg h1, p_row_cp hg.z] at q2
    obtain ⟨ho2, e2⟩ := q2
    subst e2
    refine ⟨ho2, _, _, _, im, kp, ln, mn, it, tn, t, L, GX_a hX hC1 hA ?_⟩
    exact ⟨(hpr _ (by omega)).1, (hpr _ (by omega)).2, by omega, fun r hr => hpr r (by omega)⟩
theorem GX_fin {M : jm_M} {g' : Nat → Nat} {z : Int32} (hz : ∀ j, 45 ≤ j → g' j = 0) {w pf : Nat → Nat} {n : Nat} {im : Nat → Nat} {kp : Nat → Bool} {ln : Nat → Int32} {mn : Nat → Nat} {it : Nat → Int32} {tn : Nat} {t : Nat → Nat} {L : List Nat} (g : GX M w pf n im kp ln mn it tn t L) : GX (jm_sf (jm_sf (jm_sf M 0 (upd (M 0) 9 z)) 19 (jm_n g')) 11 (upd (jm_sf M 0 (upd (M 0) 9 z) 11) 4 z)) w pf n im kp ln mn it tn t L :=
  GX_s (M := jm_sf M 19 (jm_n g')) (fun i a b => by
    rw [jm_sf_n _ _ b]
    by_cases e : i = 19
    · subst e; rw [jm_sf_s, jm_sf_s]
    · rw [jm_sf_n _ _ e, jm_sf_n _ _ e, jm_sf_n _ _ a])
    (fun j hj => by rw [jm_sf_n _ _ (by decide), jm_sf_n _ _ (by decide), jm_sf_s, upd_n _ _ hj, jm_sf_n _ _ (by decide)])
    (fun j hj => by rw [jm_sf_s, upd_n _ _ hj, jm_sf_n _ _ (by decide), jm_sf_n _ _ (by decide)])
    (by rw [jm_sf_n _ _ (by decide), jm_sf_n _ _ (by decide), jm_sf_s, upd_s, jm_sf_s, upd_s]) (GX_q hz g)
theorem st_fits {M : jm_M} (hI : GI M) (v r i x a : Int32) : NE M YX5_fits YX6_fits [some (.ref 0), some (.int v), some (.int r), some (.int i), some (.int x), some (.int a), none] [some (.ref 11), some (.int v), some (.int r), some (.int i), some (.int x), some (.int a), none, none, none, none, none, none, none, none] := by
  obtain ⟨w, pf, n, im, kp, ln, mn, it, tn, t, L, hX⟩ := hI
  obtain ⟨⟨hg, hm, hn, hpr⟩, ⟨him, htn, ht, hL⟩, hGR, hGK, hGS⟩ := id hX
  have hCA := hGK.1
  have hR := hCA.1
  refine jm_wk (w_fits w M hR hg hm ln mn it hGK.2.2.1 v r i x a) (fun o M1 q => ?_)
  obtain ⟨ho, M2, hF, e1⟩ := q
  have hX2 := GX_t hF hX
  have h40 : ∀ r, r < 8 → mn r ≤ 40 := fun r hr => (hGK.2.2.1 r hr).1
  generalize hqq : q_fits w ln mn it v r i x a = qq at ho e1
  obtain ⟨q1, q2⟩ := qq
  obtain ⟨g0, hz0, e19⟩ := hX2.2.2.1.2.2.2.2.2.1
  cases q2 with
  | none =>
    have e1 : M1 = M2 := e1
    subst e1
    have hr := c_fits w g0 M1 (GX_17 hX2) hg hz0 hm ln mn (fun r _ => by rw [hX2.2.2.1.2.2.1.1]) hX2.2.2.1.2.2.1.2.1 h40 v r i x a
    rw [jm_sfid e19, hX2.2.2.1.2.2.1.2.2, hqq] at hr
    refine ⟨q1, ho, jm_wk hr (fun o2 M3 q2 => ?_)⟩
    obtain ⟨ho2, g', hz', e3⟩ := q2
    have e3 : M3 = jm_sf M1 19 (jm_n g') := e3
    subst e3
    exact ⟨ho2, w, pf, n, im, kp, ln, mn, it, tn, t, L, GX_q hz' hX2⟩
  | some z =>
    have e1 : M1 = jm_sf M2 0 (upd (M2 0) 9 z) := e1
    subst e1
    have h17 : M2 17 = jm_n w := GX_17 hX2
    have hr := c_fits w g0 (jm_sf M2 0 (upd (M2 0) 9 z)) h17 hg hz0 hm ln mn (fun r _ => by show M2 12 r = _; rw [hX2.2.2.1.2.2.1.1]) hX2.2.2.1.2.2.1.2.1 h40 v r i x a
    rw [jm_sfid (show jm_sf M2 0 (upd (M2 0) 9 z) 19 = jm_n g0 from e19), show jm_sf M2 0 (upd (M2 0) 9 z) 14 = it from hX2.2.2.1.2.2.1.2.2, hqq] at hr
    refine ⟨q1, ho, jm_wk hr (fun o2 M3 q2 => ?_)⟩
    obtain ⟨ho2, g', hz', e3⟩ := q2
    have e3 : M3 = jm_sf (jm_sf (jm_sf M2 0 (upd (M2 0) 9 z)) 19 (jm_n g')) 11 (upd (jm_sf M2 0 (upd (M2 0) 9 z) 11) 4 z) := e3
    subst e3
    exact ⟨ho2, w, pf, n, im, kp, ln, mn, it, tn, t, L, GX_fin hz' hX2⟩
theorem kU_b {kp : Nat → Bool} {k j : Nat} {f : Nat → Int32} (h : f j = jm_b (kp j = true)) : upd f k (nI 1) j = jm_b (kU kp k j = true) := by
  by_cases e : j = k
  · subst e
    rw [upd_s]
    exact (jm_b_t (if_pos rfl)).symm
  · rw [upd_n _ _ e, h]
    exact jm_b_c (by unfold kU; rw [if_neg e])
theorem GX_im {M M1 : jm_M} {k : Nat} (hk : k < 2) {w pf : Nat → Nat} {n : Nat} {im : Nat → Nat} {kp : Nat → Bool} {ln : Nat → Int32} {mn : Nat → Nat} {it : Nat → Int32} {tn : Nat} {t : Nat → Nat} {L : List Nat} (g : GX M w pf n im kp ln mn it tn t L) (h2 : 0 < w 2) (hI : CI M1 (p_cp w im 0 (45 * k) 45) (kU kp k)) (hF : ∀ i, ¬ (136 ≤ i ∧ i < 144) → M1 i = M i) : GX (jm_sf (jm_sf M1 21 (jm_n (p_cp w im 0 (45 * k) 45))) 22 (upd (M1 22) k (nI 1))) w pf n (p_cp w im 0 (45 * k) 45) (kU kp k) ln mn it tn t L := by
  obtain ⟨g1, ⟨v1, v2, v3, v4⟩, ⟨a, ⟨b1, b2⟩, c, d, e, f⟩, ⟨k1, k2, k3, ⟨k4, k4'⟩, k5⟩, g5, g6⟩ := g
  have h : ∀ i, i ≠ 21 → i ≠ 22 → ¬ (136 ≤ i ∧ i < 144) → jm_sf (jm_sf M1 21 (jm_n (p_cp w im 0 (45 * k) 45))) 22 (upd (M1 22) k (nI 1)) i = M i := fun i h1 h2 h3 => by rw [jm_sf_n _ _ h2, jm_sf_n _ _ h1, hF i h3]
  refine ⟨g1, ⟨fun x hx hkx => ?_, v2, v3, v4⟩, ⟨?_, ⟨?_, ?_⟩, ?_, ?_, ?_, ?_⟩, ⟨?_, ?_, ?_, ⟨?_, ?_⟩, ?_⟩, ?_, ?_⟩
  · by_cases z : x = k
    · subst z
      rw [p_row_im g1.1.z]
      exact ⟨⟨g1.1, g1.2.1⟩, h2⟩
    · rw [p_row_io z]
      exact v1 x hx (by rw [show kU kp k x = kp x from if_neg z] at hkx; exact hkx)
  · unfold GR1 at a ⊢
    rw [h 17 (by decide) (by decide) (by omega), h 20 (by decide) (by decide) (by omega), h 11 (by decide) (by decide) (by omega)]; exact a
  · rw [jm_sf_n _ _ (by decide), jm_sf_s]
  · intro j hj
    rw [jm_sf_s]
    exact kU_b (by rw [hF 22 (by omega)]; exact b2 j hj)
  · unfold GR3 at c ⊢
    rw [h 12 (by decide) (by decide) (by omega), h 13 (by decide) (by decide) (by omega), h 14 (by decide) (by decide) (by omega)]; exact c
  · unfold GR4 at d ⊢
    rw [h 11 (by decide) (by decide) (by omega), h 16 (by decide) (by decide) (by omega)]; exact d
  · unfold GR5 jm_tr at e ⊢
    rw [h 11 (by decide) (by decide) (by omega), h 23 (by decide) (by decide) (by omega)]; exact e
  · unfold GR6 at f ⊢
    rw [h 19 (by decide) (by decide) (by omega), h 18 (by decide) (by decide) (by omega)]; exact f
  · exact CA_f k1 ⟨by rw [h 0 (by decide) (by decide) (by omega)], by rw [h 0 (by decide) (by decide) (by omega)]⟩ (fun i a b _ => h i (by omega) (by omega) (by omega))
  · exact CI_f hI (fun i a b => by rw [jm_sf_n _ _ (by omega), jm_sf_n _ _ (by omega)])
  · exact RW_f k3 (h 5 (by decide) (by decide) (by omega)) (h 6 (by decide) (by decide) (by omega)) (fun r hr => h _ (by omega) (by omega) (by omega))
  · rw [h 7 (by decide) (by decide) (by omega)]; exact k4
  · rw [h 2 (by decide) (by decide) (by omega)]; exact k4'
  · unfold jm_tr at k5 ⊢
    rw [h 3 (by decide) (by decide) (by omega), h 8 (by decide) (by decide) (by omega)]; exact k5
  · rw [h 0 (by decide) (by decide) (by omega), h 11 (by decide) (by decide) (by omega)]; exact g5
  · rw [h 2 (by decide) (by decide) (by omega), h 11 (by decide) (by decide) (by omega)]; exact g6
theorem st_image {M : jm_M} (hI : GI M) (v : Int32) : NE M YX5_image YX6_image [some (.ref 0), some (.int v)] [some (.ref 11), some (.int v)] := by
  obtain ⟨w, pf, n, im, kp, ln, mn, it, tn, t, L, hX⟩ := hI
  obtain ⟨⟨hg, hm, hn, hpr⟩, ⟨him, htn, ht, hL⟩, hGR, hGK, hGS⟩ := id hX
  have hCA := hGK.1
  have hR := hCA.1
  refine jm_wk (w_image w M hR hg hm im kp hGK.2.1 v) (fun o M1 q => ?_)
  by_cases h1 : 0 ≤ v.toInt ∧ v.toInt ≤ 1
  · by_cases h2 : w 2 = 0
    · rw [if_pos h1, if_pos h2] at q
      obtain ⟨ho, e⟩ := q
      subst e
      refine ⟨_, ho, jm_wk (c_image w im M1 hGR.1.1 hGR.2.1.1 hg v) (fun o2 M2 q2 => ?_)⟩
      rw [if_pos h1, if_pos h2] at q2
      obtain ⟨ho2, e2⟩ := q2
      subst e2
      exact ⟨ho2, w, pf, n, im, kp, ln, mn, it, tn, t, L, hX⟩
    · rw [if_pos h1, if_neg h2] at q
      obtain ⟨ho, hI1, hF⟩ := q
      refine ⟨_, ho, jm_wk (c_image w im M1 (by rw [hF 17 (by omega)]; exact hGR.1.1) (by rw [hF 21 (by omega)]; exact hGR.2.1.1) hg v) (fun o2 M2 q2 => ?_)⟩
      rw [if_pos h1, if_neg h2] at q2
      obtain ⟨ho2, e2⟩ := q2
      subst e2
      exact ⟨ho2, w, pf, n, _, _, ln, mn, it, tn, t, L, GX_im (by omega) hX (by omega) hI1 hF⟩
  · rw [if_neg h1] at q
    obtain ⟨ho, e⟩ := q
    subst e
    refine ⟨_, ho, jm_wk (c_image w im M1 hGR.1.1 hGR.2.1.1 hg v) (fun o2 M2 q2 => ?_)⟩
    rw [if_neg h1] at q2
    obtain ⟨ho2, e2⟩ := q2
    subst e2
    exact ⟨ho2, w, pf, n, im, kp, ln, mn, it, tn, t, L, hX⟩
theorem st_restore {M : jm_M} (hI : GI M) (v : Int32) : NE M YX5_restore YX6_restore [some (.ref 0), some (.int v)] [some (.ref 11), some (.int v)] := by
  obtain ⟨w, pf, n, im, kp, ln, mn, it, tn, t, L, hX⟩ := hI
  obtain ⟨⟨hg, hm, hn, hpr⟩, ⟨him, htn, ht, hL⟩, hGR, hGK, hGS⟩ := id hX
  have hCA := hGK.1
  have hR := hCA.1
  refine jm_wk (w_restore im pf n kp M hGK.2.1 (fun k hk hkk => ⟨(him k hk hkk).1.1, (him k hk hkk).2⟩) v) (fun o M1 q => ?_)
  by_cases h1 : 0 ≤ v.toInt ∧ v.toInt ≤ 1
  · by_cases h2 : kp v.toInt.toNat = true
    · rw [if_pos h1, if_pos h2] at q
      obtain ⟨ho, hC1, hA⟩ := q
      refine ⟨_, ho, jm_wk (c_restore w im M1 (by rw [hA.1 17 (by decide) (by omega)]; exact hGR.1.1) (by rw [hA.1 21 (by decide) (by omega)]; exact hGR.2.1.1) kp (fun k hk => by rw [hA.1 22 (by decide) (by omega)]; exact hGR.2.1.2 k hk) v) (fun o2 M2 q2 => ?_)⟩
      rw [if_pos h1, if_pos h2] at q2
      obtain ⟨ho2, e2⟩ := q2
      have e3 : M2 = S3 M1 (p_row im v.toInt.toNat) pf 0 := by
        rw [e2, p_row_cp hg.z]
        unfold S3
        rw [jm_sfid (M := jm_sf M1 17 (jm_n (p_row im v.toInt.toNat))) (show jm_sf M1 17 (jm_n (p_row im v.toInt.toNat)) 20 = jm_n pf by rw [jm_sf_n _ _ (by decide), hA.1 20 (by decide) (by omega)]; exact hGR.1.2.1)]
      have hv := him v.toInt.toNat (by omega) h2
      subst e3
      exact ⟨ho2, _, _, _, im, kp, ln, mn, it, tn, t, L, GX_a hX hC1 hA ⟨hv.1.1, hv.1.2, by omega, fun r hr => absurd hr (Nat.not_lt_zero _)⟩⟩
    · rw [if_pos h1, if_neg h2] at q
      obtain ⟨ho, e⟩ := q
      subst e
      refine ⟨_, ho, jm_wk (c_restore w im M1 hGR.1.1 hGR.2.1.1 kp hGR.2.1.2 v) (fun o2 M2 q2 => ?_)⟩
      rw [if_pos h1, if_neg h2] at q2
      obtain ⟨ho2, e2⟩ := q2
      subst e2
      exact ⟨ho2, w, pf, n, im, kp, ln, mn, it, tn, t, L, hX⟩
  · rw [if_neg h1] at q
    obtain ⟨ho, e⟩ := q
    subst e
    refine ⟨_, ho, jm_wk (c_restore w im M1 hGR.1.1 hGR.2.1.1 kp hGR.2.1.2 v) (fun o2 M2 q2 => ?_)⟩
    rw [if_neg h1] at q2
    obtain ⟨ho2, e2⟩ := q2
    subst e2
    exact ⟨ho2, w, pf, n, im, kp, ln, mn, it, tn, t, L, hX⟩
