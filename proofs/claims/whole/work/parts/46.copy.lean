/-! copy keeps what holds of both sides -/
theorem q_copy_v (ln : Nat → Int32) (mn : Nat → Nat) (a i b j n : Int32) : q_copy ln mn a i b j n = 0 ∨ q_copy ln mn a i b j n = 1 ∨ q_copy ln mn a i b j n = 2 ∨ q_copy ln mn a i b j n = 5 ∨ q_copy ln mn a i b j n = 9 := by
  unfold q_copy
  (repeat' split) <;> omega
theorem q_copy_0 {ln : Nat → Int32} {mn : Nat → Nat} {a i b j n : Int32} (h : q_copy ln mn a i b j n = 0) : (0 ≤ a.toInt ∧ a.toInt ≤ 7 ∧ 0 ≤ b.toInt ∧ b.toInt ≤ 7) ∧ ¬ (ln a.toInt.toNat = -1000000 ∨ ln b.toInt.toNat = -1000000) ∧ ln a.toInt.toNat = ln b.toInt.toNat ∧ (0 ≤ i.toInt ∧ 0 ≤ n.toInt ∧ i.toInt + n.toInt ≤ mn a.toInt.toNat ∧ 0 ≤ j.toInt ∧ j.toInt + n.toInt ≤ mn b.toInt.toNat) := by
  unfold q_copy at h
  by_cases h1 : 0 ≤ a.toInt ∧ a.toInt ≤ 7 ∧ 0 ≤ b.toInt ∧ b.toInt ≤ 7
  · rw [if_pos h1] at h
    by_cases h2 : ln a.toInt.toNat = -1000000 ∨ ln b.toInt.toNat = -1000000
    · rw [if_pos h2] at h; omega
    · rw [if_neg h2] at h
      by_cases h3 : ln a.toInt.toNat = ln b.toInt.toNat
      · rw [if_neg (fun z => z h3)] at h
        by_cases h4 : 0 ≤ i.toInt ∧ 0 ≤ n.toInt ∧ i.toInt + n.toInt ≤ mn a.toInt.toNat ∧ 0 ≤ j.toInt ∧ j.toInt + n.toInt ≤ mn b.toInt.toNat
        · exact ⟨h1, h2, h3, h4⟩
        · rw [if_neg h4] at h; omega
      · rw [if_pos h3] at h; omega
  · rw [if_neg h1] at h; omega
theorem st_copy {M : jm_M} (hI : GI M) (a i b j x : Int32) : NE M YX5_copy YX6_copy [some (.ref 0), some (.int a), some (.int i), some (.int b), some (.int j), some (.int x)] [some (.ref 11), some (.int a), some (.int i), some (.int b), some (.int j), some (.int x), none] := by
  obtain ⟨w, pf, n, im, kp, ln, mn, it, tn, t, L, hX⟩ := hI
  obtain ⟨⟨hg, hm, hn, hpr⟩, ⟨him, htn, ht, hL⟩, hGR, hGK, hGS⟩ := id hX
  have hCA := hGK.1
  have hR := hCA.1
  have hW := hGK.2.2.1
  have h40 : ∀ r, r < 8 → mn r ≤ 40 := fun r hr => (hW r hr).1
  refine jm_wk (w_copy M ln mn it hW a i b j x) (fun o M1 q => ?_)
  rcases q_copy_v ln mn a i b j x with hc | hc | hc | hc | hc
  · rw [hc] at q
    obtain ⟨ho, e1⟩ := q
    obtain ⟨⟨a0, a7, b0, b7⟩, c2, c3, i0, x0, ix, j0, jx⟩ := q_copy_0 hc
    have hr := fun h13 => c_copy M1 mn h13 h40 a i b j x
    obtain ⟨u, hu, eu, -, nu⟩ := jm_ofL (v := a) (n := 8) (by omega) (by omega)
    obtain ⟨v, hv, ev, -, nv⟩ := jm_ofL (v := b) (n := 8) (by omega) (by omega)
    subst eu ev
    rw [nu] at ix c2 c3 e1
    rw [nv] at jx c2 c3 e1
    have u40 := h40 u hu
    have v40 := h40 v hv
    obtain ⟨ii, hii, eii, -, nii⟩ := jm_ofL (v := i) (n := 41) (by omega) (by omega)
    obtain ⟨jj, hjj, ejj, -, njj⟩ := jm_ofL (v := j) (n := 41) (by omega) (by omega)
    obtain ⟨xx, hxx, exx, -, nxx⟩ := jm_ofL (v := x) (n := 41) (by omega) (by omega)
    subst eii ejj exx
    rw [nii, njj, nxx] at e1
    generalize hM : jm_sf (jm_sf M (24 + v) (va_cpy (M (24 + u)) (M (24 + v)) ii jj xx)) 0 (upd (M 0) 9 (nI 0)) = M9 at e1
    subst e1
    have fr : ∀ i, i ≠ 0 → i ≠ 24 + v → M1 i = M i := fun i a b => by rw [← hM, jm_sf_n _ _ a, jm_sf_n _ _ b]
    have f12 : M1 12 = ln := by rw [fr 12 (by decide) (by omega)]; exact hGR.2.2.1.1
    have f13 : ∀ r, r < 8 → M1 13 r = nI (mn r) := by rw [fr 13 (by decide) (by omega)]; exact hGR.2.2.1.2.1
    have f14 : M1 14 = it := by rw [fr 14 (by decide) (by omega)]; exact hGR.2.2.1.2.2
    have hr := hr f13
    rw [f12, hc, f14] at hr
    refine ⟨_, ho, jm_wk hr (fun o2 M2 q2 => ?_)⟩
    obtain ⟨ho2, e2⟩ := q2
    rw [nu, nv, nii, njj, nxx] at e2
    refine ⟨ho2, w, pf, n, im, kp, ln, mn, va_cpy it it (40 * u + ii) (40 * v + jj) xx, tn, t, L, GX_rw hX (fun i x0 x5 x6 xr x11 x12 x13 x14 x15 => by rw [e2, jm_sf_n _ _ x11, jm_sf_n _ _ x14, jm_sf_n _ _ x15, fr i x0 (by omega)]) (fun j hj => by rw [e2, jm_sf_n _ _ (by decide), jm_sf_n _ _ (by decide), jm_sf_n _ _ (by decide), ← hM, jm_sf_s, upd_n _ _ hj]) (fun j hj => by rw [e2, jm_sf_s, upd_n _ _ hj, fr 11 (by decide) (by omega)]) (by rw [e2, jm_sf_n _ _ (by decide), jm_sf_n _ _ (by decide), jm_sf_n _ _ (by decide), jm_sf_s, upd_s, ← hM, jm_sf_s, upd_s]) (by rw [e2, jm_sf_n _ _ (by decide), jm_sf_n _ _ (by decide), jm_sf_n _ _ (by decide)]; exact f12) (by rw [e2, jm_sf_n _ _ (by decide), jm_sf_n _ _ (by decide), jm_sf_n _ _ (by decide)]; exact f13) (by rw [e2, jm_sf_n _ _ (by decide), jm_sf_s]) ?_⟩
    have o2m : ∀ i, i ≠ 11 → i ≠ 14 → i ≠ 15 → M2 i = M1 i := fun i a b c => by rw [e2, jm_sf_n _ _ a, jm_sf_n _ _ b, jm_sf_n _ _ c]
    intro r hr8
    rw [o2m 6 (by decide) (by decide) (by decide), o2m 5 (by decide) (by decide) (by decide), o2m (24 + r) (by omega) (by omega) (by omega), fr 6 (by decide) (by omega), fr 5 (by decide) (by omega)]
    refine ⟨h40 r hr8, ?_⟩
    rcases (hW r hr8).2 with ⟨a, b⟩ | ⟨a, b, c, d⟩
    · exact Or.inl ⟨a, b⟩
    · refine Or.inr ⟨a, b, c, fun y hy => ?_⟩
      by_cases z : r = v
      · subst z
        rw [← hM, jm_sf_n _ _ (by omega), jm_sf_s]
        have du := ((hW u hu).2.resolve_left (fun z => c2 (Or.inl z.2))).2.2.2
        unfold va_cpy
        by_cases q : jj ≤ y ∧ y < jj + xx
        · rw [if_pos q, if_pos (by omega), du _ (by omega)]
          exact congrArg it (by omega)
        · rw [if_neg q, if_neg (by omega)]; exact d y hy
      · rw [fr _ (by omega) (by omega), d y hy]
        unfold va_cpy
        rw [if_neg (by omega)]
  · rw [hc] at q
    obtain ⟨ho, e1⟩ := q
    have hr := c_copy M1 mn (by rw [e1]; exact hGR.2.2.1.2.1) h40 a i b j x
    rw [show M1 12 = ln by rw [e1]; exact hGR.2.2.1.1, hc] at hr
    refine ⟨_, ho, jm_wk hr (fun o2 M2 q2 => ?_)⟩
    obtain ⟨ho2, e2⟩ := q2
    subst e1
    subst e2
    exact ⟨ho2, w, pf, n, im, kp, ln, mn, it, tn, t, L, GX_st _ hX⟩
  · rw [hc] at q
    obtain ⟨ho, e1⟩ := q
    have hr := c_copy M1 mn (by rw [e1]; exact hGR.2.2.1.2.1) h40 a i b j x
    rw [show M1 12 = ln by rw [e1]; exact hGR.2.2.1.1, hc] at hr
    refine ⟨_, ho, jm_wk hr (fun o2 M2 q2 => ?_)⟩
    obtain ⟨ho2, e2⟩ := q2
    subst e1
    subst e2
    exact ⟨ho2, w, pf, n, im, kp, ln, mn, it, tn, t, L, GX_st _ hX⟩
  · rw [hc] at q
    obtain ⟨ho, e1⟩ := q
    have hr := c_copy M1 mn (by rw [e1]; exact hGR.2.2.1.2.1) h40 a i b j x
    rw [show M1 12 = ln by rw [e1]; exact hGR.2.2.1.1, hc] at hr
    refine ⟨_, ho, jm_wk hr (fun o2 M2 q2 => ?_)⟩
    obtain ⟨ho2, e2⟩ := q2
    subst e1
    subst e2
    exact ⟨ho2, w, pf, n, im, kp, ln, mn, it, tn, t, L, GX_st _ hX⟩
  · rw [hc] at q
    obtain ⟨ho, e1⟩ := q
    subst e1
    have hr := c_copy M1 mn hGR.2.2.1.2.1 h40 a i b j x
    rw [hGR.2.2.1.1, hc] at hr
    refine ⟨_, ho, jm_wk hr (fun o2 M2 q2 => ?_)⟩
    obtain ⟨ho2, e2⟩ := q2
    subst e2
    exact ⟨ho2, w, pf, n, im, kp, ln, mn, it, tn, t, L, hX⟩
