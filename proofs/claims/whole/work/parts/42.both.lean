/-! what holds of both sides between two calls -/
def GP (w pf : Nat → Nat) (n : Nat) : Prop := rG w ∧ w 4 ≤ 9999 ∧ n ≤ 24 ∧ ∀ r, r < n → rG (p_row pf r) ∧ p_row pf r 4 ≤ 9999
def GV (im : Nat → Nat) (kp : Nat → Bool) (tn : Nat) (t : Nat → Nat) (L : List Nat) : Prop := (∀ k, k < 2 → kp k = true → (rG (p_row im k) ∧ p_row im k 4 ≤ 9999) ∧ 0 < p_row im k 2) ∧ tn ≤ 110 ∧ (∀ i, t i ≤ 255) ∧ L.length ≤ 16
def GR1 (M : jm_M) (w pf : Nat → Nat) (n : Nat) : Prop := M 17 = jm_n w ∧ M 20 = jm_n pf ∧ M 11 17 = nI n
def GR2 (M : jm_M) (im : Nat → Nat) (kp : Nat → Bool) : Prop := M 21 = jm_n im ∧ ∀ k, k < 2 → M 22 k = jm_b (kp k = true)
def GR3 (M : jm_M) (ln : Nat → Int32) (mn : Nat → Nat) (it : Nat → Int32) : Prop := M 12 = ln ∧ (∀ r, r < 8 → M 13 r = nI (mn r)) ∧ M 14 = it
def GR4 (M : jm_M) (tn : Nat) (t : Nat → Nat) : Prop := M 11 6 = nI tn ∧ ∀ i, i < tn → M 16 i = nI (t i)
def GR5 (M : jm_M) (L : List Nat) : Prop := jm_tr 11 23 21 M L
def GR6 (M : jm_M) : Prop := (∃ g : Nat → Nat, (∀ j, 45 ≤ j → g j = 0) ∧ M 19 = jm_n g) ∧ ∃ g : Nat → Nat, (∀ j, 45 ≤ j → g j = 0) ∧ M 18 = jm_n g
def GR (M : jm_M) (w pf : Nat → Nat) (n : Nat) (im : Nat → Nat) (kp : Nat → Bool) (ln : Nat → Int32) (mn : Nat → Nat) (it : Nat → Int32) (tn : Nat) (t : Nat → Nat) (L : List Nat) : Prop := GR1 M w pf n ∧ GR2 M im kp ∧ GR3 M ln mn it ∧ GR4 M tn t ∧ GR5 M L ∧ GR6 M
def GK4 (M : jm_M) (tn : Nat) (t : Nat → Nat) : Prop := (∀ i, i < tn → M 7 i = nI (t i)) ∧ M 2 1 = nI tn
def GK (M : jm_M) (w pf : Nat → Nat) (n : Nat) (im : Nat → Nat) (kp : Nat → Bool) (ln : Nat → Int32) (mn : Nat → Nat) (it : Nat → Int32) (tn : Nat) (t : Nat → Nat) (L : List Nat) : Prop := CA M w pf n ∧ CI M im kp ∧ RW M ln mn it ∧ GK4 M tn t ∧ jm_tr 3 8 1 M L
def GS (M : jm_M) : Prop := M 0 9 = M 11 4 ∧ M 2 3 = M 11 7
def GX (M : jm_M) (w pf : Nat → Nat) (n : Nat) (im : Nat → Nat) (kp : Nat → Bool) (ln : Nat → Int32) (mn : Nat → Nat) (it : Nat → Int32) (tn : Nat) (t : Nat → Nat) (L : List Nat) : Prop := GP w pf n ∧ GV im kp tn t L ∧ GR M w pf n im kp ln mn it tn t L ∧ GK M w pf n im kp ln mn it tn t L ∧ GS M
def GI (M : jm_M) : Prop := ∃ (w pf : Nat → Nat) (n : Nat) (im : Nat → Nat) (kp : Nat → Bool) (ln : Nat → Int32) (mn : Nat → Nat) (it : Nat → Int32) (tn : Nat) (t : Nat → Nat) (L : List Nat), GX M w pf n im kp ln mn it tn t L
def NE (M : jm_M) (Yc Yr : jm_Y) (ac ar : jm_Ls) : Prop := jm_J none Yc 0 ac [] M (fun o M1 => ∃ v, o = some (.int v) ∧ jm_J none Yr 0 ar [] M1 (fun o2 M2 => o2 = some (.int v) ∧ GI M2))
theorem GR_f {M M1 : jm_M} (h : ∀ i, 11 ≤ i → i ≤ 23 → M1 i = M i) {w pf : Nat → Nat} {n : Nat} {im : Nat → Nat} {kp : Nat → Bool} {ln : Nat → Int32} {mn : Nat → Nat} {it : Nat → Int32} {tn : Nat} {t : Nat → Nat} {L : List Nat} (g : GR M w pf n im kp ln mn it tn t L) : GR M1 w pf n im kp ln mn it tn t L := by
  obtain ⟨⟨a1, a2, a3⟩, ⟨b1, b2⟩, ⟨c1, c2, c3⟩, ⟨d1, d2⟩, ⟨e1, e2⟩, ⟨f1, f2⟩⟩ := g
  refine ⟨⟨?_, ?_, ?_⟩, ⟨?_, ?_⟩, ⟨?_, ?_, ?_⟩, ⟨?_, ?_⟩, ⟨?_, ?_⟩, ⟨?_, ?_⟩⟩
  · rw [h _ (by decide) (by decide)]; exact a1
  · rw [h _ (by decide) (by decide)]; exact a2
  · rw [h _ (by decide) (by decide)]; exact a3
  · rw [h _ (by decide) (by decide)]; exact b1
  · rw [h _ (by decide) (by decide)]; exact b2
  · rw [h _ (by decide) (by decide)]; exact c1
  · rw [h _ (by decide) (by decide)]; exact c2
  · rw [h _ (by decide) (by decide)]; exact c3
  · rw [h _ (by decide) (by decide)]; exact d1
  · rw [h _ (by decide) (by decide)]; exact d2
  · rw [h _ (by decide) (by decide)]; exact e1
  · rw [h _ (by decide) (by decide)]; exact e2
  · rw [h _ (by decide) (by decide)]; exact f1
  · rw [h _ (by decide) (by decide)]; exact f2
theorem RW_f {M M1 : jm_M} {ln : Nat → Int32} {mn : Nat → Nat} {it : Nat → Int32} (h : RW M ln mn it) (h5 : M1 5 = M 5) (h6 : M1 6 = M 6) (hi : ∀ r, r < 8 → M1 (24 + r) = M (24 + r)) : RW M1 ln mn it := fun r hr => by
  rw [h5, h6, hi r hr]; exact h r hr
theorem GK_f {M M1 : jm_M} (h0 : M1 0 7 = M 0 7 ∧ M1 0 8 = M 0 8) (h2 : M1 2 1 = M 2 1) (h : ∀ i, i ≠ 0 → i ≠ 2 → ¬ (11 ≤ i ∧ i ≤ 23) → ¬ (36 ≤ i ∧ i < 40) → M1 i = M i) {w pf : Nat → Nat} {n : Nat} {im : Nat → Nat} {kp : Nat → Bool} {ln : Nat → Int32} {mn : Nat → Nat} {it : Nat → Int32} {tn : Nat} {t : Nat → Nat} {L : List Nat} (g : GK M w pf n im kp ln mn it tn t L) : GK M1 w pf n im kp ln mn it tn t L := by
  obtain ⟨a, b, c, ⟨d1, d2⟩, e1, e2⟩ := g
  refine ⟨CA_f a h0 (fun i x y z => h i (by omega) (by omega) (by omega) z), CI_f b (fun i x y => h i (by omega) (by omega) (by omega) (by omega)), RW_f c (h _ (by decide) (by decide) (by omega) (by omega)) (h _ (by decide) (by decide) (by omega) (by omega)) (fun r hr => h _ (by omega) (by omega) (by omega) (by omega)), ⟨?_, ?_⟩, ⟨?_, ?_⟩⟩
  · rw [h 7 (by decide) (by decide) (by omega) (by omega)]; exact d1
  · rw [h2]; exact d2
  · rw [h 3 (by decide) (by decide) (by omega) (by omega)]; exact e1
  · rw [h 8 (by decide) (by decide) (by omega) (by omega)]; exact e2
theorem GK_r {M M1 : jm_M} (h : ∀ i, ¬ (11 ≤ i ∧ i ≤ 23) → ¬ (36 ≤ i ∧ i < 40) → M1 i = M i) {w pf : Nat → Nat} {n : Nat} {im : Nat → Nat} {kp : Nat → Bool} {ln : Nat → Int32} {mn : Nat → Nat} {it : Nat → Int32} {tn : Nat} {t : Nat → Nat} {L : List Nat} (g : GK M w pf n im kp ln mn it tn t L) : GK M1 w pf n im kp ln mn it tn t L := GK_f ⟨by rw [h 0 (by omega) (by omega)], by rw [h 0 (by omega) (by omega)]⟩ (by rw [h 2 (by omega) (by omega)]) (fun i _ _ a b => h i a b) g
theorem GS_c {M M1 : jm_M} (g : GS M) (h0 : M1 0 9 = M 0 9) (h2 : M1 2 3 = M 2 3) (h11 : M1 11 4 = M 11 4 ∧ M1 11 7 = M 11 7) : GS M1 := ⟨by rw [h0, h11.1]; exact g.1, by rw [h2, h11.2]; exact g.2⟩
theorem RF_c {M M1 : jm_M} (h : RF 1 M M1) : (∀ i, 11 ≤ i → i ≤ 23 → M1 i = M i) ∧ (∀ i, ¬ (11 ≤ i ∧ i ≤ 23) → ¬ (36 ≤ i ∧ i < 40) → M1 i = M i) := ⟨fun i a b => h i (by omega), fun i a b => h i (by omega)⟩
/-- a class's step that changes only the river that is tried -/
theorem GX_t {M M1 : jm_M} (hF : RF 1 M M1) {w pf : Nat → Nat} {n : Nat} {im : Nat → Nat} {kp : Nat → Bool} {ln : Nat → Int32} {mn : Nat → Nat} {it : Nat → Int32} {tn : Nat} {t : Nat → Nat} {L : List Nat} (g : GX M w pf n im kp ln mn it tn t L) : GX M1 w pf n im kp ln mn it tn t L := by
  obtain ⟨g1, g2, g3, g4, g5⟩ := g
  have h := RF_c hF
  exact ⟨g1, g2, GR_f h.1 g3, GK_r h.2 g4, GS_c g5 (by rw [hF 0 (by omega)]) (by rw [hF 2 (by omega)]) ⟨by rw [hF 11 (by omega)], by rw [hF 11 (by omega)]⟩⟩
/-- a reference's step that changes only what it tries -/
theorem GX_q {M : jm_M} {g' : Nat → Nat} (hz : ∀ j, 45 ≤ j → g' j = 0) {w pf : Nat → Nat} {n : Nat} {im : Nat → Nat} {kp : Nat → Bool} {ln : Nat → Int32} {mn : Nat → Nat} {it : Nat → Int32} {tn : Nat} {t : Nat → Nat} {L : List Nat} (g : GX M w pf n im kp ln mn it tn t L) : GX (jm_sf M 19 (jm_n g')) w pf n im kp ln mn it tn t L := by
  obtain ⟨g1, g2, ⟨a, b, c, d, e, f1, f2⟩, g4, g5⟩ := g
  exact ⟨g1, g2, ⟨a, b, c, d, e, ⟨g', hz, rfl⟩, f2⟩, GK_r (fun i h _ => jm_sf_n _ _ (by omega)) g4, g5⟩
theorem NE_q {M : jm_M} {Yc Yr : jm_Y} {ac ar : jm_Ls} {r : Int32} {w pf : Nat → Nat} {n : Nat} {im : Nat → Nat} {kp : Nat → Bool} {ln : Nat → Int32} {mn : Nat → Nat} {it : Nat → Int32} {tn : Nat} {t : Nat → Nat} {L : List Nat} (hX : GX M w pf n im kp ln mn it tn t L) (hc : jm_J none Yc 0 ac [] M (jm_t M r)) (hr : ∀ (M0 : jm_M) (g : Nat → Nat), M0 17 = jm_n w → (∀ j, 45 ≤ j → g j = 0) → jm_J none Yr 0 ar [] (jm_sf M0 19 (jm_n g)) (jm_q M0 r)) : NE M Yc Yr ac ar := by
  refine jm_wk hc (fun o M1 q => ?_)
  obtain ⟨ho, hF⟩ := q
  have hX1 := GX_t hF hX
  refine ⟨r, ho, ?_⟩
  obtain ⟨g, hz, e19⟩ := hX1.2.2.1.2.2.2.2.2.1
  have h := hr M1 g hX1.2.2.1.1.1 hz
  rw [jm_sfid e19] at h
  refine jm_wk h (fun o2 M2 q2 => ?_)
  obtain ⟨h1, g', hz', e2⟩ := q2
  subst e2
  exact ⟨h1, w, pf, n, im, kp, ln, mn, it, tn, t, L, GX_q hz' hX1⟩
theorem NE_p {M : jm_M} {Yc Yr : jm_Y} {ac ar : jm_Ls} {r : Int32} {w pf : Nat → Nat} {n : Nat} {im : Nat → Nat} {kp : Nat → Bool} {ln : Nat → Int32} {mn : Nat → Nat} {it : Nat → Int32} {tn : Nat} {t : Nat → Nat} {L : List Nat} (hX : GX M w pf n im kp ln mn it tn t L) (hc : jm_J none Yc 0 ac [] M (jm_is (some (.int r)) M)) (hr : jm_J none Yr 0 ar [] M (jm_is (some (.int r)) M)) : NE M Yc Yr ac ar := by
  refine jm_wk hc (fun o M1 q => ?_)
  obtain ⟨rfl, rfl⟩ := q
  refine ⟨r, rfl, jm_wk hr (fun o2 M2 q2 => ?_)⟩
  obtain ⟨rfl, rfl⟩ := q2
  exact ⟨rfl, w, pf, n, im, kp, ln, mn, it, tn, t, L, hX⟩
theorem st_word {M : jm_M} (hI : GI M) (v a : Int32) : NE M YX5_word YX6_word [some (.ref 0), some (.int v), some (.int a), none] [some (.ref 11), some (.int v), some (.int a)] := by
  obtain ⟨w, pf, n, im, kp, ln, mn, it, tn, t, L, hX⟩ := hI
  obtain ⟨⟨hg, hm, hn, hpr⟩, ⟨him, htn, ht, hL⟩, hGR, hGK, hGS⟩ := id hX
  have hCA := hGK.1
  have hR := hCA.1
  exact NE_q hX (w_word w M hR hg hm v a) (fun M0 g h17 hz => c_word w g M0 h17 hg hz hm v a)
theorem st_cell {M : jm_M} (hI : GI M) (v a : Int32) : NE M YX5_cell YX6_cell [some (.ref 0), some (.int v), some (.int a)] [some (.ref 11), some (.int v), some (.int a)] := by
  obtain ⟨w, pf, n, im, kp, ln, mn, it, tn, t, L, hX⟩ := hI
  obtain ⟨⟨hg, hm, hn, hpr⟩, ⟨him, htn, ht, hL⟩, hGR, hGK, hGS⟩ := id hX
  have hCA := hGK.1
  have hR := hCA.1
  exact NE_q hX (w_cell w M hR hg hm v a) (fun M0 g h17 hz => c_cell w g M0 h17 hg hz hm v a)
theorem st_ahead {M : jm_M} (hI : GI M) (v d a : Int32) : NE M YX5_ahead YX6_ahead [some (.ref 0), some (.int v), some (.int d), some (.int a), none] [some (.ref 11), some (.int v), some (.int d), some (.int a)] := by
  obtain ⟨w, pf, n, im, kp, ln, mn, it, tn, t, L, hX⟩ := hI
  obtain ⟨⟨hg, hm, hn, hpr⟩, ⟨him, htn, ht, hL⟩, hGR, hGK, hGS⟩ := id hX
  have hCA := hGK.1
  have hR := hCA.1
  exact NE_q hX (w_ahead w M hR hg hm v d a) (fun M0 g h17 hz => c_ahead w g M0 h17 hg hz hm v d a)
theorem st_quarrel {M : jm_M} (hI : GI M) (d : Int32) : NE M YX5_quarrel YX6_quarrel [some (.ref 0), some (.int d)] [some (.ref 11), some (.int d)] := by
  obtain ⟨w, pf, n, im, kp, ln, mn, it, tn, t, L, hX⟩ := hI
  obtain ⟨⟨hg, hm, hn, hpr⟩, ⟨him, htn, ht, hL⟩, hGR, hGK, hGS⟩ := id hX
  have hCA := hGK.1
  have hR := hCA.1
  exact NE_q hX (w_quarrel w M hR hg hm d) (fun M0 g h17 hz => c_quarrel w g M0 h17 hg hz hm d)
theorem st_over {M : jm_M} (hI : GI M) (v : Int32) : NE M YX5_over YX6_over [some (.ref 0), some (.int v)] [some (.ref 11), some (.int v), none] := by
  obtain ⟨w, pf, n, im, kp, ln, mn, it, tn, t, L, hX⟩ := hI
  obtain ⟨⟨hg, hm, hn, hpr⟩, ⟨him, htn, ht, hL⟩, hGR, hGK, hGS⟩ := id hX
  have hCA := hGK.1
  have hR := hCA.1
  exact NE_q hX (w_over w M hR hg hm v) (fun M0 g h17 hz => c_over w g M0 h17 hg hz hm v)
theorem st_kept {M : jm_M} (hI : GI M) : NE M YX5_kept YX6_kept [some (.ref 0), none, none] [some (.ref 11)] := by
  obtain ⟨w, pf, n, im, kp, ln, mn, it, tn, t, L, hX⟩ := hI
  obtain ⟨⟨hg, hm, hn, hpr⟩, ⟨him, htn, ht, hL⟩, hGR, hGK, hGS⟩ := id hX
  have hCA := hGK.1
  have hR := hCA.1
  exact NE_q hX (w_kept w M hR hg hm ) (fun M0 g h17 hz => c_kept w g M0 h17 hg hz hm )
theorem st_calm {M : jm_M} (hI : GI M) (x a : Int32) : NE M YX5_calm YX6_calm [some (.ref 0), some (.int x), some (.int a), none, none, none, none] [some (.ref 11), some (.int x), some (.int a), none, none, none, none] := by
  obtain ⟨w, pf, n, im, kp, ln, mn, it, tn, t, L, hX⟩ := hI
  obtain ⟨⟨hg, hm, hn, hpr⟩, ⟨him, htn, ht, hL⟩, hGR, hGK, hGS⟩ := id hX
  have hCA := hGK.1
  have hR := hCA.1
  exact NE_q hX (w_calm w M hR hg hm x a) (fun M0 g h17 hz => c_calm w g M0 h17 hg hz hm x a)
theorem st_swift {M : jm_M} (hI : GI M) (x a : Int32) : NE M YX5_swift YX6_swift [some (.ref 0), some (.int x), some (.int a), none] [some (.ref 11), some (.int x), some (.int a), none, none, none, none] := by
  obtain ⟨w, pf, n, im, kp, ln, mn, it, tn, t, L, hX⟩ := hI
  obtain ⟨⟨hg, hm, hn, hpr⟩, ⟨him, htn, ht, hL⟩, hGR, hGK, hGS⟩ := id hX
  have hCA := hGK.1
  have hR := hCA.1
  exact NE_q hX (w_swift w M hR hg hm x a) (fun M0 g h17 hz => c_swift w g M0 h17 hg hz hm x a)
theorem st_stir {M : jm_M} (hI : GI M) (v c x : Int32) : NE M YX5_stir YX6_stir [some (.ref 0), some (.int v), some (.int c), some (.int x), none] [some (.ref 11), some (.int v), some (.int c), some (.int x), none] := by
  obtain ⟨w, pf, n, im, kp, ln, mn, it, tn, t, L, hX⟩ := hI
  obtain ⟨⟨hg, hm, hn, hpr⟩, ⟨him, htn, ht, hL⟩, hGR, hGK, hGS⟩ := id hX
  have hCA := hGK.1
  have hR := hCA.1
  exact NE_q hX (w_stir w M hR hg hm v c x) (fun M0 g h17 hz => c_stir w g M0 h17 hg hz hm v c x)
theorem st_share {M : jm_M} (hI : GI M) (v x : Int32) : NE M YX5_share YX6_share [some (.ref 0), some (.int v), some (.int x), none, none, none, none] [some (.ref 11), some (.int v), some (.int x), none, none, none, none, none] := by
  obtain ⟨w, pf, n, im, kp, ln, mn, it, tn, t, L, hX⟩ := hI
  obtain ⟨⟨hg, hm, hn, hpr⟩, ⟨him, htn, ht, hL⟩, hGR, hGK, hGS⟩ := id hX
  have hCA := hGK.1
  have hR := hCA.1
  exact NE_q hX (w_share w M hR hg hm v x) (fun M0 g h17 hz => c_share w g M0 h17 hg hz hm v x)
theorem st_chance {M : jm_M} (hI : GI M) (v x c a : Int32) : NE M YX5_chance YX6_chance [some (.ref 0), some (.int v), some (.int x), some (.int c), some (.int a), none, none, none] [some (.ref 11), some (.int v), some (.int x), some (.int c), some (.int a), none, none, none, none, none] := by
  obtain ⟨w, pf, n, im, kp, ln, mn, it, tn, t, L, hX⟩ := hI
  obtain ⟨⟨hg, hm, hn, hpr⟩, ⟨him, htn, ht, hL⟩, hGR, hGK, hGS⟩ := id hX
  have hCA := hGK.1
  have hR := hCA.1
  exact NE_q hX (w_chance w M hR hg hm v x c a) (fun M0 g h17 hz => c_chance w g M0 h17 hg hz hm v x c a)
theorem st_drawn {M : jm_M} (hI : GI M) (x sd a : Int32) : NE M YX5_drawn YX6_drawn [some (.ref 0), some (.int x), some (.int sd), some (.int a), none, none, none, none] [some (.ref 11), some (.int x), some (.int sd), some (.int a), none, none, none, none, none] := by
  obtain ⟨w, pf, n, im, kp, ln, mn, it, tn, t, L, hX⟩ := hI
  obtain ⟨⟨hg, hm, hn, hpr⟩, ⟨him, htn, ht, hL⟩, hGR, hGK, hGS⟩ := id hX
  have hCA := hGK.1
  have hR := hCA.1
  exact NE_q hX (w_drawn w M hR hg hm x sd a) (fun M0 g h17 hz => c_drawn w g M0 h17 hg hz hm x sd a)
theorem GX_17 {M : jm_M} {w pf : Nat → Nat} {n : Nat} {im : Nat → Nat} {kp : Nat → Bool} {ln : Nat → Int32} {mn : Nat → Nat} {it : Nat → Int32} {tn : Nat} {t : Nat → Nat} {L : List Nat} (hX : GX M w pf n im kp ln mn it tn t L) : M 17 = jm_n w := hX.2.2.1.1.1
theorem st_kind {M : jm_M} (hI : GI M) (v : Int32) : NE M YX5_kind YX6_kind [some (.ref 0), some (.int v)] [some (.ref 11), some (.int v)] := by
  obtain ⟨w, pf, n, im, kp, ln, mn, it, tn, t, L, hX⟩ := hI
  obtain ⟨⟨hg, hm, hn, hpr⟩, ⟨him, htn, ht, hL⟩, hGR, hGK, hGS⟩ := id hX
  have hCA := hGK.1
  have hR := hCA.1
  refine jm_wk (w_kind w M hR hg hm v) (fun o M1 q => ?_)
  obtain ⟨ho, hF⟩ := q
  have hX1 := GX_t hF hX
  refine ⟨_, ho, jm_wk (c_kind w M1 (GX_17 hX1) hg v) (fun o2 M2 q2 => ?_)⟩
  obtain ⟨rfl, rfl⟩ := q2
  exact ⟨rfl, w, pf, n, im, kp, ln, mn, it, tn, t, L, hX1⟩
theorem st_trace {M : jm_M} (hI : GI M) (v : Int32) : NE M YX5_trace YX6_trace [some (.ref 0), some (.int v)] [some (.ref 11), some (.int v)] := by
  obtain ⟨w, pf, n, im, kp, ln, mn, it, tn, t, L, hX⟩ := hI
  obtain ⟨⟨hg, hm, hn, hpr⟩, ⟨him, htn, ht, hL⟩, hGR, hGK, hGS⟩ := id hX
  have hCA := hGK.1
  have hR := hCA.1
  exact NE_p hX (w_trace L hL v M hGK.2.2.2.2) (c_trace M L hGR.2.2.2.2.1 hL v)
theorem st_status {M : jm_M} (hI : GI M) : NE M YX5_status YX6_status [some (.ref 0)] [some (.ref 11)] := by
  obtain ⟨w, pf, n, im, kp, ln, mn, it, tn, t, L, hX⟩ := hI
  obtain ⟨⟨hg, hm, hn, hpr⟩, ⟨him, htn, ht, hL⟩, hGR, hGK, hGS⟩ := id hX
  have hCA := hGK.1
  have hR := hCA.1
  have hc := w_status M
  rw [hGS.1] at hc
  exact NE_p hX hc (c_status M)
theorem st_fault {M : jm_M} (hI : GI M) : NE M YX5_fault YX6_fault [some (.ref 0)] [some (.ref 11)] := by
  obtain ⟨w, pf, n, im, kp, ln, mn, it, tn, t, L, hX⟩ := hI
  obtain ⟨⟨hg, hm, hn, hpr⟩, ⟨him, htn, ht, hL⟩, hGR, hGK, hGS⟩ := id hX
  have hCA := hGK.1
  have hR := hCA.1
  have hc := w_fault M
  rw [hGS.2] at hc
  exact NE_p hX hc (c_fault M)
theorem st_count {M : jm_M} (hI : GI M) (v : Int32) : NE M YX5_count YX6_count [some (.ref 0), some (.int v)] [some (.ref 11), some (.int v), none, none] := by
  obtain ⟨w, pf, n, im, kp, ln, mn, it, tn, t, L, hX⟩ := hI
  obtain ⟨⟨hg, hm, hn, hpr⟩, ⟨him, htn, ht, hL⟩, hGR, hGK, hGS⟩ := id hX
  have hCA := hGK.1
  have hR := hCA.1
  have hW := hGK.2.2.1
  have h12 := hGR.2.2.1.1
  have hr := c_count w M (GX_17 hX) hg n tn hGR.1.2.2 hGR.2.2.2.1.1 v
  rw [h12] at hr
  exact NE_p hX (w_count w M hR hg hm ln (fun k => decide (ln k = -1000000)) (fun k hk => (RW_m hW hk).trans decide_eq_true_iff.symm) (fun k hk => decide_eq_true_iff) n tn hCA.2.1 hGK.2.2.2.1.2 v) hr
