/-! feed, river, ask, rows keep what holds of both sides -/
theorem GX_feed {M : jm_M} {x : Nat} {w pf : Nat → Nat} {n : Nat} {im : Nat → Nat} {kp : Nat → Bool} {ln : Nat → Int32} {mn : Nat → Nat} {it : Nat → Int32} {tn : Nat} {t : Nat → Nat} {L : List Nat} (g : GX M w pf n im kp ln mn it tn t L) (hx : x ≤ 255) (hl : tn < 110) : GX (jm_sf (jm_sf (jm_sf (jm_sf M 7 (upd (M 7) tn (nI x))) 2 (upd (M 2) 1 (nI (tn + 1)))) 16 (upd (M 16) tn (nI x))) 11 (upd (M 11) 6 (nI (tn + 1)))) w pf n im kp ln mn it (tn + 1) (wU t tn x) L := by
  obtain ⟨g1, ⟨v1, v2, v3, v4⟩, ⟨a, b, c, ⟨d1, d2⟩, e, f⟩, ⟨k1, k2, k3, ⟨k4, k4'⟩, k5⟩, g5, g6⟩ := g
  have u : ∀ (f : Nat → Int32), (∀ i, i < tn → f i = nI (t i)) → ∀ i, i < tn + 1 → upd f tn (nI x) i = nI (wU t tn x i) := fun f hf i hi => by
    by_cases z : i = tn
    · subst z; rw [upd_s, wU_s]
    · rw [upd_n _ _ z, wU_n _ _ z]; exact hf i (by omega)
  refine ⟨g1, ⟨v1, hl, fun i => ?_, v4⟩, ⟨a, b, c, ⟨rfl, u (M 16) d2⟩, e, f⟩, ⟨CA_f k1 ⟨rfl, rfl⟩ (fun i a b _ => by rw [jm_sf_n _ _ (by omega), jm_sf_n _ _ (by omega), jm_sf_n _ _ (by omega), jm_sf_n _ _ (by omega)]), CI_f k2 (fun i a b => by rw [jm_sf_n _ _ (by omega), jm_sf_n _ _ (by omega), jm_sf_n _ _ (by omega), jm_sf_n _ _ (by omega)]), RW_f k3 rfl rfl (fun r hr => by rw [jm_sf_n _ _ (by omega), jm_sf_n _ _ (by omega), jm_sf_n _ _ (by omega), jm_sf_n _ _ (by omega)]), ⟨u (M 7) k4, rfl⟩, k5⟩, g5, g6⟩
  by_cases z : i = tn
  · subst z; rw [wU_s]; exact hx
  · rw [wU_n _ _ z]; exact v3 i
theorem st_feed {M : jm_M} (hI : GI M) (v : Int32) : NE M YX5_feed YX6_feed [some (.ref 0), some (.int v)] [some (.ref 11), some (.int v)] := by
  obtain ⟨w, pf, n, im, kp, ln, mn, it, tn, t, L, hX⟩ := hI
  obtain ⟨⟨hg, hm, hn, hpr⟩, ⟨him, htn, ht, hL⟩, hGR, hGK, hGS⟩ := id hX
  have hCA := hGK.1
  have hR := hCA.1
  refine jm_wk (w_feed tn htn M hGK.2.2.2.1.2 v) (fun o M1 q => ?_)
  by_cases h1 : 0 ≤ v.toInt ∧ v.toInt ≤ 255
  · by_cases h2 : tn = 110
    · rw [if_pos h1, if_pos h2] at q
      obtain ⟨ho, e⟩ := q
      subst e
      refine ⟨_, ho, jm_wk (c_feed M1 tn hGR.2.2.2.1.1 htn v) (fun o2 M2 q2 => ?_)⟩
      rw [if_pos h1, if_pos h2] at q2
      obtain ⟨ho2, e2⟩ := q2
      subst e2
      exact ⟨ho2, w, pf, n, im, kp, ln, mn, it, tn, t, L, hX⟩
    · rw [if_pos h1, if_neg h2] at q
      obtain ⟨x, hx, ex, -, -⟩ := jm_ofL (v := v) (n := 256) (by omega) (by omega)
      obtain ⟨ho, e1⟩ := q
      subst e1
      refine ⟨_, ho, jm_wk (c_feed (jm_sf (jm_sf M 7 (upd (M 7) tn v)) 2 (upd (M 2) 1 (nI (tn + 1)))) tn hGR.2.2.2.1.1 htn v) (fun o2 M2 q2 => ?_)⟩
      rw [if_pos h1, if_neg h2] at q2
      obtain ⟨ho2, e2⟩ := q2
      subst e2 ex
      exact ⟨ho2, w, pf, n, im, kp, ln, mn, it, tn + 1, wU t tn x, L, GX_feed hX (by omega) (by omega)⟩
  · rw [if_neg h1] at q
    obtain ⟨ho, e⟩ := q
    subst e
    refine ⟨_, ho, jm_wk (c_feed M1 tn hGR.2.2.2.1.1 htn v) (fun o2 M2 q2 => ?_)⟩
    rw [if_neg h1] at q2
    obtain ⟨ho2, e2⟩ := q2
    subst e2
    exact ⟨ho2, w, pf, n, im, kp, ln, mn, it, tn, t, L, hX⟩
theorem a_szT_l (w : Nat → Nat) (k : Nat) : (a_szT w k).length ≤ 16 := by
  unfold a_szT
  (repeat' split) <;> decide
theorem a_mkT_l (w : Nat → Nat) (k : Nat) : (a_mkT w k).length ≤ 16 := by
  unfold a_mkT
  (repeat' split) <;> decide
theorem GX_ask {M M1 M2 : jm_M} {L' : List Nat} {w pf : Nat → Nat} {n : Nat} {im : Nat → Nat} {kp : Nat → Bool} {ln : Nat → Int32} {mn : Nat → Nat} {it : Nat → Int32} {tn : Nat} {t : Nat → Nat} {L : List Nat} (g : GX M w pf n im kp ln mn it tn t L) (hl : L'.length ≤ 16) (hT : jm_tr 3 8 1 M1 L') (hF : ∀ i, i ≠ 3 → i ≠ 8 → M1 i = M i) (hT2 : jm_tr 11 23 21 M2 L') (hF2 : jm_tf 11 23 21 M1 M2) : GX M2 w pf n im kp ln mn it tn t L' := by
  obtain ⟨g1, ⟨v1, v2, v3, v4⟩, ⟨a, b, c, d, e, f⟩, ⟨k1, k2, k3, k4, k5⟩, g5, g6⟩ := g
  have h : ∀ i, i ≠ 3 → i ≠ 8 → i ≠ 11 → i ≠ 23 → M2 i = M i := fun i a b c d => (hF2.1 i c d).trans (hF i a b)
  have h11 : ∀ j, j ≠ 21 → M2 11 j = M 11 j := fun j hj => by rw [hF2.2 j hj, hF 11 (by decide) (by decide)]
  refine ⟨g1, ⟨v1, v2, v3, hl⟩, ⟨?_, ?_, ?_, ?_, hT2, ?_⟩, ⟨CA_f k1 ⟨by rw [h 0 (by decide) (by decide) (by decide) (by decide)], by rw [h 0 (by decide) (by decide) (by decide) (by decide)]⟩ (fun i a b _ => h i (by omega) (by omega) (by omega) (by omega)), CI_f k2 (fun i a b => h i (by omega) (by omega) (by omega) (by omega)), RW_f k3 (h 5 (by decide) (by decide) (by decide) (by decide)) (h 6 (by decide) (by decide) (by decide) (by decide)) (fun r hr => h _ (by omega) (by omega) (by omega) (by omega)), ?_, ?_⟩, ?_, ?_⟩
  · unfold GR1 at a ⊢
    rw [h 17 (by decide) (by decide) (by decide) (by decide), h 20 (by decide) (by decide) (by decide) (by decide), h11 17 (by decide)]; exact a
  · unfold GR2 at b ⊢
    rw [h 21 (by decide) (by decide) (by decide) (by decide), h 22 (by decide) (by decide) (by decide) (by decide)]; exact b
  · unfold GR3 at c ⊢
    rw [h 12 (by decide) (by decide) (by decide) (by decide), h 13 (by decide) (by decide) (by decide) (by decide), h 14 (by decide) (by decide) (by decide) (by decide)]; exact c
  · unfold GR4 at d ⊢
    rw [h11 6 (by decide), h 16 (by decide) (by decide) (by decide) (by decide)]; exact d
  · unfold GR6 at f ⊢
    rw [h 19 (by decide) (by decide) (by decide) (by decide), h 18 (by decide) (by decide) (by decide) (by decide)]; exact f
  · unfold GK4 at k4 ⊢
    rw [h 7 (by decide) (by decide) (by decide) (by decide), h 2 (by decide) (by decide) (by decide) (by decide)]; exact k4
  · unfold jm_tr at hT ⊢
    rw [hF2.1 3 (by decide) (by decide), hF2.1 8 (by decide) (by decide)]; exact hT
  · rw [h 0 (by decide) (by decide) (by decide) (by decide), h11 4 (by decide)]; exact g5
  · rw [h 2 (by decide) (by decide) (by decide) (by decide), h11 7 (by decide)]; exact g6
theorem st_ask {M : jm_M} (hI : GI M) (v a : Int32) : NE M YX5_ask YX6_ask [some (.ref 0), some (.int v), some (.int a)] [some (.ref 11), some (.int v), some (.int a), none] := by
  obtain ⟨w, pf, n, im, kp, ln, mn, it, tn, t, L, hX⟩ := hI
  obtain ⟨⟨hg, hm, hn, hpr⟩, ⟨him, htn, ht, hL⟩, hGR, hGK, hGS⟩ := id hX
  have hCA := hGK.1
  have hR := hCA.1
  refine jm_wk (w_ask w M hR hg hm v a) (fun o M1 q => ?_)
  rcases Classical.em (q_ask w v a) with h | h
  · obtain ⟨ho, hT1, hF1⟩ := q.1 h
    refine ⟨_, ho, jm_wk (c_ask w M1 (by rw [hF1 17 (by decide) (by decide)]; exact hGR.1.1) hg v a) (fun o2 M2 q2 => ?_)⟩
    obtain ⟨ho2, hT2, hF2⟩ := q2.1 h
    exact ⟨ho2, w, pf, n, im, kp, ln, mn, it, tn, t, _, GX_ask hX (by split; exact a_szT_l _ _; exact a_mkT_l _ _) hT1 hF1 hT2 hF2⟩
  · obtain ⟨ho, e⟩ := q.2 h
    subst e
    refine ⟨_, ho, jm_wk (c_ask w M1 hGR.1.1 hg v a) (fun o2 M2 q2 => ?_)⟩
    obtain ⟨ho2, e2⟩ := q2.2 h
    subst e2
    exact ⟨ho2, w, pf, n, im, kp, ln, mn, it, tn, t, L, hX⟩
theorem PT_at {M : jm_M} {t : Nat → Nat} {n : Nat} {fk : Int32} {s : Nat × Nat} {j : Nat} (h : j < 7 ∨ 12 < j) : PT M t n fk s 11 j = M 11 j := by
  unfold PT PS
  rw [jm_sf_s]
  rw [if_neg (by omega), if_neg (by omega), if_neg (by omega), if_neg (by omega), if_neg (by omega), if_neg (by omega)]
theorem PT_o {M : jm_M} {t : Nat → Nat} {n : Nat} {fk : Int32} {s : Nat × Nat} {i : Nat} (h : i ≠ 11) : PT M t n fk s i = M i := PS_o h
theorem PT_7 {M : jm_M} {t : Nat → Nat} {n : Nat} {fk : Int32} {s : Nat × Nat} : PT M t n fk s 11 7 = if s.2 = 0 then fk else nI s.2 := rfl
/-- the world behind a reference's reading -/
def PZ (M : jm_M) (t : Nat → Nat) (n : Nat) (s : Nat × Nat) (g : Nat → Nat) : jm_M := PT (jm_sf (jm_sf M 18 (jm_n g)) 11 (upd (M 11) 6 (nI 0))) t n (M 11 7) s
theorem PZ_o {M : jm_M} {t : Nat → Nat} {n : Nat} {s : Nat × Nat} {g : Nat → Nat} {i : Nat} (h : i ≠ 11) (h2 : i ≠ 18) : PZ M t n s g i = M i := by
  unfold PZ
  rw [PT_o h, jm_sf_n _ _ h, jm_sf_n _ _ h2]
theorem PZ_18 {M : jm_M} {t : Nat → Nat} {n : Nat} {s : Nat × Nat} {g : Nat → Nat} : PZ M t n s g 18 = jm_n g := by
  unfold PZ
  rw [PT_o (by decide), jm_sf_n _ _ (by decide), jm_sf_s]
theorem PZ_6 {M : jm_M} {t : Nat → Nat} {n : Nat} {s : Nat × Nat} {g : Nat → Nat} : PZ M t n s g 11 6 = nI 0 := by
  unfold PZ
  rw [PT_at (by omega), jm_sf_s, upd_s]
theorem PZ_j {M : jm_M} {t : Nat → Nat} {n : Nat} {s : Nat × Nat} {g : Nat → Nat} {j : Nat} (h : j < 6 ∨ 12 < j) : PZ M t n s g 11 j = M 11 j := by
  unfold PZ
  rw [PT_at (by omega), jm_sf_s, upd_n _ _ (by omega)]
theorem PZ_7 {M : jm_M} {t : Nat → Nat} {n : Nat} {s : Nat × Nat} {g : Nat → Nat} : PZ M t n s g 11 7 = if s.2 = 0 then M 11 7 else nI s.2 := rfl
theorem GX_rv0 {M M1 : jm_M} {s : Nat × Nat} {g : Nat → Nat} {w pf : Nat → Nat} {n : Nat} {im : Nat → Nat} {kp : Nat → Bool} {ln : Nat → Int32} {mn : Nat → Nat} {it : Nat → Int32} {tn : Nat} {t : Nat → Nat} {L : List Nat} (hX : GX M w pf n im kp ln mn it tn t L) (hz : ∀ j, 45 ≤ j → g j = 0) (hs : ¬ s.2 = 0) (hF : ∀ i, i ≠ 2 → ¬ (36 ≤ i ∧ i < 40) → M1 i = M i) (h21 : M1 2 1 = nI 0) (h23 : M1 2 3 = nI s.2) : GX (PZ M1 t tn s g) w pf n im kp ln mn it 0 t L := by
  obtain ⟨g1, ⟨v1, v2, v3, v4⟩, ⟨⟨a1, a2, a3⟩, ⟨b1, b2⟩, ⟨c1, c2, c3⟩, d, ⟨e1, e2⟩, f1, f2⟩, ⟨k1, k2, k3, k4, k5, k5'⟩, g5, g6⟩ := hX
  have h : ∀ i, i ≠ 2 → i ≠ 11 → i ≠ 18 → ¬ (36 ≤ i ∧ i < 40) → PZ M1 t tn s g i = M i := fun i x y z u => (PZ_o y z).trans (hF i x u)
  have hj : ∀ j, j < 6 ∨ 12 < j → PZ M1 t tn s g 11 j = M 11 j := fun j hj => (PZ_j hj).trans (congrFun (hF 11 (by decide) (by omega)) j)
  refine ⟨g1, ⟨v1, by decide, v3, v4⟩, ⟨⟨?_, ?_, ?_⟩, ⟨?_, ?_⟩, ⟨?_, ?_, ?_⟩, ⟨PZ_6, fun i hi => absurd hi (Nat.not_lt_zero _)⟩, ⟨?_, ?_⟩, ?_, ⟨g, hz, PZ_18⟩⟩, ⟨CA_f k1 ⟨?_, ?_⟩ (fun i a b c => h i (by omega) (by omega) (by omega) c), CI_f k2 (fun i a b => h i (by omega) (by omega) (by omega) (by omega)), RW_f k3 ?_ ?_ (fun r hr => h _ (by omega) (by omega) (by omega) (by omega)), ⟨fun i hi => absurd hi (Nat.not_lt_zero _), ?_⟩, ?_, ?_⟩, ?_, ?_⟩
  · rw [h 17 (by decide) (by decide) (by decide) (by omega)]; exact a1
  · rw [h 20 (by decide) (by decide) (by decide) (by omega)]; exact a2
  · rw [hj 17 (by omega)]; exact a3
  · rw [h 21 (by decide) (by decide) (by decide) (by omega)]; exact b1
  · rw [h 22 (by decide) (by decide) (by decide) (by omega)]; exact b2
  · rw [h 12 (by decide) (by decide) (by decide) (by omega)]; exact c1
  · rw [h 13 (by decide) (by decide) (by decide) (by omega)]; exact c2
  · rw [h 14 (by decide) (by decide) (by decide) (by omega)]; exact c3
  · rw [hj 21 (by omega)]; exact e1
  · rw [h 23 (by decide) (by decide) (by decide) (by omega)]; exact e2
  · rw [h 19 (by decide) (by decide) (by decide) (by omega)]; exact f1
  · rw [h 0 (by decide) (by decide) (by decide) (by omega)]
  · rw [h 0 (by decide) (by decide) (by decide) (by omega)]
  · exact h 5 (by decide) (by decide) (by decide) (by omega)
  · exact h 6 (by decide) (by decide) (by decide) (by omega)
  · rw [PZ_o (by decide) (by decide)]; exact h21
  · rw [h 3 (by decide) (by decide) (by decide) (by omega)]; exact k5
  · rw [h 8 (by decide) (by decide) (by decide) (by omega)]; exact k5'
  · rw [h 0 (by decide) (by decide) (by decide) (by omega), hj 4 (by omega)]; exact g5
  · rw [PZ_7, if_neg hs, PZ_o (by decide) (by decide)]; exact h23
theorem GX_rv1 {M M1 : jm_M} {s : Nat × Nat} {g : Nat → Nat} {w pf : Nat → Nat} {n : Nat} {im : Nat → Nat} {kp : Nat → Bool} {ln : Nat → Int32} {mn : Nat → Nat} {it : Nat → Int32} {tn : Nat} {t : Nat → Nat} {L : List Nat} (hX : GX M w pf n im kp ln mn it tn t L) (hg : rG g) (h4 : g 4 ≤ 9999) (hs : s.2 = 0) (hC : CA M1 g pf 0) (hF : ∀ i, i ≠ 0 → i ≠ 2 → ¬ (32 ≤ i ∧ i < 40) → M1 i = M i) (h09 : M1 0 9 = M 0 9) (h21 : M1 2 1 = nI 0) (h23 : M1 2 3 = M 2 3) : GX (jm_sf (jm_sf (PZ M1 t tn s g) 17 (jm_n g)) 11 (upd (PZ M1 t tn s g 11) 17 (nI 0))) g pf 0 im kp ln mn it 0 t L := by
  obtain ⟨g1, ⟨v1, v2, v3, v4⟩, ⟨⟨a1, a2, a3⟩, ⟨b1, b2⟩, ⟨c1, c2, c3⟩, d, ⟨e1, e2⟩, f1, f2⟩, ⟨k1, k2, k3, k4, k5, k5'⟩, g5, g6⟩ := hX
  generalize hR : jm_sf (jm_sf (PZ M1 t tn s g) 17 (jm_n g)) 11 (upd (PZ M1 t tn s g 11) 17 (nI 0)) = R
  have ho : ∀ i, i ≠ 11 → i ≠ 17 → i ≠ 18 → R i = M1 i := fun i x y z => by rw [← hR, jm_sf_n _ _ x, jm_sf_n _ _ y, PZ_o x z]
  have h : ∀ i, i ≠ 0 → i ≠ 2 → i ≠ 11 → i ≠ 17 → i ≠ 18 → ¬ (32 ≤ i ∧ i < 40) → R i = M i := fun i p q x y z u => (ho i x y z).trans (hF i p q u)
  have hj : ∀ j, j < 6 ∨ 12 < j → j ≠ 17 → R 11 j = M 11 j := fun j hj h7 => by rw [← hR, jm_sf_s, upd_n _ _ h7, PZ_j hj, hF 11 (by decide) (by decide) (by omega)]
  refine ⟨⟨hg, h4, by decide, fun r hr => absurd hr (Nat.not_lt_zero _)⟩, ⟨v1, by decide, v3, v4⟩, ⟨⟨?_, ?_, ?_⟩, ⟨?_, ?_⟩, ⟨?_, ?_, ?_⟩, ⟨?_, fun i hi => absurd hi (Nat.not_lt_zero _)⟩, ⟨?_, ?_⟩, ?_, ⟨g, hg.z, ?_⟩⟩, ⟨CA_f hC ⟨?_, ?_⟩ (fun i a b c => ho i (by omega) (by omega) (by omega)), CI_f k2 (fun i a b => h i (by omega) (by omega) (by omega) (by omega) (by omega) (by omega)), RW_f k3 ?_ ?_ (fun r hr => h _ (by omega) (by omega) (by omega) (by omega) (by omega) (by omega)), ⟨fun i hi => absurd hi (Nat.not_lt_zero _), ?_⟩, ?_, ?_⟩, ?_, ?_⟩
  · rw [← hR, jm_sf_n _ _ (by decide), jm_sf_s]
  · rw [h 20 (by decide) (by decide) (by decide) (by decide) (by decide) (by omega)]; exact a2
  · rw [← hR, jm_sf_s, upd_s]
  · rw [h 21 (by decide) (by decide) (by decide) (by decide) (by decide) (by omega)]; exact b1
  · rw [h 22 (by decide) (by decide) (by decide) (by decide) (by decide) (by omega)]; exact b2
  · rw [h 12 (by decide) (by decide) (by decide) (by decide) (by decide) (by omega)]; exact c1
  · rw [h 13 (by decide) (by decide) (by decide) (by decide) (by decide) (by omega)]; exact c2
  · rw [h 14 (by decide) (by decide) (by decide) (by decide) (by decide) (by omega)]; exact c3
  · rw [← hR, jm_sf_s, upd_n _ _ (by decide)]; exact PZ_6
  · rw [hj 21 (by omega) (by decide)]; exact e1
  · rw [h 23 (by decide) (by decide) (by decide) (by decide) (by decide) (by omega)]; exact e2
  · rw [h 19 (by decide) (by decide) (by decide) (by decide) (by decide) (by omega)]; exact f1
  · rw [← hR, jm_sf_n _ _ (by decide), jm_sf_n _ _ (by decide)]; exact PZ_18
  · rw [ho 0 (by decide) (by decide) (by decide)]
  · rw [ho 0 (by decide) (by decide) (by decide)]
  · exact h 5 (by decide) (by decide) (by decide) (by decide) (by decide) (by omega)
  · exact h 6 (by decide) (by decide) (by decide) (by decide) (by decide) (by omega)
  · rw [ho 2 (by decide) (by decide) (by decide)]; exact h21
  · rw [h 3 (by decide) (by decide) (by decide) (by decide) (by decide) (by omega)]; exact k5
  · rw [h 8 (by decide) (by decide) (by decide) (by decide) (by decide) (by omega)]; exact k5'
  · rw [ho 0 (by decide) (by decide) (by decide), hj 4 (by omega) (by decide), h09]; exact g5
  · rw [ho 2 (by decide) (by decide) (by decide), h23, ← hR, jm_sf_s, upd_n _ _ (by decide), PZ_7, if_pos hs, hF 11 (by decide) (by decide) (by omega)]; exact g6
theorem st_river {M : jm_M} (hI : GI M) : NE M YX5_river YX6_river [some (.ref 0), none] [some (.ref 11), none] := by
  obtain ⟨w, pf, n, im, kp, ln, mn, it, tn, t, L, hX⟩ := hI
  obtain ⟨⟨hg, hm, hn, hpr⟩, ⟨him, htn, ht, hL⟩, hGR, hGK, hGS⟩ := id hX
  have hCA := hGK.1
  have hR := hCA.1
  have hT := t_readInto t tn M htn ht hGK.2.2.2.1.1 hGK.2.2.2.1.2
  have hR7 := (x_r7_R t tn).1
  have hr : ∀ M1 : jm_M, (∀ i, 11 ≤ i → i ≤ 23 → M1 i = M i) → jm_J none YX6_river 0 [some (.ref 11), none] [] M1 (fun o M3 => ∃ M2, M2 = PZ M1 t tn (x_r8 t tn) (x_r7 t tn).1 ∧ ((x_r8 t tn).2 = 0 → o = some (.int (nI ((x_r7 t tn).1 2))) ∧ M3 = jm_sf (jm_sf M2 17 (jm_n (x_r7 t tn).1)) 11 (upd (M2 11) 17 (nI 0))) ∧ (¬ (x_r8 t tn).2 = 0 → o = some (.int (-1000100 - nI (x_r8 t tn).1)) ∧ M3 = M2)) := fun M1 h1 => by
    have hX1 := GR_f h1 hGR
    obtain ⟨g0, hz0, e18⟩ := hX1.2.2.2.2.2.2
    exact c_river t tn M1 htn ht hX1.2.2.2.1.2 hX1.2.2.2.1.1 w g0 hX1.1.1 hg.z e18 hz0
  generalize x_r8 t tn = s8 at hT hr
  generalize (x_r7 t tn).1 = g7 at hT hr hR7
  refine jm_wk (w_river0 M s8 g7 hR7.1 hT pf) (fun o M1 q => ?_)
  rcases Classical.em (s8.2 = 0) with h | h
  · obtain ⟨ho, hC, hF, h09, h21, h23⟩ := q.1 h
    refine ⟨_, ho, jm_wk (hr M1 (fun i a b => hF i (by omega) (by omega) (by omega))) (fun o2 M3 q2 => ?_)⟩
    obtain ⟨M2, e2, q3, -⟩ := q2
    obtain ⟨ho2, e3⟩ := q3 h
    subst e2 e3
    exact ⟨ho2, g7, pf, 0, im, kp, ln, mn, it, 0, t, L, GX_rv1 hX hR7.1 (by rw [hR7.2.2]; decide) h hC hF h09 h21 h23⟩
  · obtain ⟨ho, hF, h21, h23⟩ := q.2 h
    refine ⟨_, ho, jm_wk (hr M1 (fun i a b => hF i (by omega) (by omega))) (fun o2 M3 q2 => ?_)⟩
    obtain ⟨M2, e2, -, q3⟩ := q2
    obtain ⟨ho2, e3⟩ := q3 h
    subst e2 e3
    exact ⟨ho2, w, pf, n, im, kp, ln, mn, it, 0, t, L, GX_rv0 hX hR7.1.z h hF h21 h23⟩
