/-! fields, arrays, calls -/
def jm_F (own : String) (idx ci k : Nat) : Prop := ∃ (C : String) (T : u_T) (N : Nat), classes[ci]? = some (C, T, N) ∧ k < N ∧ (T k).1 = C ∧ Cond.fieldLink own idx C (T k).2.1 (T k).2.2.1 ∈ jm_tb ∧ (∀ w ∈ u_ws C T N, w ∈ jm_tb)
/-- a field of ints that may be written -/
def jm_FW (own : String) (idx ci k : Nat) : Prop := ∃ (C : String) (T : u_T) (N : Nat) (ty0 : Nat → FieldType), classes[ci]? = some (C, T, N) ∧ k < N ∧ (T k).1 = C ∧ Cond.fieldLink own idx C (T k).2.1 (T k).2.2.1 ∈ jm_tb ∧ (∀ w ∈ u_ws C T N, w ∈ jm_tb) ∧ (T k).2.2.2 = false ∧ parseFieldDescriptor (T k).2.2.1 = some .int ∧ (∀ k, k < N → parseFieldDescriptor (T k).2.2.1 = some (ty0 k)) ∧ (∀ a, a < N → ∀ b, b < N → a ≠ b → (T a).2.1 ≠ (T b).2.1)
theorem jm_FW.F {own : String} {idx ci k : Nat} (h : jm_FW own idx ci k) : jm_F own idx ci k := by
  obtain ⟨C, T, N, ty0, h1, h2, h3, h4, h5, -⟩ := h
  exact ⟨C, T, N, h1, h2, h3, h4, h5⟩
theorem jm_getI {sc : jm_S} {Y : jm_Y} {pc : Nat} {ls : jm_Ls} {st : List Value} {M : jm_M} {Q : Option Value → jm_M → Prop} {idx ci k i n : Nat} (d : decode Y.2.1 pc = .ok (.getfield idx, 3)) (F : jm_F Y.1.cls idx ci k) (hob : jm_ob i = some (ci, n)) (hkn : k < n) (hr : jm_rf i k = none) (kk : jm_J sc Y (pc + 3) ls (.int (M i k) :: st) M Q) : jm_J sc Y pc ls (.ref i :: st) M Q := by
  intro p l e R s m args below meth c cells slots Z A D aC ad C hI hV H locs lsA hP hS hL hz
  obtain ⟨hx, hb, hml, hown, hts, hK, hij, hA, hR, hC, hsc⟩ := id C
  obtain ⟨Cn, T, N, f1, f2, f3, f4, f5⟩ := F
  exact va_get (D := D) (ci := ci) (v := .int (M i k)) (C := Cn) (T := T) (N := N) (ref := Cn) hx hb hts f5 hown hK hP i (by rw [jm_at (jm_ob_lt hob), jm_e_ob hob]) f1 k f2 (hts _ f4) (fun x h => by rw [f3] at h; exact h) (by rw [jm_fs_at hkn, hr]) d (kk p l e R s m args below meth c cells slots Z A D aC ad C hI hV H locs lsA hP hS hL hz)
theorem jm_getR {sc : jm_S} {Y : jm_Y} {pc : Nat} {ls : jm_Ls} {st : List Value} {M : jm_M} {Q : Option Value → jm_M → Prop} {idx ci k i n j : Nat} (d : decode Y.2.1 pc = .ok (.getfield idx, 3)) (F : jm_F Y.1.cls idx ci k) (hob : jm_ob i = some (ci, n)) (hkn : k < n) (hr : jm_rf i k = some j) (kk : jm_J sc Y (pc + 3) ls (.ref j :: st) M Q) : jm_J sc Y pc ls (.ref i :: st) M Q := by
  intro p l e R s m args below meth c cells slots Z A D aC ad C hI hV H locs lsA hP hS hL hz
  obtain ⟨hx, hb, hml, hown, hts, hK, hij, hA, hR, hC, hsc⟩ := id C
  obtain ⟨Cn, T, N, f1, f2, f3, f4, f5⟩ := F
  exact va_get (D := D) (ci := ci) (v := .ref (ad j)) (C := Cn) (T := T) (N := N) (ref := Cn) hx hb hts f5 hown hK hP i (by rw [jm_at (jm_ob_lt hob), jm_e_ob hob]) f1 k f2 (hts _ f4) (fun x h => by rw [f3] at h; exact h) (by rw [jm_fs_at hkn, hr]) d (kk p l e R s m args below meth c cells slots Z A D aC ad C hI hV H locs lsA hP hS hL hz)
theorem jm_put {sc : jm_S} {Y : jm_Y} {pc : Nat} {ls : jm_Ls} {st : List Value} {M : jm_M} {Q : Option Value → jm_M → Prop} {idx ci k i n : Nat} {v : Int32} (d : decode Y.2.1 pc = .ok (.putfield idx, 3)) (F : jm_FW Y.1.cls idx ci k) (hob : jm_ob i = some (ci, n)) (hkn : k < n) (hr : jm_rf i k = none) (kk : jm_J sc Y (pc + 3) ls st (jm_sf M i (upd (M i) k v)) Q) : jm_J sc Y pc ls (.int v :: .ref i :: st) M Q := by
  intro p l e R s m args below meth c cells slots Z A D aC ad C hI hV H locs lsA hP hS hL hz
  obtain ⟨hx, hb, hml, hown, hts, hK, hij, hA, hR, hC, hsc⟩ := id C
  obtain ⟨Cn, T, N, ty0, f1, f2, f3, f4, f5, f6, f7, f8, f9⟩ := F
  have hs : (jm_ws aC ad M).set i (ad i, .inr (ci, (jm_fs ad M i n).set k (.int v))) = jm_ws aC ad (jm_sf M i (upd (M i) k v)) := jm_set (jm_ob_lt hob) (by rw [jm_e_ob hob, jm_fs_set hkn hr])
  refine va_put (D := D) (ci := ci) (v := .int v) (ty := .int) (C := Cn) (T := T) (N := N) (ref := Cn) (fs := jm_fs ad M i n) hx hb hts f5 ty0 f8 f9 hown hK hP (jm_D hij hA) hS i (by rw [jm_at (jm_ob_lt hob), jm_e_ob hob]) f1 k f2 (hts _ f4) (fun x h => by rw [f3] at h; exact h) f6 f7 rfl rfl (by rw [jm_fs_len]; exact hkn) d (fun H1 locs1 hP1 hD1 hS1 => ?_)
  rw [hs] at hP1
  exact kk p l e R s m args below meth c cells slots Z A D aC ad C hI hV H1 locs1 lsA hP1 hS1 hL hz
theorem jm_iald {sc : jm_S} {Y : jm_Y} {pc : Nat} {ls : jm_Ls} {st : List Value} {M : jm_M} {Q : Option Value → jm_M → Prop} {i n : Nat} {x : Int32} (d : decode Y.2.1 pc = .ok (.iaload, 1)) (har : jm_ar i = some (0, n)) (hin : vp_in x n) (kk : jm_J sc Y (pc + 1) ls (.int (M i x.toNatClampNeg) :: st) M Q) : jm_J sc Y pc ls (.int x :: .ref i :: st) M Q := by
  intro p l e R s m args below meth c cells slots Z A D aC ad C hI hV H locs lsA hP hS hL hz
  obtain ⟨hx, hb, hml, hown, hts, hK, hij, hA, hR, hC, hsc⟩ := id C
  exact va_iald hx hb hK hP i 0 (by rw [jm_at (jm_ar_lt har), jm_e_ar har (by decide)]) rfl hin d (kk p l e R s m args below meth c cells slots Z A D aC ad C hI hV H locs lsA hP hS hL hz)
theorem jm_zald {sc : jm_S} {Y : jm_Y} {pc : Nat} {ls : jm_Ls} {st : List Value} {M : jm_M} {Q : Option Value → jm_M → Prop} {i n : Nat} {x : Int32} (d : decode Y.2.1 pc = .ok (.baload, 1)) (har : jm_ar i = some (1, n)) (hin : vp_in x n) (kk : jm_J sc Y (pc + 1) ls (.int (M i x.toNatClampNeg) :: st) M Q) : jm_J sc Y pc ls (.int x :: .ref i :: st) M Q := by
  intro p l e R s m args below meth c cells slots Z A D aC ad C hI hV H locs lsA hP hS hL hz
  obtain ⟨hx, hb, hml, hown, hts, hK, hij, hA, hR, hC, hsc⟩ := id C
  exact va_zald hx hb hK hP i 1 (by rw [jm_at (jm_ar_lt har), jm_e_ar har (by decide)]) rfl hin d (kk p l e R s m args below meth c cells slots Z A D aC ad C hI hV H locs lsA hP hS hL hz)
theorem jm_iast {sc : jm_S} {Y : jm_Y} {pc : Nat} {ls : jm_Ls} {st : List Value} {M : jm_M} {Q : Option Value → jm_M → Prop} {i n : Nat} {x v : Int32} (d : decode Y.2.1 pc = .ok (.iastore, 1)) (har : jm_ar i = some (0, n)) (hin : vp_in x n) (kk : jm_J sc Y (pc + 1) ls st (jm_sf M i (upd (M i) x.toNatClampNeg v)) Q) : jm_J sc Y pc ls (.int v :: .int x :: .ref i :: st) M Q := by
  intro p l e R s m args below meth c cells slots Z A D aC ad C hI hV H locs lsA hP hS hL hz
  obtain ⟨hx, hb, hml, hown, hts, hK, hij, hA, hR, hC, hsc⟩ := id C
  have hs : (jm_ws aC ad M).set i (ad i, .inl (aC 0, n, .inl (upd (M i) x.toNatClampNeg v))) = jm_ws aC ad (jm_sf M i (upd (M i) x.toNatClampNeg v)) := jm_set (jm_ar_lt har) (by rw [jm_e_ar har (by decide), jm_sf_s])
  refine va_iast hx hb hK hP (jm_D hij hA) hS i 0 (by rw [jm_at (jm_ar_lt har), jm_e_ar har (by decide)]) rfl hin d (fun H1 locs1 hP1 hD1 hS1 => ?_)
  rw [hs] at hP1
  exact kk p l e R s m args below meth c cells slots Z A D aC ad C hI hV H1 locs1 lsA hP1 hS1 hL hz
theorem jm_zast {sc : jm_S} {Y : jm_Y} {pc : Nat} {ls : jm_Ls} {st : List Value} {M : jm_M} {Q : Option Value → jm_M → Prop} {i n : Nat} {x v : Int32} (d : decode Y.2.1 pc = .ok (.bastore, 1)) (har : jm_ar i = some (1, n)) (hin : vp_in x n) (hv : vp_nar .boolean v = v) (kk : jm_J sc Y (pc + 1) ls st (jm_sf M i (upd (M i) x.toNatClampNeg v)) Q) : jm_J sc Y pc ls (.int v :: .int x :: .ref i :: st) M Q := by
  intro p l e R s m args below meth c cells slots Z A D aC ad C hI hV H locs lsA hP hS hL hz
  obtain ⟨hx, hb, hml, hown, hts, hK, hij, hA, hR, hC, hsc⟩ := id C
  have hs : (jm_ws aC ad M).set i (ad i, .inl (aC 1, n, .inl (upd (M i) x.toNatClampNeg (vp_nar .boolean v)))) = jm_ws aC ad (jm_sf M i (upd (M i) x.toNatClampNeg v)) := by rw [hv]; exact jm_set (jm_ar_lt har) (by rw [jm_e_ar har (by decide), jm_sf_s])
  refine va_zast hx hb hK hP (jm_D hij hA) hS i 1 (by rw [jm_at (jm_ar_lt har), jm_e_ar har (by decide)]) rfl hin d (fun H1 locs1 hP1 hD1 hS1 => ?_)
  rw [hs] at hP1
  exact kk p l e R s m args below meth c cells slots Z A D aC ad C hI hV H1 locs1 lsA hP1 hS1 hL hz
theorem jm_aald {sc : jm_S} {Y : jm_Y} {pc : Nat} {ls : jm_Ls} {st : List Value} {M : jm_M} {Q : Option Value → jm_M → Prop} {i n j : Nat} {x : Int32} (d : decode Y.2.1 pc = .ok (.aaload, 1)) (har : jm_ar i = some (2, n)) (hin : vp_in x n) (hr : jm_rf i x.toNatClampNeg = some j) (kk : jm_J sc Y (pc + 1) ls (.ref j :: st) M Q) : jm_J sc Y pc ls (.int x :: .ref i :: st) M Q := by
  intro p l e R s m args below meth c cells slots Z A D aC ad C hI hV H locs lsA hP hS hL hz
  obtain ⟨hx, hb, hml, hown, hts, hK, hij, hA, hR, hC, hsc⟩ := id C
  refine va_aldq (f := fun k => (jm_rf i k).map ad) hx hb hK hP i 2 (by rw [jm_at (jm_ar_lt har), jm_e_aq har (by decide)]) rfl hin d ?_
  rw [hr]
  exact kk p l e R s m args below meth c cells slots Z A D aC ad C hI hV H locs lsA hP hS hL hz
theorem jm_aaldI {sc : jm_S} {Y : jm_Y} {pc : Nat} {ls : jm_Ls} {st : List Value} {M : jm_M} {Q : Option Value → jm_M → Prop} {i n j : Nat} {x : Int32} (d : decode Y.2.1 pc = .ok (.aaload, 1)) (har : jm_ar i = some (3, n)) (hin : vp_in x n) (hr : jm_rf i x.toNatClampNeg = some j) (kk : jm_J sc Y (pc + 1) ls (.ref j :: st) M Q) : jm_J sc Y pc ls (.int x :: .ref i :: st) M Q := by
  intro p l e R s m args below meth c cells slots Z A D aC ad C hI hV H locs lsA hP hS hL hz
  obtain ⟨hx, hb, hml, hown, hts, hK, hij, hA, hR, hC, hsc⟩ := id C
  have hlt : x.toNatClampNeg < n := Nat.not_le.mp fun q => hin (Or.inr q)
  have hPi := hP i _ (by rw [jm_at (jm_ar_lt har), jm_e_aq har (by decide)])
  refine W.aald (v := .ref (ad j)) (ty := .array .int) hx hb hPi ((hK.2 3 _ rfl).1 n (fun k => va_rf ((jm_rf i k).map ad))) rfl (fun q => by cases q) (by show ¬ (x < 0 ∨ (arrV _ _ _).slots.size ≤ _); rw [arrV_size]; exact hin) (by show (arrV _ _ _).slots[_]? = _; rw [arrV_read _ _ hlt]; show some (va_rf (Option.map ad (jm_rf i x.toNatClampNeg))) = _; rw [hr]; rfl) rfl rfl d ?_
  exact kk p l e R s m args below meth c cells slots Z A D aC ad C hI hV H locs lsA hP hS hL hz
theorem jm_alen {sc : jm_S} {Y : jm_Y} {pc : Nat} {ls : jm_Ls} {st : List Value} {M : jm_M} {Q : Option Value → jm_M → Prop} {i t n : Nat} (d : decode Y.2.1 pc = .ok (.arraylength, 1)) (har : jm_ar i = some (t, n)) (ht : t = 0) (kk : jm_J sc Y (pc + 1) ls (.int (nI n) :: st) M Q) : jm_J sc Y pc ls (.ref i :: st) M Q := by
  intro p l e R s m args below meth c cells slots Z A D aC ad C hI hV H locs lsA hP hS hL hz
  obtain ⟨hx, hb, hml, hown, hts, hK, hij, hA, hR, hC, hsc⟩ := id C
  subst ht
  exact va_alen (x := (n, .inl (M i))) hx hb hK hP i 0 (by rw [jm_at (jm_ar_lt har), jm_e_ar har (by decide)]) rfl rfl d (kk p l e R s m args below meth c cells slots Z A D aC ad C hI hV H locs lsA hP hS hL hz)
theorem jm_sld {L : Nat} {xs : Nat → Int32} {Y : jm_Y} {pc : Nat} {ls : jm_Ls} {st : List Value} {M : jm_M} {Q : Option Value → jm_M → Prop} {x : Int32} (d : decode Y.2.1 pc = .ok (.iaload, 1)) (hin : vp_in x L) (kk : jm_J (some (L, xs)) Y (pc + 1) ls (.int (xs x.toNatClampNeg) :: st) M Q) : jm_J (some (L, xs)) Y pc ls (.int x :: .ref 1000 :: st) M Q := by
  intro p l e R s m args below meth c cells slots Z A D aC ad C hI hV H locs lsA hP hS hL hz
  obtain ⟨hx, hb, hml, hown, hts, hK, hij, hA, hR, hC, hsc⟩ := id C
  exact va_sld hx hb hsc.1 hsc.2.1 hsc.2.2 hS hin d (kk p l e R s m args below meth c cells slots Z A D aC ad C hI hV H locs lsA hP hS hL hz)
theorem jm_slen {L : Nat} {xs : Nat → Int32} {Y : jm_Y} {pc : Nat} {ls : jm_Ls} {st : List Value} {M : jm_M} {Q : Option Value → jm_M → Prop} (d : decode Y.2.1 pc = .ok (.arraylength, 1)) (kk : jm_J (some (L, xs)) Y (pc + 1) ls (.int (nI L) :: st) M Q) : jm_J (some (L, xs)) Y pc ls (.ref 1000 :: st) M Q := by
  intro p l e R s m args below meth c cells slots Z A D aC ad C hI hV H locs lsA hP hS hL hz
  obtain ⟨hx, hb, hml, hown, hts, hK, hij, hA, hR, hC, hsc⟩ := id C
  exact va_slen hx hb hsc.1 hsc.2.1 hsc.2.2 hS d (kk p l e R s m args below meth c cells slots Z A D aC ad C hI hV H locs lsA hP hS hL hz)
theorem jm_copy {sc : jm_S} {Y : jm_Y} {pc : Nat} {ls : jm_Ls} {st : List Value} {M : jm_M} {Q : Option Value → jm_M → Prop} {idx i j n0 n1 : Nat} {sp dp n : Int32} (d : decode Y.2.1 pc = .ok (.invokestatic idx, 3)) (hl : Cond.methodLink Y.1.cls idx arraycopyName ∈ jm_tb) (hw : Cond.native arraycopyName ∈ jm_tb ∧ Cond.static arraycopyName ∈ jm_tb ∧ Cond.initialized "java/lang/System" ∈ jm_tb) (hi : jm_ar i = some (0, n0)) (hj : jm_ar j = some (0, n1)) (h1 : ¬ sp < 0) (h2 : ¬ dp < 0) (h3 : ¬ n < 0) (h4 : sp.toNatClampNeg + n.toNatClampNeg ≤ n0) (h5 : dp.toNatClampNeg + n.toNatClampNeg ≤ n1)
    (hfr : 1 ≤ Y.2.2.2.2.1) (hlo : (st.map fun v => v.category).sum + (nativeFrameWords "java/lang/System" "arraycopy" 5 + 11) ≤ Y.2.2.2.2.2) (kk : jm_J sc Y (pc + 3) ls st (jm_sf M j (va_cpy (M i) (M j) sp.toNatClampNeg dp.toNatClampNeg n.toNatClampNeg)) Q) : jm_J sc Y pc ls (.int n :: .int dp :: .ref j :: .int sp :: .ref i :: st) M Q := by
  intro p l e R s m args below meth c cells slots Z A D aC ad C hI hV H locs lsA hP hS hL hz
  obtain ⟨hx, hb, hml, hown, hts, hK, hij, hA, hR, hC, hsc⟩ := id C
  have hs : (jm_ws aC ad M).set j (ad j, .inl (aC 0, n1, .inl (va_cpy (M i) (M j) sp.toNatClampNeg dp.toNatClampNeg n.toNatClampNeg))) = jm_ws aC ad (jm_sf M j (va_cpy (M i) (M j) sp.toNatClampNeg dp.toNatClampNeg n.toNatClampNeg)) := jm_set (jm_ar_lt hj) (by rw [jm_e_ar hj (by decide), jm_sf_s])
  refine va_copyi hx hb (hml.trans hz.symm) hown (hts _ hl) (hts _ hw.1) (hts _ hw.2.1) (hts _ hw.2.2) hK hP (jm_D hij hA) hS i j 0 0 (by rw [jm_at (jm_ar_lt hi), jm_e_ar hi (by decide)]) (by rw [jm_at (jm_ar_lt hj), jm_e_ar hj (by decide)]) rfl rfl rfl h1 h2 h3 h4 h5 (fun _ _ => rfl) (Nat.le_trans hfr hR.1) (Nat.le_trans (by rw [List.map_map]; have e : ((fun v : Value => v.category) ∘ jm_v ad) = (fun v => v.category) := funext (fun v => jm_v_cat ad v); rw [e]; exact hlo) hR.2) d (fun H1 locs1 hP1 hD1 hS1 => ?_)
  rw [hs] at hP1
  exact kk p l e R s m args below meth c cells slots Z A D aC ad C hI hV H1 locs1 lsA hP1 hS1 hL hz
/-- weaker ends -/
theorem jm_wk {sc : jm_S} {Y : jm_Y} {pc : Nat} {ls : jm_Ls} {st : List Value} {M : jm_M} {Q Q' : Option Value → jm_M → Prop} (h : jm_J sc Y pc ls st M Q) (hQ : ∀ o M1, Q o M1 → Q' o M1) : jm_J sc Y pc ls st M Q' := by
  intro p l e R s m args below meth c cells slots Z A D aC ad C hI hV
  exact h p l e R s m args below meth c cells slots Z A D aC ad C (fun v M1 H1 locs1 pc1 ls1 ty hq => hI v M1 H1 locs1 pc1 ls1 ty (hQ _ _ hq)) (fun M1 H1 locs1 pc1 ls1 hq => hV M1 H1 locs1 pc1 ls1 (hQ _ _ hq))
def jm_is (o : Option Value) (M1 : jm_M) : Option Value → jm_M → Prop := fun o' M' => o' = o ∧ M' = M1
def jm_Pre (A : Nat → Prop) (D : va_G) (aC ad : Nat → Nat) (M : jm_M) (U : State) : Prop := va_P D classes (jm_ws aC ad M) U.heap ∧ va_K D classes (jm_tys aC) U
def jm_rm (Y : jm_Y) : Room := { frames := Y.2.2.2.2.1, cells := 0, slots := 0, locals := Y.2.2.2.2.2 }
def jm_wds (Y : jm_Y) : List Cond := Cond.code Y.1 Y.2.1 Y.2.2.1 Y.2.2.2.1 :: jm_tb
theorem jm_met {Y : jm_Y} {M : jm_M} {Q : Option Value → jm_M → Prop} {vs : List Value} (l : Launch) (A : Nat → Prop) (D : va_G) (aC ad : Nat → Nat) (hij : ∀ i j, i < 144 → j < 144 → ad i = ad j → i = j) (hA : ∀ i, i < 144 → A (ad i)) (hp : plainName Y.1.cls = true) (hen : vs.length ≤ Y.2.2.1) (hcat : ∀ v ∈ vs, v.category = 1) (hJ : jm_J none Y 0 (jm_en Y.2.2.1 vs) [] M Q) :
    ((∃ ty, Y.2.2.2.1 = some ty) → Met l Y.1 (jm_wds Y) (jm_rm Y) (va_Pc (vs.map (jm_v ad)) (jm_Pre A D aC ad M)) (va_Qi (fun r M1 => Q (some (.int r)) M1) (fun M1 t => va_P D classes (jm_ws aC ad M1) t.heap) A) 0 0 A) ∧
    (Y.2.2.2.1 = none → Met l Y.1 (jm_wds Y) (jm_rm Y) (va_Pc (vs.map (jm_v ad)) (jm_Pre A D aC ad M)) (va_Qv (fun M1 => Q none M1) (fun M1 t => va_P D classes (jm_ws aC ad M1) t.heap) A) 0 0 A) := by
  constructor
  · rintro ⟨ty, hty⟩
    refine Met.ofW (cc := Y.2.1) (maxL := Y.2.2.1) (ret := Y.2.2.2.1) hp rfl ?_
    intro p e s m args below meth c s₁ B hml hv
    obtain ⟨rfl, hP, hK⟩ := hv
    have hts := atoms_spec (ws := jm_wds Y) B.pre
    rw [lg_entry_eq]
    have hL := jm_entry ad vs hen hcat
    refine hJ p l e _ s m _ below meth c 0 0 _ A D aC ad ⟨B.exec, B.bytes, hml, findClass_of_methodNamed B.named, fun w hw => hts w (List.mem_cons_of_mem _ hw), hK, hij, hA, ⟨Nat.le_refl _, Nat.le_refl _⟩, ⟨Nat.le_refl _, Nat.le_refl _⟩, trivial⟩ ?_ ?_ s.heap [] _ hP va_S.rf hL ?_
    · intro v M1 H1 locs1 pc1 ls1 ty1 hq hP1 hS1 hty1 hn d
      exact W.zret B.exec B.bytes (B.returns.trans hty1) hn (fun t ht hW => ⟨⟨v, M1, rfl, hq, by show va_P D classes (jm_ws aC ad M1) t.heap; rw [ht]; exact hP1⟩, hS1.F ht⟩) hS1.2.2 d B.notSynchronized
    · intro M1 H1 locs1 pc1 ls1 hq hP1 hS1 hty1 d
      rw [hty] at hty1
      cases hty1
    · rw [hL.1]; simp [jm_en]; omega
  · intro hty
    refine Met.ofW (cc := Y.2.1) (maxL := Y.2.2.1) (ret := Y.2.2.2.1) hp rfl ?_
    intro p e s m args below meth c s₁ B hml hv
    obtain ⟨rfl, hP, hK⟩ := hv
    have hts := atoms_spec (ws := jm_wds Y) B.pre
    rw [lg_entry_eq]
    have hL := jm_entry ad vs hen hcat
    refine hJ p l e _ s m _ below meth c 0 0 _ A D aC ad ⟨B.exec, B.bytes, hml, findClass_of_methodNamed B.named, fun w hw => hts w (List.mem_cons_of_mem _ hw), hK, hij, hA, ⟨Nat.le_refl _, Nat.le_refl _⟩, ⟨Nat.le_refl _, Nat.le_refl _⟩, trivial⟩ ?_ ?_ s.heap [] _ hP va_S.rf hL ?_
    · intro v M1 H1 locs1 pc1 ls1 ty1 hq hP1 hS1 hty1 hn d
      rw [hty] at hty1
      cases hty1
    · intro M1 H1 locs1 pc1 ls1 hq hP1 hS1 hty1 d
      exact W.vret B.exec B.bytes (B.returns.trans hty1) (fun t ht hW => ⟨⟨M1, rfl, hq, by show va_P D classes (jm_ws aC ad M1) t.heap; rw [ht]; exact hP1⟩, hS1.F ht⟩) hS1.2.2 d B.notSynchronized
    · rw [hL.1]; simp [jm_en]; omega
/-- what the tables say of a call -/
def jm_LB (own : String) (idx : Nat) (Y : jm_Y) (n : Nat) : Prop := Cond.methodLink own idx Y.1 ∈ jm_tb ∧ Cond.initialized Y.1.cls ∈ jm_tb ∧ Cond.code Y.1 Y.2.1 Y.2.2.1 Y.2.2.2.1 ∈ jm_tb ∧ plainName Y.1.cls = true ∧ (Y.1.cls ≠ "java/lang/invoke/MethodHandle" ∧ Y.1.cls ≠ "java/lang/invoke/VarHandle") ∧ (parseMethodDescriptor Y.1.desc).map (fun d => d.parameters.length) = some n
def jm_LV (own : String) (idx : Nat) (Y : jm_Y) (n ci : Nat) : Prop := jm_LB own idx Y n ∧ Cond.instanceMethod Y.1 ∈ jm_tb ∧ Cond.selects Y.1.cls Y.1 Y.1 ∈ jm_tb ∧ (classes[ci]?).map (fun q => q.1) = some Y.1.cls
def jm_LS (own : String) (idx : Nat) (Y : jm_Y) (n : Nat) : Prop := jm_LB own idx Y n ∧ Cond.static Y.1 ∈ jm_tb
theorem jm_blind {vs : List Value} {A : Nat → Prop} {D : va_G} {aC ad : Nat → Nat} {M : jm_M} : FrameBlind (va_Pc vs (jm_Pre A D aC ad M)) := by
  intro a U g mk q
  obtain ⟨q0, qP, qK⟩ := q
  exact ⟨q0, qP, va_K.moved (u := U) (U := U.calling g mk a) (Vm.Alike.refl U.vm) qK⟩
theorem jm_callB {Yc : jm_Y} {R : Room} {s : State} {args : Array Value} {own : String} {idx n : Nat} (hts : ∀ w ∈ jm_tb, w.before args s = true) (L : jm_LB own idx Yc n) (hR : Yc.2.2.2.2.1 + 1 ≤ R.frames ∧ 8 + (Yc.2.2.1 + 11) + Yc.2.2.2.2.2 ≤ R.locals) : CallB R s args own idx Yc.1 Yc.2.1 Yc.2.2.1 Yc.2.2.2.1 (jm_wds Yc) (jm_rm Yc) 0 0 n := by
  obtain ⟨l1, l2, l3, l4, l5, l6⟩ := L
  refine ⟨rfl, rfl, hR.1, hR.2, pay_in hts (fun w hw => ?_), List.mem_cons_self, hts _ l3, hts _ l2, l5, fun sig h => ?_, hts _ l1⟩
  · have hm : w ∈ jm_tb := (List.mem_cons.mp hw).elim (fun e => e ▸ l3) (fun h => h)
    exact ⟨hm, jm_tb_good hm⟩
  · rw [h] at l6
    exact (Option.some.inj l6).symm
theorem jm_cat_map (ad : Nat → Nat) (st : List Value) : ((st.map (jm_v ad)).map fun v => v.category) = st.map fun v => v.category := by
  rw [List.map_map]
  exact congrArg (fun f => st.map f) (funext (fun v => jm_v_cat ad v))
theorem jm_pre {A : Nat → Prop} {D : va_G} {aC ad : Nat → Nat} {M : jm_M} {s : State} {H : Heap} {locs : List Loc} (hK : va_K D classes (jm_tys aC) s) (hP : va_P D classes (jm_ws aC ad M) H) (hS : va_S A s.heap H locs) (U : State) (hU : U.heap = H) (hW : s.WarmedH U.vm) : jm_Pre A D aC ad M U :=
  ⟨by rw [hU]; exact hP, va_K.moved hW.alike hK⟩
theorem jm_cVi {sc : jm_S} {Y Yc : jm_Y} {pc idx n ci nf b : Nat} {ls : jm_Ls} {st As rest : List Value} {M : jm_M} {Q Qc : Option Value → jm_M → Prop} (d : decode Y.2.1 pc = .ok (.invokevirtual idx, 3)) (L : jm_LV Y.1.cls idx Yc n ci) (hty : ∃ ty, Yc.2.2.2.1 = some ty) (hob : jm_ob b = some (ci, nf)) (hst : st = As.reverse ++ .ref b :: rest) (hn : As.length = n) (hcat : ∀ v ∈ As, v.category = 1) (hen : As.length + 1 ≤ Yc.2.2.1) (hw : (rest.map fun v => v.category).sum ≤ 8) (hR : Yc.2.2.2.2.1 + 1 ≤ Y.2.2.2.2.1 ∧ 8 + (Yc.2.2.1 + 11) + Yc.2.2.2.2.2 ≤ Y.2.2.2.2.2) (hc : jm_J none Yc 0 (jm_en Yc.2.2.1 (.ref b :: As)) [] M Qc) (kk : ∀ (r : Int32) (M1 : jm_M), Qc (some (.int r)) M1 → jm_J sc Y (pc + 3) ls (.int r :: rest) M1 Q) : jm_J sc Y pc ls st M Q := by
  intro p l e R s m args below meth c cells slots Z A D aC ad C hI hV H locs lsA hP hS hL hz
  obtain ⟨hx, hb, hml, hown, hts, hK, hij, hA, hRm, hC, hsc⟩ := id C
  subst hst
  obtain ⟨L1, L2, L3, L4⟩ := L
  have hM := (jm_met l A D aC ad hij hA L1.2.2.2.1 (vs := .ref b :: As) (by simpa [Nat.add_comm] using hen) (fun v hv => (List.mem_cons.mp hv).elim (fun e => by rw [e]; rfl) (hcat v)) hc).1 hty
  obtain ⟨qc, hqc, hqn⟩ : ∃ qc, classes[ci]? = some qc ∧ qc.1 = Yc.1.cls := by
    cases hx : classes[ci]? with
    | none => rw [hx] at L4; cases L4
    | some qc => rw [hx] at L4; exact ⟨qc, rfl, Option.some.inj L4⟩
  have hrecv := va_recv (a := ad b) (q0 := b) (fs := jm_fs ad M b nf) hK hP hqc (by rw [jm_at (jm_ob_lt hob), jm_e_ob hob])
  rw [hqn] at hrecv
  refine va_calli (A0 := A) (A1 := A) (va_runV (As := As.map (jm_v ad)) (rest := rest.map (jm_v ad)) (nL := Y.2.2.1) (n := n) (b := ad b) ⟨hx, hb, hml, hown, hts⟩ hM ⟨jm_callB hts L1 ⟨Nat.le_trans hR.1 hRm.1, Nat.le_trans hR.2 hRm.2⟩, hts _ L2, hts _ L3⟩ ⟨jm_blind, hrecv, fun U hU hW => ⟨rfl, jm_pre hK hP hS U hU hW⟩⟩ rfl (by rw [List.length_map]; exact hn) hz (by show List.map _ _ = _; rw [List.map_append, List.map_reverse]; rfl) (lv_room (by rw [jm_cat_map]; exact hw)) d ⟨hC.1, hC.2⟩) hS (fun q _ h => h) (fun q h => h) (fun r M1 t H1 locs1 ht hvm hw1 hB hz1 hk1 hS1 => ?_)
  rw [ht] at hB
  exact kk r M1 hw1 p l e R s m args below meth c cells slots Z A D aC ad C hI hV H1 locs1 lsA hB hS1 hL hz
theorem jm_cSi {sc : jm_S} {Y Yc : jm_Y} {pc idx n ci nf b : Nat} {ls : jm_Ls} {st As rest : List Value} {M : jm_M} {Q Qc : Option Value → jm_M → Prop} (d : decode Y.2.1 pc = .ok (.invokestatic idx, 3)) (L : jm_LS Y.1.cls idx Yc n) (hty : ∃ ty, Yc.2.2.2.1 = some ty) (hst : st = As.reverse ++ rest) (hn : As.length = n) (hcat : ∀ v ∈ As, v.category = 1) (hen : As.length + 0 ≤ Yc.2.2.1) (hw : (rest.map fun v => v.category).sum ≤ 8) (hR : Yc.2.2.2.2.1 + 1 ≤ Y.2.2.2.2.1 ∧ 8 + (Yc.2.2.1 + 11) + Yc.2.2.2.2.2 ≤ Y.2.2.2.2.2) (hc : jm_J none Yc 0 (jm_en Yc.2.2.1 As) [] M Qc) (kk : ∀ (r : Int32) (M1 : jm_M), Qc (some (.int r)) M1 → jm_J sc Y (pc + 3) ls (.int r :: rest) M1 Q) : jm_J sc Y pc ls st M Q := by
  intro p l e R s m args below meth c cells slots Z A D aC ad C hI hV H locs lsA hP hS hL hz
  obtain ⟨hx, hb, hml, hown, hts, hK, hij, hA, hRm, hC, hsc⟩ := id C
  subst hst
  obtain ⟨L1, L2⟩ := L
  have hM := (jm_met l A D aC ad hij hA L1.2.2.2.1 (vs := As) hen hcat hc).1 hty
  refine va_calli (A0 := A) (A1 := A) (va_runS (As := As.map (jm_v ad)) (rest := rest.map (jm_v ad)) (nL := Y.2.2.1) (n := n) ⟨hx, hb, hml, hown, hts⟩ hM ⟨jm_callB hts L1 ⟨Nat.le_trans hR.1 hRm.1, Nat.le_trans hR.2 hRm.2⟩, hts _ L2⟩ ⟨jm_blind, fun U hU hW => ⟨rfl, jm_pre hK hP hS U hU hW⟩⟩ rfl (by rw [List.length_map]; exact hn) hz (by show List.map _ _ = _; rw [List.map_append, List.map_reverse]) (lv_room (by rw [jm_cat_map]; exact hw)) d ⟨hC.1, hC.2⟩) hS (fun q _ h => h) (fun q h => h) (fun r M1 t H1 locs1 ht hvm hw1 hB hz1 hk1 hS1 => ?_)
  rw [ht] at hB
  exact kk r M1 hw1 p l e R s m args below meth c cells slots Z A D aC ad C hI hV H1 locs1 lsA hB hS1 hL hz
theorem jm_cVv {sc : jm_S} {Y Yc : jm_Y} {pc idx n ci nf b : Nat} {ls : jm_Ls} {st As rest : List Value} {M : jm_M} {Q Qc : Option Value → jm_M → Prop} (d : decode Y.2.1 pc = .ok (.invokevirtual idx, 3)) (L : jm_LV Y.1.cls idx Yc n ci) (hty : Yc.2.2.2.1 = none) (hob : jm_ob b = some (ci, nf)) (hst : st = As.reverse ++ .ref b :: rest) (hn : As.length = n) (hcat : ∀ v ∈ As, v.category = 1) (hen : As.length + 1 ≤ Yc.2.2.1) (hw : (rest.map fun v => v.category).sum ≤ 8) (hR : Yc.2.2.2.2.1 + 1 ≤ Y.2.2.2.2.1 ∧ 8 + (Yc.2.2.1 + 11) + Yc.2.2.2.2.2 ≤ Y.2.2.2.2.2) (hc : jm_J none Yc 0 (jm_en Yc.2.2.1 (.ref b :: As)) [] M Qc) (kk : ∀ (M1 : jm_M), Qc none M1 → jm_J sc Y (pc + 3) ls rest M1 Q) : jm_J sc Y pc ls st M Q := by
  intro p l e R s m args below meth c cells slots Z A D aC ad C hI hV H locs lsA hP hS hL hz
  obtain ⟨hx, hb, hml, hown, hts, hK, hij, hA, hRm, hC, hsc⟩ := id C
  subst hst
  obtain ⟨L1, L2, L3, L4⟩ := L
  have hM := (jm_met l A D aC ad hij hA L1.2.2.2.1 (vs := .ref b :: As) (by simpa [Nat.add_comm] using hen) (fun v hv => (List.mem_cons.mp hv).elim (fun e => by rw [e]; rfl) (hcat v)) hc).2 hty
  obtain ⟨qc, hqc, hqn⟩ : ∃ qc, classes[ci]? = some qc ∧ qc.1 = Yc.1.cls := by
    cases hx : classes[ci]? with
    | none => rw [hx] at L4; cases L4
    | some qc => rw [hx] at L4; exact ⟨qc, rfl, Option.some.inj L4⟩
  have hrecv := va_recv (a := ad b) (q0 := b) (fs := jm_fs ad M b nf) hK hP hqc (by rw [jm_at (jm_ob_lt hob), jm_e_ob hob])
  rw [hqn] at hrecv
  refine va_callv (A0 := A) (A1 := A) (va_runV (As := As.map (jm_v ad)) (rest := rest.map (jm_v ad)) (nL := Y.2.2.1) (n := n) (b := ad b) ⟨hx, hb, hml, hown, hts⟩ hM ⟨jm_callB hts L1 ⟨Nat.le_trans hR.1 hRm.1, Nat.le_trans hR.2 hRm.2⟩, hts _ L2, hts _ L3⟩ ⟨jm_blind, hrecv, fun U hU hW => ⟨rfl, jm_pre hK hP hS U hU hW⟩⟩ rfl (by rw [List.length_map]; exact hn) hz (by show List.map _ _ = _; rw [List.map_append, List.map_reverse]; rfl) (lv_room (by rw [jm_cat_map]; exact hw)) d ⟨hC.1, hC.2⟩) hS (fun q _ h => h) (fun q h => h) (fun M1 t H1 locs1 ht hvm hw1 hB hz1 hk1 hS1 => ?_)
  rw [ht] at hB
  exact kk M1 hw1 p l e R s m args below meth c cells slots Z A D aC ad C hI hV H1 locs1 lsA hB hS1 hL hz
theorem jm_cSv {sc : jm_S} {Y Yc : jm_Y} {pc idx n ci nf b : Nat} {ls : jm_Ls} {st As rest : List Value} {M : jm_M} {Q Qc : Option Value → jm_M → Prop} (d : decode Y.2.1 pc = .ok (.invokestatic idx, 3)) (L : jm_LS Y.1.cls idx Yc n) (hty : Yc.2.2.2.1 = none) (hst : st = As.reverse ++ rest) (hn : As.length = n) (hcat : ∀ v ∈ As, v.category = 1) (hen : As.length + 0 ≤ Yc.2.2.1) (hw : (rest.map fun v => v.category).sum ≤ 8) (hR : Yc.2.2.2.2.1 + 1 ≤ Y.2.2.2.2.1 ∧ 8 + (Yc.2.2.1 + 11) + Yc.2.2.2.2.2 ≤ Y.2.2.2.2.2) (hc : jm_J none Yc 0 (jm_en Yc.2.2.1 As) [] M Qc) (kk : ∀ (M1 : jm_M), Qc none M1 → jm_J sc Y (pc + 3) ls rest M1 Q) : jm_J sc Y pc ls st M Q := by
  intro p l e R s m args below meth c cells slots Z A D aC ad C hI hV H locs lsA hP hS hL hz
  obtain ⟨hx, hb, hml, hown, hts, hK, hij, hA, hRm, hC, hsc⟩ := id C
  subst hst
  obtain ⟨L1, L2⟩ := L
  have hM := (jm_met l A D aC ad hij hA L1.2.2.2.1 (vs := As) hen hcat hc).2 hty
  refine va_callv (A0 := A) (A1 := A) (va_runS (As := As.map (jm_v ad)) (rest := rest.map (jm_v ad)) (nL := Y.2.2.1) (n := n) ⟨hx, hb, hml, hown, hts⟩ hM ⟨jm_callB hts L1 ⟨Nat.le_trans hR.1 hRm.1, Nat.le_trans hR.2 hRm.2⟩, hts _ L2⟩ ⟨jm_blind, fun U hU hW => ⟨rfl, jm_pre hK hP hS U hU hW⟩⟩ rfl (by rw [List.length_map]; exact hn) hz (by show List.map _ _ = _; rw [List.map_append, List.map_reverse]) (lv_room (by rw [jm_cat_map]; exact hw)) d ⟨hC.1, hC.2⟩) hS (fun q _ h => h) (fun q h => h) (fun M1 t H1 locs1 ht hvm hw1 hB hz1 hk1 hS1 => ?_)
  rw [ht] at hB
  exact kk M1 hw1 p l e R s m args below meth c cells slots Z A D aC ad C hI hV H1 locs1 lsA hB hS1 hL hz
