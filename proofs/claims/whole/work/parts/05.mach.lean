/-! THE WORLD OF THE CLAIM AS NUMBERS: objects by numbers (their places never move), all that changes is a number in a place; and a triple over the machine -/
abbrev classes : List vw_C := [(RX0, TX0, 6), (RX2, TX2, 8), (RX3, TX3, 3), (RX4, TX4, 4), (RX5, TX5, 10), (RX6, TX6, 22)]
abbrev jm_M : Type := Nat → Nat → Int32
/-- a method: its name, bytes, locals, return type, the frames and the words of locals that its calls want -/
abbrev jm_Y : Type := MethodName × ByteArray × Nat × Option FieldType × Nat × Nat
def jm_ob (i : Nat) : Option (Nat × Nat) :=
  if i < 32 then (match i with | 0 => some (4, 10) | 1 => some (2, 3) | 2 => some (3, 4) | 3 => some (0, 6) | 11 => some (5, 22) | _ => none)
  else if i < 144 ∧ i % 4 = 0 then some (1, 8) else none
def jm_ar (i : Nat) : Option (Nat × Nat) :=
  if i < 24 then (match i with | 4 => some (3, 8) | 5 => some (0, 8) | 6 => some (0, 8) | 7 => some (0, 110) | 8 => some (0, 16) | 9 => some (2, 24) | 10 => some (2, 2) | 12 => some (0, 8) | 13 => some (0, 8) | 14 => some (0, 320) | 15 => some (0, 40) | 16 => some (0, 110) | 17 => some (0, 45) | 18 => some (0, 45) | 19 => some (0, 45) | 20 => some (0, 1080) | 21 => some (0, 90) | 22 => some (1, 2) | 23 => some (0, 16) | _ => none)
  else if i < 32 then some (0, 40)
  else if i < 144 then (if i % 4 = 1 then some (0, 12) else if i % 4 = 0 then none else some (0, 7)) else none
def jm_rf (i k : Nat) : Option Nat :=
  if i < 32 then (match i with
    | 0 => (match k with | 0 => some 1 | 1 => some 2 | 2 => some 3 | 3 => some 32 | 4 => some 36 | 5 => some 9 | 6 => some 10 | _ => none)
    | 1 => (match k with | 0 => some 4 | 1 => some 5 | 2 => some 6 | _ => none)
    | 2 => (match k with | 0 => some 7 | _ => none)
    | 3 => (match k with | 0 => some 8 | _ => none)
    | 4 => some (24 + k)
    | 9 => some (40 + 4 * k)
    | 10 => some (136 + 4 * k)
    | 11 => (match k with | 0 => some 12 | 1 => some 13 | 2 => some 14 | 3 => some 15 | 5 => some 16 | 13 => some 17 | 14 => some 18 | 15 => some 19 | 16 => some 20 | 18 => some 21 | 19 => some 22 | 20 => some 23 | _ => none)
    | _ => none)
  else (match k with | 5 => some (i + 1) | 6 => some (i + 2) | 7 => some (i + 3) | _ => none)
/-- another content for the object i -/
def jm_sf (M : jm_M) (i : Nat) (f : Nat → Int32) : jm_M := fun j => if j = i then f else M j
theorem jm_sf_s (M : jm_M) (i : Nat) (f : Nat → Int32) : jm_sf M i f i = f := by simp [jm_sf]
theorem jm_sf_n (M : jm_M) {i j : Nat} (f : Nat → Int32) (h : j ≠ i) : jm_sf M i f j = M j := by simp [jm_sf, h]
def jm_fs (ad : Nat → Nat) (M : jm_M) (i n : Nat) : List Value := (List.range n).map (fun k => match jm_rf i k with | some j => .ref (ad j) | none => .int (M i k))
def jm_e (aC ad : Nat → Nat) (M : jm_M) (i : Nat) : va_E :=
  match jm_ob i with
  | some (c, n) => .inr (c, jm_fs ad M i n)
  | none => match jm_ar i with
    | some (t, n) => if t < 2 then .inl (aC t, n, .inl (M i)) else .inl (aC t, n, .inr (.inr (.inr (.inr (fun k => (jm_rf i k).map ad)))))
    | none => .inr (0, [])
def jm_ws (aC ad : Nat → Nat) (M : jm_M) : va_W := (List.range 144).map (fun i => (ad i, jm_e aC ad M i))
abbrev jm_tys (aC : Nat → Nat) : List (ClassId × FieldType) := [(aC 0, .int), (aC 1, .boolean), (aC 2, .object RX2), (aC 3, .array .int)]
theorem jm_at {aC ad : Nat → Nat} {M : jm_M} {i : Nat} (h : i < 144) : (jm_ws aC ad M)[i]? = some (ad i, jm_e aC ad M i) := by
  unfold jm_ws
  rw [List.getElem?_map, List.getElem?_range h]
  rfl
theorem jm_ob_lt {i : Nat} {q : Nat × Nat} (h : jm_ob i = some q) : i < 144 := by
  unfold jm_ob at h
  by_cases h1 : i < 32
  · omega
  · rw [if_neg h1] at h
    by_cases h2 : i < 144 ∧ i % 4 = 0
    · exact h2.1
    · rw [if_neg h2] at h; cases h
theorem jm_ar_lt {i : Nat} {q : Nat × Nat} (h : jm_ar i = some q) : i < 144 := by
  unfold jm_ar at h
  by_cases h1 : i < 24
  · omega
  · by_cases h2 : i < 32
    · omega
    · rw [if_neg h1, if_neg h2] at h
      by_cases h3 : i < 144
      · exact h3
      · rw [if_neg h3] at h; cases h
theorem jm_ob_ar {i : Nat} {q : Nat × Nat} (h : jm_ar i = some q) : jm_ob i = none := by
  have hl := jm_ar_lt h
  have key : ∀ i, i < 144 → (jm_ar i).isSome = true → jm_ob i = none := by decide +kernel
  exact key i hl (by rw [h]; rfl)
theorem jm_e_ob {aC ad : Nat → Nat} {M : jm_M} {i c n : Nat} (h : jm_ob i = some (c, n)) : jm_e aC ad M i = .inr (c, jm_fs ad M i n) := by
  unfold jm_e; rw [h]
theorem jm_e_ar {aC ad : Nat → Nat} {M : jm_M} {i t n : Nat} (h : jm_ar i = some (t, n)) (ht : t < 2) : jm_e aC ad M i = .inl (aC t, n, .inl (M i)) := by
  unfold jm_e; rw [jm_ob_ar h, h]; simp [ht]
theorem jm_e_aq {aC ad : Nat → Nat} {M : jm_M} {i t n : Nat} (h : jm_ar i = some (t, n)) (ht : ¬ t < 2) : jm_e aC ad M i = .inl (aC t, n, .inr (.inr (.inr (.inr (fun k => (jm_rf i k).map ad))))) := by
  unfold jm_e; rw [jm_ob_ar h, h]; simp [ht]
theorem jm_e_ne {aC ad : Nat → Nat} {M : jm_M} {i j : Nat} {f : Nat → Int32} (h : j ≠ i) : jm_e aC ad (jm_sf M i f) j = jm_e aC ad M j := by
  unfold jm_e jm_fs
  rw [jm_sf_n M f h]
theorem jm_set {aC ad : Nat → Nat} {M : jm_M} {i : Nat} {f : Nat → Int32} {x : va_E} (hi : i < 144) (hx : x = jm_e aC ad (jm_sf M i f) i) : (jm_ws aC ad M).set i (ad i, x) = jm_ws aC ad (jm_sf M i f) := by
  apply List.ext_getElem?
  intro j
  by_cases hj : j < 144
  · rw [jm_at hj]
    by_cases hji : j = i
    · subst hji
      rw [List.getElem?_set_self (by simp [jm_ws]; exact hi), hx]
    · rw [List.getElem?_set_ne (fun q => hji q.symm), jm_at hj, jm_e_ne hji]
  · rw [List.getElem?_eq_none (by simp [jm_ws]; omega), List.getElem?_eq_none (by simp [jm_ws]; omega)]
theorem jm_fs_len (ad : Nat → Nat) (M : jm_M) (i n : Nat) : (jm_fs ad M i n).length = n := by simp [jm_fs]
theorem jm_fs_at {ad : Nat → Nat} {M : jm_M} {i n k : Nat} (hk : k < n) : (jm_fs ad M i n)[k]? = some (match jm_rf i k with | some j => .ref (ad j) | none => .int (M i k)) := by
  unfold jm_fs
  rw [List.getElem?_map, List.getElem?_range hk]
  rfl
theorem jm_fs_set {ad : Nat → Nat} {M : jm_M} {i n k : Nat} {v : Int32} (hk : k < n) (hr : jm_rf i k = none) : (jm_fs ad M i n).set k (.int v) = jm_fs ad (jm_sf M i (upd (M i) k v)) i n := by
  apply List.ext_getElem?
  intro j
  by_cases hj : j < n
  · rw [jm_fs_at hj]
    by_cases hjk : j = k
    · subst hjk
      rw [List.getElem?_set_self (by rw [jm_fs_len]; exact hk), hr, jm_sf_s]
      simp [upd]
    · rw [List.getElem?_set_ne (fun q => hjk q.symm), jm_fs_at hj, jm_sf_s]
      have e : upd (M i) k v j = M i j := by simp [upd, hjk]
      rw [e]
  · rw [List.getElem?_eq_none (by simp [jm_fs_len]; omega), List.getElem?_eq_none (by rw [jm_fs_len]; omega)]
/-- the words of the tables that stay -/
def jm_tb : List Cond := lw_tbl.filter goodWord
theorem jm_tb_in {w : Cond} (h : w ∈ lw_tbl) (g : goodWord w = true) : w ∈ jm_tb := List.mem_filter.mpr ⟨h, g⟩
theorem jm_tb_of {w : Cond} (h : w ∈ jm_tb) : w ∈ lw_tbl := (List.mem_filter.mp h).1
theorem jm_tb_good {w : Cond} (h : w ∈ jm_tb) : (w.onTables && w.keeps) = true ∨ ∃ ty, w = .arrayClass ty := good_of_word (List.mem_filter.mp h).2
def jm_v (ad : Nat → Nat) : Value → Value
  | .ref i => .ref (ad i)
  | v => v
theorem jm_v_cat (ad : Nat → Nat) (v : Value) : (jm_v ad v).category = v.category := by cases v <;> rfl
/-- the locals: each either not known, or a value -/
abbrev jm_Ls : Type := List (Option Value)
def jm_L (ad : Nat → Nat) (ls : jm_Ls) (lsA : Array Slot) : Prop := lsA.size = ls.length ∧ lv_wf lsA ∧ ∀ (i : Nat) (v : Value), ls[i]? = some (some v) → lsA[i]? = some (.val (jm_v ad v))
def jm_no (ls : jm_Ls) (i : Nat) : Bool := match i with
  | 0 => true
  | k + 1 => match ls[k]? with
    | some (some v) => v.category == 1
    | _ => true
def jm_st : jm_Ls → Nat → Option Value → jm_Ls
  | [], _, _ => []
  | _ :: t, 0, v => v :: t
  | a :: t, k + 1, v => a :: jm_st t k v
theorem jm_st_set (ls : jm_Ls) (i : Nat) (v : Option Value) : jm_st ls i v = ls.set i v := by
  induction ls generalizing i with
  | nil => rfl
  | cons a t ih => cases i with
    | zero => rfl
    | succ k => show a :: jm_st t k v = _; rw [ih]; rfl
/-- what the kit's rows of stores want: the list of what is known -/
def jm_pr (ad : Nat → Nat) (ls : jm_Ls) : List (Nat × Value) := (List.range ls.length).filterMap (fun i => match ls[i]? with | some (some v) => some (i, jm_v ad v) | _ => none)
theorem jm_pr_mem {ad : Nat → Nat} {ls : jm_Ls} {i : Nat} {v : Value} (h : ls[i]? = some (some v)) : (i, jm_v ad v) ∈ jm_pr ad ls := by
  refine List.mem_filterMap.mpr ⟨i, List.mem_range.mpr (List.getElem?_eq_some_iff.mp h).1, ?_⟩
  rw [h]
theorem jm_L_has {ad : Nat → Nat} {ls : jm_Ls} {lsA : Array Slot} (h : jm_L ad ls lsA) : lv_has lsA ls.length (jm_pr ad ls) := by
  refine ⟨h.1, h.2.1, fun q hq => ?_⟩
  obtain ⟨i, -, hi⟩ := List.mem_filterMap.mp hq
  cases hx : ls[i]? with
  | none => rw [hx] at hi; cases hi
  | some o => cases o with
    | none => rw [hx] at hi; cases hi
    | some v =>
      rw [hx] at hi
      cases hi
      exact h.2.2 i v hx
theorem jm_L_st {ad : Nat → Nat} {ls : jm_Ls} {lsA' : Array Slot} {i : Nat} {v : Value} (hi : i < ls.length) (hno : jm_no ls i = true)
    (h : lv_has lsA' ls.length ((i, jm_v ad v) :: (jm_pr ad ls).filter (fun q => !(q.1 == i) && !(q.1 + 1 == i && q.2.category == 2)))) : jm_L ad (jm_st ls i (some v)) lsA' := by
  refine ⟨by rw [h.1, jm_st_set, List.length_set], h.2.1, fun j w hj => ?_⟩
  rw [jm_st_set] at hj
  by_cases hji : j = i
  · subst hji
    rw [List.getElem?_set_self hi] at hj
    cases hj
    exact h.2.2 _ List.mem_cons_self
  · rw [List.getElem?_set_ne (fun q => hji q.symm)] at hj
    refine h.2.2 (j, jm_v ad w) (List.mem_cons_of_mem _ (List.mem_filter.mpr ⟨jm_pr_mem hj, ?_⟩))
    by_cases hc : j + 1 = i
    · subst hc
      have hw : w.category = 1 := by
        simp only [jm_no, hj] at hno
        simpa using hno
      simp [hji, jm_v_cat, hw]
    · simp [hji, hc]
theorem jm_L_st2 {ad : Nat → Nat} {ls : jm_Ls} {lsA' : Array Slot} {i : Nat} {v : Value} (hi : i + 1 < ls.length) (hno : jm_no ls i = true)
    (h : lv_has lsA' ls.length ((i, jm_v ad v) :: (jm_pr ad ls).filter (fun q => !(q.1 == i) && (!(q.1 == i + 1) && !(q.1 + 1 == i && q.2.category == 2))))) : jm_L ad (jm_st (jm_st ls (i + 1) none) i (some v)) lsA' := by
  refine ⟨by rw [h.1, jm_st_set, jm_st_set, List.length_set, List.length_set], h.2.1, fun j w hj => ?_⟩
  rw [jm_st_set, jm_st_set] at hj
  by_cases hji : j = i
  · subst hji
    rw [List.getElem?_set_self (by rw [List.length_set]; omega)] at hj
    cases hj
    exact h.2.2 _ List.mem_cons_self
  · rw [List.getElem?_set_ne (fun q => hji q.symm)] at hj
    by_cases hj2 : j = i + 1
    · subst hj2
      rw [List.getElem?_set_self (by omega)] at hj
      cases hj
    · rw [List.getElem?_set_ne (fun q => hj2 q.symm)] at hj
      refine h.2.2 (j, jm_v ad w) (List.mem_cons_of_mem _ (List.mem_filter.mpr ⟨jm_pr_mem hj, ?_⟩))
      by_cases hc : j + 1 = i
      · subst hc
        have hw : w.category = 1 := by
          simp only [jm_no, hj] at hno
          simpa using hno
        simp [jm_v_cat, hw]
        try omega
      · simp [hji, hj2, hc]
/-- a method's locals at its entry -/
def jm_en (n : Nat) (vs : List Value) : jm_Ls := vs.map some ++ List.replicate (n - vs.length) none
theorem jm_lg (vs : List Value) (h : ∀ v ∈ vs, v.category = 1) : lg_sl vs = vs.map Slot.val := by
  induction vs with
  | nil => rfl
  | cons v t ih =>
    have hv := h v List.mem_cons_self
    have e : lg_sl (v :: t) = (if v.category = 2 then [.val v, .second] else [.val v]) ++ lg_sl t := rfl
    rw [e, ih (fun w hw => h w (List.mem_cons_of_mem _ hw)), hv]
    rfl
theorem jm_lva (vs : List Value) (h : ∀ v ∈ vs, v.category = 1) : ∀ (k i : Nat) (v : Value), vs[i]? = some v → (k + i, v) ∈ lv_args k vs := by
  induction vs with
  | nil => intro k i v hv; simp at hv
  | cons w t ih =>
    intro k i v hv
    have hw := h w List.mem_cons_self
    cases i with
    | zero =>
      rw [List.getElem?_cons_zero] at hv
      cases hv
      exact List.mem_cons_self
    | succ i =>
      rw [List.getElem?_cons_succ] at hv
      have := ih (fun x hx => h x (List.mem_cons_of_mem _ hx)) (k + 1) i v hv
      simp only [lv_args, hw]
      rw [show k + (i + 1) = k + 1 + i by omega]
      exact List.mem_cons_of_mem _ this
theorem jm_entry (ad : Nat → Nat) (vs : List Value) {n : Nat} (hn : vs.length ≤ n) (h : ∀ v ∈ vs, v.category = 1) : jm_L ad (jm_en n vs) ((lg_sl (vs.map (jm_v ad)) ++ List.replicate (n - (lg_sl (vs.map (jm_v ad))).length) Slot.unset).toArray) := by
  have h' : ∀ v ∈ vs.map (jm_v ad), v.category = 1 := by
    intro v hv
    obtain ⟨w, hw, rfl⟩ := List.mem_map.mp hv
    rw [jm_v_cat]; exact h w hw
  have hl : (lg_sl (vs.map (jm_v ad))).length = vs.length := by rw [jm_lg _ h']; simp
  have hE := lv_entry (vs.map (jm_v ad)) (n := n) (by rw [hl]; exact hn)
  refine ⟨by rw [hE.1]; simp [jm_en]; omega, hE.2.1, fun i v hi => ?_⟩
  refine hE.2.2 (i, jm_v ad v) ?_
  have hv : vs[i]? = some v := by
    unfold jm_en at hi
    by_cases hlt : i < vs.length
    · rw [List.getElem?_append_left (by simpa using hlt), List.getElem?_map] at hi
      cases hx : vs[i]? with
      | none => rw [hx] at hi; cases hi
      | some w => rw [hx] at hi; cases hi; rfl
    · rw [List.getElem?_append_right (by simpa using hlt)] at hi
      have := List.eq_of_mem_replicate (List.mem_of_getElem? hi)
      cases this
  have := jm_lva (vs.map (jm_v ad)) h' 0 i (jm_v ad v) (by rw [List.getElem?_map, hv]; rfl)
  simpa using this
abbrev jm_S : Type := Option (Nat × (Nat → Int32))
def jm_ctx (sc : jm_S) (Y : jm_Y) (p : Program) (R : Room) (s : State) (m : MethodId) (args : Array Value) (c : Code) (cells slots : Nat) (A : Nat → Prop) (D : va_G) (aC ad : Nat → Nat) : Prop :=
  p.tables.exec = Jvm.exec ∧ c.code = Y.2.1 ∧ c.maxLocals = Y.2.2.1 ∧ s.vm.findClass Y.1.cls = some m.cls ∧ (∀ w ∈ jm_tb, w.before args s = true) ∧ va_K D classes (jm_tys aC) s ∧ (∀ i j, i < 144 → j < 144 → ad i = ad j → i = j) ∧ (∀ i, i < 144 → A (ad i)) ∧
  (Y.2.2.2.2.1 ≤ R.frames ∧ Y.2.2.2.2.2 ≤ R.locals) ∧ (cells ≤ R.cells ∧ slots ≤ R.slots) ∧
  (match sc with | none => True | some q => va_X (ad 1000) q.1 q.2 s s.heap ∧ ad 1000 < s.heap.size ∧ ¬ A (ad 1000))
theorem jm_D {A : Nat → Prop} {aC ad : Nat → Nat} {M : jm_M} (h1 : ∀ i j, i < 144 → j < 144 → ad i = ad j → i = j) (h2 : ∀ i, i < 144 → A (ad i)) : va_D A (jm_ws aC ad M) := by
  have key : ∀ (k : Nat) (q : Nat × va_E), (jm_ws aC ad M)[k]? = some q → k < 144 ∧ q.1 = ad k := by
    intro k q hk
    have hl : k < 144 := by
      have := (List.getElem?_eq_some_iff.mp hk).1
      simpa [jm_ws] using this
    rw [jm_at hl] at hk
    cases hk
    exact ⟨hl, rfl⟩
  refine ⟨fun i j x y hi hj hxy => ?_, fun k q hk => ?_⟩
  · obtain ⟨a1, a2⟩ := key i x hi
    obtain ⟨b1, b2⟩ := key j y hj
    exact h1 i j a1 b1 (by rw [← a2, ← b2]; exact hxy)
  · obtain ⟨a1, a2⟩ := key k q hk
    rw [a2]
    exact h2 k a1
/-- THE TRIPLE: from pc of the method Y, with these locals and this stack, in any world that holds M, the machine comes to the method's end with an answer and a world of which Q holds -/
def jm_J (sc : jm_S) (Y : jm_Y) (pc : Nat) (ls : jm_Ls) (st : List Value) (M : jm_M) (Q : Option Value → jm_M → Prop) : Prop :=
  ∀ (p : Program) (l : Launch) (e : Env) (R : Room) (s : State) (m : MethodId) (args : Array Value) (below : List Frame) (meth : Method) (c : Code) (cells slots : Nat) (Z : State → Prop) (A : Nat → Prop) (D : va_G) (aC ad : Nat → Nat),
    jm_ctx sc Y p R s m args c cells slots A D aC ad →
    (∀ (v : Int32) (M1 : jm_M) (H1 : Heap) (locs1 : List Loc) (pc1 : Nat) (ls1 : Array Slot) (ty : FieldType), Q (some (.int v)) M1 → va_P D classes (jm_ws aC ad M1) H1 → va_S A s.heap H1 locs1 → Y.2.2.2.1 = some ty → narrow ty (.int v) = .int v → decode Y.2.1 pc1 = .ok (.ireturn, 1) → W p l e R s m args below meth c H1 locs1 cells slots Z (F0 m pc1 ls1 [.int v])) →
    (∀ (M1 : jm_M) (H1 : Heap) (locs1 : List Loc) (pc1 : Nat) (ls1 : Array Slot), Q none M1 → va_P D classes (jm_ws aC ad M1) H1 → va_S A s.heap H1 locs1 → Y.2.2.2.1 = none → decode Y.2.1 pc1 = .ok (.return_, 1) → W p l e R s m args below meth c H1 locs1 cells slots Z (F0 m pc1 ls1 [])) →
    ∀ (H : Heap) (locs : List Loc) (lsA : Array Slot), va_P D classes (jm_ws aC ad M) H → va_S A s.heap H locs → jm_L ad ls lsA → lsA.size = Y.2.2.1 → W p l e R s m args below meth c H locs cells slots Z (F0 m pc lsA (st.map (jm_v ad)))
