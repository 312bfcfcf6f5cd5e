/-! one rule an instruction -/
theorem jm_iconst {sc : jm_S} {Y : jm_Y} {pc : Nat} {ls : jm_Ls} {st : List Value} {M : jm_M} {Q : Option Value → jm_M → Prop} {n : Int} {v : Int32} (d : decode Y.2.1 pc = .ok (.iconst n, 1)) (hv : Int32.ofInt n = v) (k : jm_J sc Y (pc + 1) ls (.int v :: st) M Q) : jm_J sc Y pc ls (st) M Q := by
  intro p l e R s m args below meth c cells slots Z A D aC ad C hI hV H locs lsA hP hS hL hz
  exact lv_iconst C.1 C.2.1 d hv (k p l e R s m args below meth c cells slots Z A D aC ad C hI hV H locs lsA hP hS hL hz)
theorem jm_bipush {sc : jm_S} {Y : jm_Y} {pc : Nat} {ls : jm_Ls} {st : List Value} {M : jm_M} {Q : Option Value → jm_M → Prop} {n : Int} {v : Int32} (d : decode Y.2.1 pc = .ok (.bipush n, 2)) (hv : (Int8.ofInt n).toInt32 = v) (k : jm_J sc Y (pc + 2) ls (.int v :: st) M Q) : jm_J sc Y pc ls (st) M Q := by
  intro p l e R s m args below meth c cells slots Z A D aC ad C hI hV H locs lsA hP hS hL hz
  exact lv_bipush C.1 C.2.1 d hv (k p l e R s m args below meth c cells slots Z A D aC ad C hI hV H locs lsA hP hS hL hz)
theorem jm_sipush {sc : jm_S} {Y : jm_Y} {pc : Nat} {ls : jm_Ls} {st : List Value} {M : jm_M} {Q : Option Value → jm_M → Prop} {n : Int} {v : Int32} (d : decode Y.2.1 pc = .ok (.sipush n, 3)) (hv : (Int16.ofInt n).toInt32 = v) (k : jm_J sc Y (pc + 3) ls (.int v :: st) M Q) : jm_J sc Y pc ls (st) M Q := by
  intro p l e R s m args below meth c cells slots Z A D aC ad C hI hV H locs lsA hP hS hL hz
  exact lv_sipush C.1 C.2.1 d hv (k p l e R s m args below meth c cells slots Z A D aC ad C hI hV H locs lsA hP hS hL hz)
theorem jm_ldc {sc : jm_S} {Y : jm_Y} {pc : Nat} {ls : jm_Ls} {st : List Value} {M : jm_M} {Q : Option Value → jm_M → Prop} {idx : Nat} {v : Int32} (d : decode Y.2.1 pc = .ok (.ldc idx, 2)) (hw : Cond.constant Y.1.cls idx v ∈ jm_tb) (k : jm_J sc Y (pc + 2) ls (.int v :: st) M Q) : jm_J sc Y pc ls (st) M Q := by
  intro p l e R s m args below meth c cells slots Z A D aC ad C hI hV H locs lsA hP hS hL hz
  exact lv_ldc C.1 C.2.1 C.2.2.2.1 (C.2.2.2.2.1 _ hw) d (k p l e R s m args below meth c cells slots Z A D aC ad C hI hV H locs lsA hP hS hL hz)
theorem jm_ldcw {sc : jm_S} {Y : jm_Y} {pc : Nat} {ls : jm_Ls} {st : List Value} {M : jm_M} {Q : Option Value → jm_M → Prop} {idx : Nat} {v : Int32} (d : decode Y.2.1 pc = .ok (.ldc_w idx, 3)) (hw : Cond.constant Y.1.cls idx v ∈ jm_tb) (k : jm_J sc Y (pc + 3) ls (.int v :: st) M Q) : jm_J sc Y pc ls (st) M Q := by
  intro p l e R s m args below meth c cells slots Z A D aC ad C hI hV H locs lsA hP hS hL hz
  exact lv_ldcw C.1 C.2.1 C.2.2.2.1 (C.2.2.2.2.1 _ hw) d (k p l e R s m args below meth c cells slots Z A D aC ad C hI hV H locs lsA hP hS hL hz)
theorem jm_ldc2 {sc : jm_S} {Y : jm_Y} {pc : Nat} {ls : jm_Ls} {st : List Value} {M : jm_M} {Q : Option Value → jm_M → Prop} {idx : Nat} {v : Int64} (d : decode Y.2.1 pc = .ok (.ldc2_w idx, 3)) (hw : Cond.constantLong Y.1.cls idx v ∈ jm_tb) (k : jm_J sc Y (pc + 3) ls (.long v :: st) M Q) : jm_J sc Y pc ls (st) M Q := by
  intro p l e R s m args below meth c cells slots Z A D aC ad C hI hV H locs lsA hP hS hL hz
  exact lv_ldc2 C.1 C.2.1 C.2.2.2.1 (C.2.2.2.2.1 _ hw) d (k p l e R s m args below meth c cells slots Z A D aC ad C hI hV H locs lsA hP hS hL hz)
theorem jm_iload_n {sc : jm_S} {Y : jm_Y} {pc : Nat} {ls : jm_Ls} {st : List Value} {M : jm_M} {Q : Option Value → jm_M → Prop} {k0 : Fin 4} {x : Int32} (d : decode Y.2.1 pc = .ok (.iload_n k0, 1)) (hl : ls[(k0 : Nat)]? = some (some (.int x))) (k : jm_J sc Y (pc + 1) ls (.int x :: st) M Q) : jm_J sc Y pc ls (st) M Q := by
  intro p l e R s m args below meth c cells slots Z A D aC ad C hI hV H locs lsA hP hS hL hz
  exact lv_iload_n C.1 C.2.1 d rfl (hL.2.2 _ _ hl) (k p l e R s m args below meth c cells slots Z A D aC ad C hI hV H locs lsA hP hS hL hz)
theorem jm_iload {sc : jm_S} {Y : jm_Y} {pc : Nat} {ls : jm_Ls} {st : List Value} {M : jm_M} {Q : Option Value → jm_M → Prop} {i : Nat} {x : Int32} (d : decode Y.2.1 pc = .ok (.iload i, 2)) (hl : ls[i]? = some (some (.int x))) (k : jm_J sc Y (pc + 2) ls (.int x :: st) M Q) : jm_J sc Y pc ls (st) M Q := by
  intro p l e R s m args below meth c cells slots Z A D aC ad C hI hV H locs lsA hP hS hL hz
  exact lv_iload C.1 C.2.1 d (hL.2.2 _ _ hl) (k p l e R s m args below meth c cells slots Z A D aC ad C hI hV H locs lsA hP hS hL hz)
theorem jm_lload_n {sc : jm_S} {Y : jm_Y} {pc : Nat} {ls : jm_Ls} {st : List Value} {M : jm_M} {Q : Option Value → jm_M → Prop} {k0 : Fin 4} {x : Int64} (d : decode Y.2.1 pc = .ok (.lload_n k0, 1)) (hl : ls[(k0 : Nat)]? = some (some (.long x))) (k : jm_J sc Y (pc + 1) ls (.long x :: st) M Q) : jm_J sc Y pc ls (st) M Q := by
  intro p l e R s m args below meth c cells slots Z A D aC ad C hI hV H locs lsA hP hS hL hz
  exact lv_lload_n C.1 C.2.1 d rfl (hL.2.2 _ _ hl) (k p l e R s m args below meth c cells slots Z A D aC ad C hI hV H locs lsA hP hS hL hz)
theorem jm_lload {sc : jm_S} {Y : jm_Y} {pc : Nat} {ls : jm_Ls} {st : List Value} {M : jm_M} {Q : Option Value → jm_M → Prop} {i : Nat} {x : Int64} (d : decode Y.2.1 pc = .ok (.lload i, 2)) (hl : ls[i]? = some (some (.long x))) (k : jm_J sc Y (pc + 2) ls (.long x :: st) M Q) : jm_J sc Y pc ls (st) M Q := by
  intro p l e R s m args below meth c cells slots Z A D aC ad C hI hV H locs lsA hP hS hL hz
  exact lv_lload C.1 C.2.1 d (hL.2.2 _ _ hl) (k p l e R s m args below meth c cells slots Z A D aC ad C hI hV H locs lsA hP hS hL hz)
theorem jm_aload_n {sc : jm_S} {Y : jm_Y} {pc : Nat} {ls : jm_Ls} {st : List Value} {M : jm_M} {Q : Option Value → jm_M → Prop} {k0 : Fin 4} {x : Nat} (d : decode Y.2.1 pc = .ok (.aload_n k0, 1)) (hl : ls[(k0 : Nat)]? = some (some (.ref x))) (k : jm_J sc Y (pc + 1) ls (.ref x :: st) M Q) : jm_J sc Y pc ls (st) M Q := by
  intro p l e R s m args below meth c cells slots Z A D aC ad C hI hV H locs lsA hP hS hL hz
  exact lv_aload_n C.1 C.2.1 d rfl (hL.2.2 _ _ hl) (k p l e R s m args below meth c cells slots Z A D aC ad C hI hV H locs lsA hP hS hL hz)
theorem jm_aload {sc : jm_S} {Y : jm_Y} {pc : Nat} {ls : jm_Ls} {st : List Value} {M : jm_M} {Q : Option Value → jm_M → Prop} {i : Nat} {x : Nat} (d : decode Y.2.1 pc = .ok (.aload i, 2)) (hl : ls[i]? = some (some (.ref x))) (k : jm_J sc Y (pc + 2) ls (.ref x :: st) M Q) : jm_J sc Y pc ls (st) M Q := by
  intro p l e R s m args below meth c cells slots Z A D aC ad C hI hV H locs lsA hP hS hL hz
  exact lv_aload C.1 C.2.1 d (hL.2.2 _ _ hl) (k p l e R s m args below meth c cells slots Z A D aC ad C hI hV H locs lsA hP hS hL hz)
theorem jm_istore_n {sc : jm_S} {Y : jm_Y} {pc : Nat} {ls : jm_Ls} {st : List Value} {M : jm_M} {Q : Option Value → jm_M → Prop} {k0 : Fin 4} {x : Int32} (d : decode Y.2.1 pc = .ok (.istore_n k0, 1)) (hi : (k0 : Nat) < ls.length) (hno : jm_no ls (k0 : Nat) = true) (k : jm_J sc Y (pc + 1) (jm_st ls (k0 : Nat) (some (.int x))) st M Q) : jm_J sc Y pc ls (.int x :: st) M Q := by
  intro p l e R s m args below meth c cells slots Z A D aC ad C hI hV H locs lsA hP hS hL hz
  exact lv_istore_n C.1 C.2.1 d rfl (jm_L_has hL) hi rfl (fun ls' h' => k p l e R s m args below meth c cells slots Z A D aC ad C hI hV H locs ls' hP hS (jm_L_st (v := .int x) hi hno h') (by rw [h'.1, ← hL.1]; exact hz))
theorem jm_istore {sc : jm_S} {Y : jm_Y} {pc : Nat} {ls : jm_Ls} {st : List Value} {M : jm_M} {Q : Option Value → jm_M → Prop} {i : Nat} {x : Int32} (d : decode Y.2.1 pc = .ok (.istore i, 2)) (hi : i < ls.length) (hno : jm_no ls i = true) (k : jm_J sc Y (pc + 2) (jm_st ls i (some (.int x))) st M Q) : jm_J sc Y pc ls (.int x :: st) M Q := by
  intro p l e R s m args below meth c cells slots Z A D aC ad C hI hV H locs lsA hP hS hL hz
  exact lv_istore C.1 C.2.1 d (jm_L_has hL) hi rfl (fun ls' h' => k p l e R s m args below meth c cells slots Z A D aC ad C hI hV H locs ls' hP hS (jm_L_st (v := .int x) hi hno h') (by rw [h'.1, ← hL.1]; exact hz))
theorem jm_lstore_n {sc : jm_S} {Y : jm_Y} {pc : Nat} {ls : jm_Ls} {st : List Value} {M : jm_M} {Q : Option Value → jm_M → Prop} {k0 : Fin 4} {x : Int64} (d : decode Y.2.1 pc = .ok (.lstore_n k0, 1)) (hi : (k0 : Nat) + 1 < ls.length) (hno : jm_no ls (k0 : Nat) = true) (k : jm_J sc Y (pc + 1) (jm_st (jm_st ls ((k0 : Nat) + 1) none) (k0 : Nat) (some (.long x))) st M Q) : jm_J sc Y pc ls (.long x :: st) M Q := by
  intro p l e R s m args below meth c cells slots Z A D aC ad C hI hV H locs lsA hP hS hL hz
  exact lv_lstore_n C.1 C.2.1 d rfl (jm_L_has hL) hi rfl (fun ls' h' => k p l e R s m args below meth c cells slots Z A D aC ad C hI hV H locs ls' hP hS (jm_L_st2 (v := .long x) hi hno h') (by rw [h'.1, ← hL.1]; exact hz))
theorem jm_lstore {sc : jm_S} {Y : jm_Y} {pc : Nat} {ls : jm_Ls} {st : List Value} {M : jm_M} {Q : Option Value → jm_M → Prop} {i : Nat} {x : Int64} (d : decode Y.2.1 pc = .ok (.lstore i, 2)) (hi : i + 1 < ls.length) (hno : jm_no ls i = true) (k : jm_J sc Y (pc + 2) (jm_st (jm_st ls (i + 1) none) i (some (.long x))) st M Q) : jm_J sc Y pc ls (.long x :: st) M Q := by
  intro p l e R s m args below meth c cells slots Z A D aC ad C hI hV H locs lsA hP hS hL hz
  exact lv_lstore C.1 C.2.1 d (jm_L_has hL) hi rfl (fun ls' h' => k p l e R s m args below meth c cells slots Z A D aC ad C hI hV H locs ls' hP hS (jm_L_st2 (v := .long x) hi hno h') (by rw [h'.1, ← hL.1]; exact hz))
theorem jm_astore_n {sc : jm_S} {Y : jm_Y} {pc : Nat} {ls : jm_Ls} {st : List Value} {M : jm_M} {Q : Option Value → jm_M → Prop} {k0 : Fin 4} {x : Nat} (d : decode Y.2.1 pc = .ok (.astore_n k0, 1)) (hi : (k0 : Nat) < ls.length) (hno : jm_no ls (k0 : Nat) = true) (k : jm_J sc Y (pc + 1) (jm_st ls (k0 : Nat) (some (.ref x))) st M Q) : jm_J sc Y pc ls (.ref x :: st) M Q := by
  intro p l e R s m args below meth c cells slots Z A D aC ad C hI hV H locs lsA hP hS hL hz
  exact lv_astore_n C.1 C.2.1 d rfl (jm_L_has hL) hi rfl (fun ls' h' => k p l e R s m args below meth c cells slots Z A D aC ad C hI hV H locs ls' hP hS (jm_L_st (v := .ref x) hi hno h') (by rw [h'.1, ← hL.1]; exact hz))
theorem jm_astore {sc : jm_S} {Y : jm_Y} {pc : Nat} {ls : jm_Ls} {st : List Value} {M : jm_M} {Q : Option Value → jm_M → Prop} {i : Nat} {x : Nat} (d : decode Y.2.1 pc = .ok (.astore i, 2)) (hi : i < ls.length) (hno : jm_no ls i = true) (k : jm_J sc Y (pc + 2) (jm_st ls i (some (.ref x))) st M Q) : jm_J sc Y pc ls (.ref x :: st) M Q := by
  intro p l e R s m args below meth c cells slots Z A D aC ad C hI hV H locs lsA hP hS hL hz
  exact lv_astore C.1 C.2.1 d (jm_L_has hL) hi rfl (fun ls' h' => k p l e R s m args below meth c cells slots Z A D aC ad C hI hV H locs ls' hP hS (jm_L_st (v := .ref x) hi hno h') (by rw [h'.1, ← hL.1]; exact hz))
theorem jm_iinc {sc : jm_S} {Y : jm_Y} {pc : Nat} {ls : jm_Ls} {st : List Value} {M : jm_M} {Q : Option Value → jm_M → Prop} {i : Nat} {n : Int} {x : Int32} (d : decode Y.2.1 pc = .ok (.iinc i n, 3)) (hl : ls[i]? = some (some (.int x))) (hno : jm_no ls i = true) (k : jm_J sc Y (pc + 3) (jm_st ls i (some (.int (x + Int32.ofInt n)))) st M Q) : jm_J sc Y pc ls st M Q := by
  intro p l e R s m args below meth c cells slots Z A D aC ad C hI hV H locs lsA hP hS hL hz
  have hi : i < ls.length := (List.getElem?_eq_some_iff.mp hl).1
  obtain ⟨k0, hk0⟩ := List.getElem?_of_mem (jm_pr_mem (ad := ad) hl)
  exact lv_iinc C.1 C.2.1 d (jm_L_has hL) (k := k0) hk0 rfl hi rfl (fun ls' h' => k p l e R s m args below meth c cells slots Z A D aC ad C hI hV H locs ls' hP hS (jm_L_st (v := .int (x + Int32.ofInt n)) hi hno h') (by rw [h'.1, ← hL.1]; exact hz))
theorem jm_iadd {sc : jm_S} {Y : jm_Y} {pc : Nat} {ls : jm_Ls} {st : List Value} {M : jm_M} {Q : Option Value → jm_M → Prop} {x y : Int32} (d : decode Y.2.1 pc = .ok (.iadd, 1))  (k : jm_J sc Y (pc + 1) ls (.int (x + y) :: st) M Q) : jm_J sc Y pc ls (.int y :: .int x :: st) M Q := by
  intro p l e R s m args below meth c cells slots Z A D aC ad C hI hV H locs lsA hP hS hL hz
  exact lv_iadd C.1 C.2.1 d (k p l e R s m args below meth c cells slots Z A D aC ad C hI hV H locs lsA hP hS hL hz)
theorem jm_isub {sc : jm_S} {Y : jm_Y} {pc : Nat} {ls : jm_Ls} {st : List Value} {M : jm_M} {Q : Option Value → jm_M → Prop} {x y : Int32} (d : decode Y.2.1 pc = .ok (.isub, 1))  (k : jm_J sc Y (pc + 1) ls (.int (x - y) :: st) M Q) : jm_J sc Y pc ls (.int y :: .int x :: st) M Q := by
  intro p l e R s m args below meth c cells slots Z A D aC ad C hI hV H locs lsA hP hS hL hz
  exact lv_isub C.1 C.2.1 d (k p l e R s m args below meth c cells slots Z A D aC ad C hI hV H locs lsA hP hS hL hz)
theorem jm_imul {sc : jm_S} {Y : jm_Y} {pc : Nat} {ls : jm_Ls} {st : List Value} {M : jm_M} {Q : Option Value → jm_M → Prop} {x y : Int32} (d : decode Y.2.1 pc = .ok (.imul, 1))  (k : jm_J sc Y (pc + 1) ls (.int (x * y) :: st) M Q) : jm_J sc Y pc ls (.int y :: .int x :: st) M Q := by
  intro p l e R s m args below meth c cells slots Z A D aC ad C hI hV H locs lsA hP hS hL hz
  exact lv_imul C.1 C.2.1 d (k p l e R s m args below meth c cells slots Z A D aC ad C hI hV H locs lsA hP hS hL hz)
theorem jm_iand {sc : jm_S} {Y : jm_Y} {pc : Nat} {ls : jm_Ls} {st : List Value} {M : jm_M} {Q : Option Value → jm_M → Prop} {x y : Int32} (d : decode Y.2.1 pc = .ok (.iand, 1))  (k : jm_J sc Y (pc + 1) ls (.int (x &&& y) :: st) M Q) : jm_J sc Y pc ls (.int y :: .int x :: st) M Q := by
  intro p l e R s m args below meth c cells slots Z A D aC ad C hI hV H locs lsA hP hS hL hz
  exact lv_iand C.1 C.2.1 d (k p l e R s m args below meth c cells slots Z A D aC ad C hI hV H locs lsA hP hS hL hz)
theorem jm_ior {sc : jm_S} {Y : jm_Y} {pc : Nat} {ls : jm_Ls} {st : List Value} {M : jm_M} {Q : Option Value → jm_M → Prop} {x y : Int32} (d : decode Y.2.1 pc = .ok (.ior, 1))  (k : jm_J sc Y (pc + 1) ls (.int (x ||| y) :: st) M Q) : jm_J sc Y pc ls (.int y :: .int x :: st) M Q := by
  intro p l e R s m args below meth c cells slots Z A D aC ad C hI hV H locs lsA hP hS hL hz
  exact lv_ior C.1 C.2.1 d (k p l e R s m args below meth c cells slots Z A D aC ad C hI hV H locs lsA hP hS hL hz)
theorem jm_ixor {sc : jm_S} {Y : jm_Y} {pc : Nat} {ls : jm_Ls} {st : List Value} {M : jm_M} {Q : Option Value → jm_M → Prop} {x y : Int32} (d : decode Y.2.1 pc = .ok (.ixor, 1))  (k : jm_J sc Y (pc + 1) ls (.int (x ^^^ y) :: st) M Q) : jm_J sc Y pc ls (.int y :: .int x :: st) M Q := by
  intro p l e R s m args below meth c cells slots Z A D aC ad C hI hV H locs lsA hP hS hL hz
  exact lv_ixor C.1 C.2.1 d (k p l e R s m args below meth c cells slots Z A D aC ad C hI hV H locs lsA hP hS hL hz)
theorem jm_ishl {sc : jm_S} {Y : jm_Y} {pc : Nat} {ls : jm_Ls} {st : List Value} {M : jm_M} {Q : Option Value → jm_M → Prop} {x y : Int32} (d : decode Y.2.1 pc = .ok (.ishl, 1))  (k : jm_J sc Y (pc + 1) ls (.int (x <<< (y &&& 31)) :: st) M Q) : jm_J sc Y pc ls (.int y :: .int x :: st) M Q := by
  intro p l e R s m args below meth c cells slots Z A D aC ad C hI hV H locs lsA hP hS hL hz
  exact lv_ishl C.1 C.2.1 d (k p l e R s m args below meth c cells slots Z A D aC ad C hI hV H locs lsA hP hS hL hz)
theorem jm_ishr {sc : jm_S} {Y : jm_Y} {pc : Nat} {ls : jm_Ls} {st : List Value} {M : jm_M} {Q : Option Value → jm_M → Prop} {x y : Int32} (d : decode Y.2.1 pc = .ok (.ishr, 1))  (k : jm_J sc Y (pc + 1) ls (.int (x >>> (y &&& 31)) :: st) M Q) : jm_J sc Y pc ls (.int y :: .int x :: st) M Q := by
  intro p l e R s m args below meth c cells slots Z A D aC ad C hI hV H locs lsA hP hS hL hz
  exact lv_ishr C.1 C.2.1 d (k p l e R s m args below meth c cells slots Z A D aC ad C hI hV H locs lsA hP hS hL hz)
theorem jm_idiv {sc : jm_S} {Y : jm_Y} {pc : Nat} {ls : jm_Ls} {st : List Value} {M : jm_M} {Q : Option Value → jm_M → Prop} {x y : Int32} (d : decode Y.2.1 pc = .ok (.idiv, 1)) (hne : ¬ y = 0) (k : jm_J sc Y (pc + 1) ls (.int (x / y) :: st) M Q) : jm_J sc Y pc ls (.int y :: .int x :: st) M Q := by
  intro p l e R s m args below meth c cells slots Z A D aC ad C hI hV H locs lsA hP hS hL hz
  exact lv_idiv C.1 C.2.1 d hne (k p l e R s m args below meth c cells slots Z A D aC ad C hI hV H locs lsA hP hS hL hz)
theorem jm_irem {sc : jm_S} {Y : jm_Y} {pc : Nat} {ls : jm_Ls} {st : List Value} {M : jm_M} {Q : Option Value → jm_M → Prop} {x y : Int32} (d : decode Y.2.1 pc = .ok (.irem, 1)) (hne : ¬ y = 0) (k : jm_J sc Y (pc + 1) ls (.int (x - x / y * y) :: st) M Q) : jm_J sc Y pc ls (.int y :: .int x :: st) M Q := by
  intro p l e R s m args below meth c cells slots Z A D aC ad C hI hV H locs lsA hP hS hL hz
  exact lv_irem C.1 C.2.1 d hne (k p l e R s m args below meth c cells slots Z A D aC ad C hI hV H locs lsA hP hS hL hz)
theorem jm_iushr {sc : jm_S} {Y : jm_Y} {pc : Nat} {ls : jm_Ls} {st : List Value} {M : jm_M} {Q : Option Value → jm_M → Prop} {x y : Int32} (d : decode Y.2.1 pc = .ok (.iushr, 1))  (k : jm_J sc Y (pc + 1) ls (.int ((x.toUInt32 >>> (y.toUInt32 &&& Int32.toUInt32 31)).toInt32) :: st) M Q) : jm_J sc Y pc ls (.int y :: .int x :: st) M Q := by
  intro p l e R s m args below meth c cells slots Z A D aC ad C hI hV H locs lsA hP hS hL hz
  exact lv_iushr C.1 C.2.1 d rfl (k p l e R s m args below meth c cells slots Z A D aC ad C hI hV H locs lsA hP hS hL hz)
theorem jm_ineg {sc : jm_S} {Y : jm_Y} {pc : Nat} {ls : jm_Ls} {st : List Value} {M : jm_M} {Q : Option Value → jm_M → Prop} {x : Int32} (d : decode Y.2.1 pc = .ok (.ineg, 1))  (k : jm_J sc Y (pc + 1) ls (.int (-x) :: st) M Q) : jm_J sc Y pc ls (.int x :: st) M Q := by
  intro p l e R s m args below meth c cells slots Z A D aC ad C hI hV H locs lsA hP hS hL hz
  exact lv_ineg C.1 C.2.1 d (k p l e R s m args below meth c cells slots Z A D aC ad C hI hV H locs lsA hP hS hL hz)
theorem jm_lmul {sc : jm_S} {Y : jm_Y} {pc : Nat} {ls : jm_Ls} {st : List Value} {M : jm_M} {Q : Option Value → jm_M → Prop} {x y : Int64} (d : decode Y.2.1 pc = .ok (.lmul, 1))  (k : jm_J sc Y (pc + 1) ls (.long (x * y) :: st) M Q) : jm_J sc Y pc ls (.long y :: .long x :: st) M Q := by
  intro p l e R s m args below meth c cells slots Z A D aC ad C hI hV H locs lsA hP hS hL hz
  exact lv_lmul C.1 C.2.1 d (k p l e R s m args below meth c cells slots Z A D aC ad C hI hV H locs lsA hP hS hL hz)
theorem jm_lrem {sc : jm_S} {Y : jm_Y} {pc : Nat} {ls : jm_Ls} {st : List Value} {M : jm_M} {Q : Option Value → jm_M → Prop} {x y : Int64} (d : decode Y.2.1 pc = .ok (.lrem, 1)) (hne : ¬ y = 0) (k : jm_J sc Y (pc + 1) ls (.long (x - x / y * y) :: st) M Q) : jm_J sc Y pc ls (.long y :: .long x :: st) M Q := by
  intro p l e R s m args below meth c cells slots Z A D aC ad C hI hV H locs lsA hP hS hL hz
  exact lv_lrem C.1 C.2.1 d hne (k p l e R s m args below meth c cells slots Z A D aC ad C hI hV H locs lsA hP hS hL hz)
theorem jm_i2l {sc : jm_S} {Y : jm_Y} {pc : Nat} {ls : jm_Ls} {st : List Value} {M : jm_M} {Q : Option Value → jm_M → Prop} {x : Int32} (d : decode Y.2.1 pc = .ok (.i2l, 1))  (k : jm_J sc Y (pc + 1) ls (.long (x.toInt64) :: st) M Q) : jm_J sc Y pc ls (.int x :: st) M Q := by
  intro p l e R s m args below meth c cells slots Z A D aC ad C hI hV H locs lsA hP hS hL hz
  exact lv_i2l C.1 C.2.1 d rfl (k p l e R s m args below meth c cells slots Z A D aC ad C hI hV H locs lsA hP hS hL hz)
theorem jm_l2i {sc : jm_S} {Y : jm_Y} {pc : Nat} {ls : jm_Ls} {st : List Value} {M : jm_M} {Q : Option Value → jm_M → Prop} {x : Int64} (d : decode Y.2.1 pc = .ok (.l2i, 1))  (k : jm_J sc Y (pc + 1) ls (.int (x.toInt32) :: st) M Q) : jm_J sc Y pc ls (.long x :: st) M Q := by
  intro p l e R s m args below meth c cells slots Z A D aC ad C hI hV H locs lsA hP hS hL hz
  exact lv_l2i C.1 C.2.1 d rfl (k p l e R s m args below meth c cells slots Z A D aC ad C hI hV H locs lsA hP hS hL hz)
theorem jm_i2b {sc : jm_S} {Y : jm_Y} {pc : Nat} {ls : jm_Ls} {st : List Value} {M : jm_M} {Q : Option Value → jm_M → Prop} {x : Int32} (d : decode Y.2.1 pc = .ok (.i2b, 1))  (k : jm_J sc Y (pc + 1) ls (.int (x.toInt8.toInt32) :: st) M Q) : jm_J sc Y pc ls (.int x :: st) M Q := by
  intro p l e R s m args below meth c cells slots Z A D aC ad C hI hV H locs lsA hP hS hL hz
  exact lv_i2b C.1 C.2.1 d rfl (k p l e R s m args below meth c cells slots Z A D aC ad C hI hV H locs lsA hP hS hL hz)
theorem jm_i2s {sc : jm_S} {Y : jm_Y} {pc : Nat} {ls : jm_Ls} {st : List Value} {M : jm_M} {Q : Option Value → jm_M → Prop} {x : Int32} (d : decode Y.2.1 pc = .ok (.i2s, 1))  (k : jm_J sc Y (pc + 1) ls (.int (x.toInt16.toInt32) :: st) M Q) : jm_J sc Y pc ls (.int x :: st) M Q := by
  intro p l e R s m args below meth c cells slots Z A D aC ad C hI hV H locs lsA hP hS hL hz
  exact lv_i2s C.1 C.2.1 d rfl (k p l e R s m args below meth c cells slots Z A D aC ad C hI hV H locs lsA hP hS hL hz)
theorem jm_dup {sc : jm_S} {Y : jm_Y} {pc : Nat} {ls : jm_Ls} {st : List Value} {M : jm_M} {Q : Option Value → jm_M → Prop} {v : Value} (d : decode Y.2.1 pc = .ok (.dup, 1)) (hv : v.category = 1) (k : jm_J sc Y (pc + 1) ls (v :: v :: st) M Q) : jm_J sc Y pc ls (v :: st) M Q := by
  intro p l e R s m args below meth c cells slots Z A D aC ad C hI hV H locs lsA hP hS hL hz
  exact lv_dup C.1 C.2.1 d (by rw [jm_v_cat]; exact hv) (k p l e R s m args below meth c cells slots Z A D aC ad C hI hV H locs lsA hP hS hL hz)
theorem jm_pop {sc : jm_S} {Y : jm_Y} {pc : Nat} {ls : jm_Ls} {st : List Value} {M : jm_M} {Q : Option Value → jm_M → Prop} {v : Value} (d : decode Y.2.1 pc = .ok (.pop, 1)) (hv : v.category = 1) (k : jm_J sc Y (pc + 1) ls (st) M Q) : jm_J sc Y pc ls (v :: st) M Q := by
  intro p l e R s m args below meth c cells slots Z A D aC ad C hI hV H locs lsA hP hS hL hz
  exact lv_pop C.1 C.2.1 d (by rw [jm_v_cat]; exact hv) (k p l e R s m args below meth c cells slots Z A D aC ad C hI hV H locs lsA hP hS hL hz)
theorem jm_dup2 {sc : jm_S} {Y : jm_Y} {pc : Nat} {ls : jm_Ls} {st : List Value} {M : jm_M} {Q : Option Value → jm_M → Prop} {v w : Value} (d : decode Y.2.1 pc = .ok (.dup2, 1)) (hv : v.category = 1) (hw : w.category = 1) (k : jm_J sc Y (pc + 1) ls (v :: w :: v :: w :: st) M Q) : jm_J sc Y pc ls (v :: w :: st) M Q := by
  intro p l e R s m args below meth c cells slots Z A D aC ad C hI hV H locs lsA hP hS hL hz
  exact lv_dup2_11 C.1 C.2.1 d (by rw [jm_v_cat]; exact hv) (by rw [jm_v_cat]; exact hw) (k p l e R s m args below meth c cells slots Z A D aC ad C hI hV H locs lsA hP hS hL hz)
theorem jm_if_eq {sc : jm_S} {Y : jm_Y} {pc : Nat} {ls : jm_Ls} {st : List Value} {M : jm_M} {Q : Option Value → jm_M → Prop} {x : Int32} {off : Int} {tgt : Nat} (d : decode Y.2.1 pc = .ok (.ifCond .eq off, 3)) (ht : (pc : Int) + off = (tgt : Int)) (kt : x = 0 → jm_J sc Y tgt ls st M Q) (kf : ¬ x = 0 → jm_J sc Y (pc + 3) ls st M Q) : jm_J sc Y pc ls (.int x :: st) M Q := by
  intro p l e R s m args below meth c cells slots Z A D aC ad C hI hV H locs lsA hP hS hL hz
  exact lv_if_eq C.1 C.2.1 d ht (fun h => kt h p l e R s m args below meth c cells slots Z A D aC ad C hI hV H locs lsA hP hS hL hz) (fun h => kf h p l e R s m args below meth c cells slots Z A D aC ad C hI hV H locs lsA hP hS hL hz)
theorem jm_icmp_eq {sc : jm_S} {Y : jm_Y} {pc : Nat} {ls : jm_Ls} {st : List Value} {M : jm_M} {Q : Option Value → jm_M → Prop} {x y : Int32} {off : Int} {tgt : Nat} (d : decode Y.2.1 pc = .ok (.if_icmp .eq off, 3)) (ht : (pc : Int) + off = (tgt : Int)) (kt : x = y → jm_J sc Y tgt ls st M Q) (kf : ¬ x = y → jm_J sc Y (pc + 3) ls st M Q) : jm_J sc Y pc ls (.int y :: .int x :: st) M Q := by
  intro p l e R s m args below meth c cells slots Z A D aC ad C hI hV H locs lsA hP hS hL hz
  exact lv_icmp_eq C.1 C.2.1 d ht (fun h => kt h p l e R s m args below meth c cells slots Z A D aC ad C hI hV H locs lsA hP hS hL hz) (fun h => kf h p l e R s m args below meth c cells slots Z A D aC ad C hI hV H locs lsA hP hS hL hz)
theorem jm_if_ne {sc : jm_S} {Y : jm_Y} {pc : Nat} {ls : jm_Ls} {st : List Value} {M : jm_M} {Q : Option Value → jm_M → Prop} {x : Int32} {off : Int} {tgt : Nat} (d : decode Y.2.1 pc = .ok (.ifCond .ne off, 3)) (ht : (pc : Int) + off = (tgt : Int)) (kt : ¬ x = 0 → jm_J sc Y tgt ls st M Q) (kf : x = 0 → jm_J sc Y (pc + 3) ls st M Q) : jm_J sc Y pc ls (.int x :: st) M Q := by
  intro p l e R s m args below meth c cells slots Z A D aC ad C hI hV H locs lsA hP hS hL hz
  exact lv_if_ne C.1 C.2.1 d ht (fun h => kt h p l e R s m args below meth c cells slots Z A D aC ad C hI hV H locs lsA hP hS hL hz) (fun h => kf h p l e R s m args below meth c cells slots Z A D aC ad C hI hV H locs lsA hP hS hL hz)
theorem jm_icmp_ne {sc : jm_S} {Y : jm_Y} {pc : Nat} {ls : jm_Ls} {st : List Value} {M : jm_M} {Q : Option Value → jm_M → Prop} {x y : Int32} {off : Int} {tgt : Nat} (d : decode Y.2.1 pc = .ok (.if_icmp .ne off, 3)) (ht : (pc : Int) + off = (tgt : Int)) (kt : ¬ x = y → jm_J sc Y tgt ls st M Q) (kf : x = y → jm_J sc Y (pc + 3) ls st M Q) : jm_J sc Y pc ls (.int y :: .int x :: st) M Q := by
  intro p l e R s m args below meth c cells slots Z A D aC ad C hI hV H locs lsA hP hS hL hz
  exact lv_icmp_ne C.1 C.2.1 d ht (fun h => kt h p l e R s m args below meth c cells slots Z A D aC ad C hI hV H locs lsA hP hS hL hz) (fun h => kf h p l e R s m args below meth c cells slots Z A D aC ad C hI hV H locs lsA hP hS hL hz)
theorem jm_if_lt {sc : jm_S} {Y : jm_Y} {pc : Nat} {ls : jm_Ls} {st : List Value} {M : jm_M} {Q : Option Value → jm_M → Prop} {x : Int32} {off : Int} {tgt : Nat} (d : decode Y.2.1 pc = .ok (.ifCond .lt off, 3)) (ht : (pc : Int) + off = (tgt : Int)) (kt : x < 0 → jm_J sc Y tgt ls st M Q) (kf : ¬ x < 0 → jm_J sc Y (pc + 3) ls st M Q) : jm_J sc Y pc ls (.int x :: st) M Q := by
  intro p l e R s m args below meth c cells slots Z A D aC ad C hI hV H locs lsA hP hS hL hz
  exact lv_if_lt C.1 C.2.1 d ht (fun h => kt h p l e R s m args below meth c cells slots Z A D aC ad C hI hV H locs lsA hP hS hL hz) (fun h => kf h p l e R s m args below meth c cells slots Z A D aC ad C hI hV H locs lsA hP hS hL hz)
theorem jm_icmp_lt {sc : jm_S} {Y : jm_Y} {pc : Nat} {ls : jm_Ls} {st : List Value} {M : jm_M} {Q : Option Value → jm_M → Prop} {x y : Int32} {off : Int} {tgt : Nat} (d : decode Y.2.1 pc = .ok (.if_icmp .lt off, 3)) (ht : (pc : Int) + off = (tgt : Int)) (kt : x < y → jm_J sc Y tgt ls st M Q) (kf : ¬ x < y → jm_J sc Y (pc + 3) ls st M Q) : jm_J sc Y pc ls (.int y :: .int x :: st) M Q := by
  intro p l e R s m args below meth c cells slots Z A D aC ad C hI hV H locs lsA hP hS hL hz
  exact lv_icmp_lt C.1 C.2.1 d ht (fun h => kt h p l e R s m args below meth c cells slots Z A D aC ad C hI hV H locs lsA hP hS hL hz) (fun h => kf h p l e R s m args below meth c cells slots Z A D aC ad C hI hV H locs lsA hP hS hL hz)
theorem jm_if_ge {sc : jm_S} {Y : jm_Y} {pc : Nat} {ls : jm_Ls} {st : List Value} {M : jm_M} {Q : Option Value → jm_M → Prop} {x : Int32} {off : Int} {tgt : Nat} (d : decode Y.2.1 pc = .ok (.ifCond .ge off, 3)) (ht : (pc : Int) + off = (tgt : Int)) (kt : 0 ≤ x → jm_J sc Y tgt ls st M Q) (kf : ¬ 0 ≤ x → jm_J sc Y (pc + 3) ls st M Q) : jm_J sc Y pc ls (.int x :: st) M Q := by
  intro p l e R s m args below meth c cells slots Z A D aC ad C hI hV H locs lsA hP hS hL hz
  exact lv_if_ge C.1 C.2.1 d ht (fun h => kt h p l e R s m args below meth c cells slots Z A D aC ad C hI hV H locs lsA hP hS hL hz) (fun h => kf h p l e R s m args below meth c cells slots Z A D aC ad C hI hV H locs lsA hP hS hL hz)
theorem jm_icmp_ge {sc : jm_S} {Y : jm_Y} {pc : Nat} {ls : jm_Ls} {st : List Value} {M : jm_M} {Q : Option Value → jm_M → Prop} {x y : Int32} {off : Int} {tgt : Nat} (d : decode Y.2.1 pc = .ok (.if_icmp .ge off, 3)) (ht : (pc : Int) + off = (tgt : Int)) (kt : y ≤ x → jm_J sc Y tgt ls st M Q) (kf : ¬ y ≤ x → jm_J sc Y (pc + 3) ls st M Q) : jm_J sc Y pc ls (.int y :: .int x :: st) M Q := by
  intro p l e R s m args below meth c cells slots Z A D aC ad C hI hV H locs lsA hP hS hL hz
  exact lv_icmp_ge C.1 C.2.1 d ht (fun h => kt h p l e R s m args below meth c cells slots Z A D aC ad C hI hV H locs lsA hP hS hL hz) (fun h => kf h p l e R s m args below meth c cells slots Z A D aC ad C hI hV H locs lsA hP hS hL hz)
theorem jm_if_gt {sc : jm_S} {Y : jm_Y} {pc : Nat} {ls : jm_Ls} {st : List Value} {M : jm_M} {Q : Option Value → jm_M → Prop} {x : Int32} {off : Int} {tgt : Nat} (d : decode Y.2.1 pc = .ok (.ifCond .gt off, 3)) (ht : (pc : Int) + off = (tgt : Int)) (kt : 0 < x → jm_J sc Y tgt ls st M Q) (kf : ¬ 0 < x → jm_J sc Y (pc + 3) ls st M Q) : jm_J sc Y pc ls (.int x :: st) M Q := by
  intro p l e R s m args below meth c cells slots Z A D aC ad C hI hV H locs lsA hP hS hL hz
  exact lv_if_gt C.1 C.2.1 d ht (fun h => kt h p l e R s m args below meth c cells slots Z A D aC ad C hI hV H locs lsA hP hS hL hz) (fun h => kf h p l e R s m args below meth c cells slots Z A D aC ad C hI hV H locs lsA hP hS hL hz)
theorem jm_icmp_gt {sc : jm_S} {Y : jm_Y} {pc : Nat} {ls : jm_Ls} {st : List Value} {M : jm_M} {Q : Option Value → jm_M → Prop} {x y : Int32} {off : Int} {tgt : Nat} (d : decode Y.2.1 pc = .ok (.if_icmp .gt off, 3)) (ht : (pc : Int) + off = (tgt : Int)) (kt : y < x → jm_J sc Y tgt ls st M Q) (kf : ¬ y < x → jm_J sc Y (pc + 3) ls st M Q) : jm_J sc Y pc ls (.int y :: .int x :: st) M Q := by
  intro p l e R s m args below meth c cells slots Z A D aC ad C hI hV H locs lsA hP hS hL hz
  exact lv_icmp_gt C.1 C.2.1 d ht (fun h => kt h p l e R s m args below meth c cells slots Z A D aC ad C hI hV H locs lsA hP hS hL hz) (fun h => kf h p l e R s m args below meth c cells slots Z A D aC ad C hI hV H locs lsA hP hS hL hz)
theorem jm_if_le {sc : jm_S} {Y : jm_Y} {pc : Nat} {ls : jm_Ls} {st : List Value} {M : jm_M} {Q : Option Value → jm_M → Prop} {x : Int32} {off : Int} {tgt : Nat} (d : decode Y.2.1 pc = .ok (.ifCond .le off, 3)) (ht : (pc : Int) + off = (tgt : Int)) (kt : x ≤ 0 → jm_J sc Y tgt ls st M Q) (kf : ¬ x ≤ 0 → jm_J sc Y (pc + 3) ls st M Q) : jm_J sc Y pc ls (.int x :: st) M Q := by
  intro p l e R s m args below meth c cells slots Z A D aC ad C hI hV H locs lsA hP hS hL hz
  exact lv_if_le C.1 C.2.1 d ht (fun h => kt h p l e R s m args below meth c cells slots Z A D aC ad C hI hV H locs lsA hP hS hL hz) (fun h => kf h p l e R s m args below meth c cells slots Z A D aC ad C hI hV H locs lsA hP hS hL hz)
theorem jm_icmp_le {sc : jm_S} {Y : jm_Y} {pc : Nat} {ls : jm_Ls} {st : List Value} {M : jm_M} {Q : Option Value → jm_M → Prop} {x y : Int32} {off : Int} {tgt : Nat} (d : decode Y.2.1 pc = .ok (.if_icmp .le off, 3)) (ht : (pc : Int) + off = (tgt : Int)) (kt : x ≤ y → jm_J sc Y tgt ls st M Q) (kf : ¬ x ≤ y → jm_J sc Y (pc + 3) ls st M Q) : jm_J sc Y pc ls (.int y :: .int x :: st) M Q := by
  intro p l e R s m args below meth c cells slots Z A D aC ad C hI hV H locs lsA hP hS hL hz
  exact lv_icmp_le C.1 C.2.1 d ht (fun h => kt h p l e R s m args below meth c cells slots Z A D aC ad C hI hV H locs lsA hP hS hL hz) (fun h => kf h p l e R s m args below meth c cells slots Z A D aC ad C hI hV H locs lsA hP hS hL hz)
theorem jm_goto {sc : jm_S} {Y : jm_Y} {pc : Nat} {ls : jm_Ls} {st : List Value} {M : jm_M} {Q : Option Value → jm_M → Prop} {off : Int} {tgt : Nat} (d : decode Y.2.1 pc = .ok (.goto off, 3)) (ht : (pc : Int) + off = (tgt : Int)) (k : jm_J sc Y tgt ls st M Q) : jm_J sc Y pc ls st M Q := by
  intro p l e R s m args below meth c cells slots Z A D aC ad C hI hV H locs lsA hP hS hL hz
  exact lv_goto C.1 C.2.1 d ht (k p l e R s m args below meth c cells slots Z A D aC ad C hI hV H locs lsA hP hS hL hz)
theorem jm_tin {sc : jm_S} {Y : jm_Y} {pc : Nat} {ls : jm_Ls} {st : List Value} {M : jm_M} {Q : Option Value → jm_M → Prop} {dflt lo hi : Int} {offs : Array Int} {len : Nat} {x : Int32} {off : Int} {tgt : Nat} (d : decode Y.2.1 pc = .ok (.tableswitch dflt lo hi offs, len)) (h1 : ¬ x.toInt < lo) (h2 : ¬ hi < x.toInt) (ho : offs[(x.toInt - lo).toNat]? = some off) (ht : (pc : Int) + off = (tgt : Int)) (k : jm_J sc Y tgt ls st M Q) : jm_J sc Y pc ls (.int x :: st) M Q := by
  intro p l e R s m args below meth c cells slots Z A D aC ad C hI hV H locs lsA hP hS hL hz
  exact lv_tableIn C.1 C.2.1 d h1 h2 ho ht (k p l e R s m args below meth c cells slots Z A D aC ad C hI hV H locs lsA hP hS hL hz)
theorem jm_tout {sc : jm_S} {Y : jm_Y} {pc : Nat} {ls : jm_Ls} {st : List Value} {M : jm_M} {Q : Option Value → jm_M → Prop} {dflt lo hi : Int} {offs : Array Int} {len : Nat} {x : Int32} {tgt : Nat} (d : decode Y.2.1 pc = .ok (.tableswitch dflt lo hi offs, len)) (h : x.toInt < lo ∨ hi < x.toInt) (ht : (pc : Int) + dflt = (tgt : Int)) (k : jm_J sc Y tgt ls st M Q) : jm_J sc Y pc ls (.int x :: st) M Q := by
  intro p l e R s m args below meth c cells slots Z A D aC ad C hI hV H locs lsA hP hS hL hz
  exact lv_tableOut C.1 C.2.1 d h ht (k p l e R s m args below meth c cells slots Z A D aC ad C hI hV H locs lsA hP hS hL hz)
theorem jm_look {sc : jm_S} {Y : jm_Y} {pc : Nat} {ls : jm_Ls} {st : List Value} {M : jm_M} {Q : Option Value → jm_M → Prop} {dflt : Int} {ps : Array (Int × Int)} {len : Nat} {x : Int32} {off : Int} {tgt : Nat} (d : decode Y.2.1 pc = .ok (.lookupswitch dflt ps, len)) (hp : (ps.toList.zip (ps.toList.drop 1)).all (fun (a, next) => a.1 < next.1) = true) (ho : Op.lookupswitch.offset ps.toList dflt x.toInt = off) (ht : (pc : Int) + off = (tgt : Int)) (k : jm_J sc Y tgt ls st M Q) : jm_J sc Y pc ls (.int x :: st) M Q := by
  intro p l e R s m args below meth c cells slots Z A D aC ad C hI hV H locs lsA hP hS hL hz
  exact lv_lookup C.1 C.2.1 d hp ho ht (k p l e R s m args below meth c cells slots Z A D aC ad C hI hV H locs lsA hP hS hL hz)
theorem jm_ret {sc : jm_S} {Y : jm_Y} {pc : Nat} {ls : jm_Ls} {st : List Value} {M : jm_M} {Q : Option Value → jm_M → Prop} {v : Int32} {ty : FieldType} (d : decode Y.2.1 pc = .ok (.ireturn, 1)) (hr : Y.2.2.2.1 = some ty) (hn : narrow ty (.int v) = .int v) (hq : Q (some (.int v)) M) : jm_J sc Y pc ls [.int v] M Q := by
  intro p l e R s m args below meth c cells slots Z A D aC ad C hI hV H locs lsA hP hS hL hz
  exact hI v M H locs pc lsA ty hq hP hS hr hn d
theorem jm_retv {sc : jm_S} {Y : jm_Y} {pc : Nat} {ls : jm_Ls} {st : List Value} {M : jm_M} {Q : Option Value → jm_M → Prop} (d : decode Y.2.1 pc = .ok (.return_, 1)) (hr : Y.2.2.2.1 = none) (hq : Q none M) : jm_J sc Y pc ls [] M Q := by
  intro p l e R s m args below meth c cells slots Z A D aC ad C hI hV H locs lsA hP hS hL hz
  exact hV M H locs pc lsA hq hP hS hr d
