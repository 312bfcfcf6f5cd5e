/-! the constructors of the small ones -/
def jn_E (U : State) : Prop := va_AOA .int U ∧ va_AO RX2 U
theorem jn_E.moved {u U : State} (hvm : u.vm.Alike U.vm) (h : jn_E u) : jn_E U := ⟨h.1.moved hvm, h.2.moved hvm⟩
/-- a river's four cells, an ask's two, a tape's two -/
def wv (cI : ClassId) (x : Nat × Nat × Nat × Nat) : va_W := [(x.1, .inr (1, [.int (nI 0), .int (nI 0), .int (nI 0), .int (nI 0), .int (nI 0), .ref x.2.1, .ref x.2.2.1, .ref x.2.2.2])), (x.2.1, .inl (cI, 12, .inl (fun _ => nI 0))), (x.2.2.1, .inl (cI, 7, .inl (fun _ => nI 0))), (x.2.2.2, .inl (cI, 7, .inl (fun _ => nI 0)))]
def wa (cI : ClassId) (x : Nat × Nat) : va_W := [(x.1, .inr (0, [.ref x.2, .int (nI 0), .int (nI 0), .int (nI 0), .int (nI 0), .int (nI 0)])), (x.2, .inl (cI, 16, .inl (fun _ => nI 0)))]
def wt (cI : ClassId) (x : Nat × Nat) : va_W := [(x.1, .inr (3, [.ref x.2, .int (nI 0), .int (nI 0), .int (nI 0)])), (x.2, .inl (cI, 110, .inl (fun _ => nI 0)))]
set_option maxHeartbeats 4000000 in
set_option maxRecDepth 100000 in
theorem n_X2_init (l : Launch) (D : va_G) (cI : ClassId) (h0 sz : Nat) : Met l yX2_init (jm_wds YX2_init) { frames := 1, cells := 3, slots := 26, locals := 20 } (va_Pc [.ref h0] (fun U => U.heap.size = sz ∧ va_P D classes [(h0, .inr (1, [.int (nI 0), .int (nI 0), .int (nI 0), .int (nI 0), .int (nI 0), .null, .null, .null]))] U.heap ∧ va_K D classes [(cI, .int)] U ∧ va_D (fun _ => True) [(h0, .inr (1, [.int (nI 0), .int (nI 0), .int (nI 0), .int (nI 0), .int (nI 0), .null, .null, .null]))] ∧ jn_E U)) (va_Qv (fun _ : Nat × Nat × Nat => True) (fun u t => va_P D classes (wv cI (h0, u)) t.heap ∧ va_D (va_A [(h0, .inr (1, [.int (nI 0), .int (nI 0), .int (nI 0), .int (nI 0), .int (nI 0), .null, .null, .null]))] sz) (wv cI (h0, u))) (va_A [(h0, .inr (1, [.int (nI 0), .int (nI 0), .int (nI 0), .int (nI 0), .int (nI 0), .null, .null, .null]))] sz)) 3 26 (va_A [(h0, .inr (1, [.int (nI 0), .int (nI 0), .int (nI 0), .int (nI 0), .int (nI 0), .null, .null, .null]))] sz) := by
  refine Met.ofW (cc := cX2_init) (maxL := 1) (ret := none) (by decide) rfl ?_
  intro p e s m args below meth c s₁ B hml hv
  obtain ⟨rfl, hsz, hP, hK, hD0, hAO⟩ := hv
  have hx := B.exec
  have hb := B.bytes
  have hr := B.returns
  have hts : ∀ w ∈ jm_tb, w.before _ s = true := fun w hw => atoms_spec (ws := jm_wds YX2_init) B.pre w (List.mem_cons_of_mem _ hw)
  have hown : s.vm.findClass RX2 = some m.cls := findClass_of_methodNamed B.named
  have hlocks := B.notSynchronized
  have hin : meth.name = "<init>" := (name_of_methodNamed B.named B.method).1
  subst hsz
  have hD := hD0.self (sz := s.heap.size)
  generalize hAe : va_A [(h0, .inr (1, [.int (nI 0), .int (nI 0), .int (nI 0), .int (nI 0), .int (nI 0), .null, .null, .null]))] s.heap.size = A at hD ⊢
  have hA : ∀ q : Nat, s.heap.size ≤ q → A q := fun q h => by rw [← hAe]; exact Or.inr h
  have hS : va_S A s.heap s.heap [] := va_S.rf
  have hl := lv_entry ([.ref h0]) (n := 1) (Nat.le_of_ble_eq_true rfl)
  rw [lg_entry_eq]
  generalize (lg_sl ([.ref h0]) ++ List.replicate (1 - (lg_sl ([.ref h0])).length) Slot.unset).toArray = ls at hl ⊢
  have hl : lv_has ls 1 [(0, .ref h0)] := hl
  refine lv_aload_n hx hb dX2_init_0 rfl (lv_at hl 0 rfl) ?_
  refine W.objInit hx hb hown (hts _ oi_RX2) (hts _ oi_im) (hts _ oi_cd) rfl (by rw [hml]; exact hl.1) rfl dX2_init_1 (Nat.le_of_ble_eq_true rfl) (Nat.le_of_ble_eq_true rfl) ?_
  refine W.eq (g2 := F0 m 4 ls []) rfl ?_
  refine lv_aload_n hx hb dX2_init_4 rfl (lv_at hl 0 rfl) ?_
  refine lv_iconst (v := 0) hx hb dX2_init_5 (by decide) ?_
  refine va_put (D := D) (ci := 1) (v := .int (nI 0)) (ty := .int) (C := RX2) (T := TX2) (N := 8) (ref := RX2) hx hb hts fin_1 tyX2 tyX2_ok nmX2 hown hK hP hD hS 0 rfl rfl 0 (by decide) (hts _ fl_RX2_9) (fun _ h9 => h9) rfl (by decide +kernel) rfl rfl (Nat.le_of_ble_eq_true rfl) dX2_init_6 (fun H locs hP hD hS => ?_)
  have hP : va_P D classes ([(h0, .inr (1, [.int (nI 0), .int (nI 0), .int (nI 0), .int (nI 0), .int (nI 0), .null, .null, .null]))]) H := hP
  have hD : va_D A ([(h0, .inr (1, [.int (nI 0), .int (nI 0), .int (nI 0), .int (nI 0), .int (nI 0), .null, .null, .null]))]) := hD
  refine lv_aload_n hx hb dX2_init_9 rfl (lv_at hl 0 rfl) ?_
  refine lv_iconst (v := 0) hx hb dX2_init_10 (by decide) ?_
  refine va_put (D := D) (ci := 1) (v := .int (nI 0)) (ty := .int) (C := RX2) (T := TX2) (N := 8) (ref := RX2) hx hb hts fin_1 tyX2 tyX2_ok nmX2 hown hK hP hD hS 0 rfl rfl 1 (by decide) (hts _ fl_RX2_15) (fun _ h9 => h9) rfl (by decide +kernel) rfl rfl (Nat.le_of_ble_eq_true rfl) dX2_init_11 (fun H locs hP hD hS => ?_)
  have hP : va_P D classes ([(h0, .inr (1, [.int (nI 0), .int (nI 0), .int (nI 0), .int (nI 0), .int (nI 0), .null, .null, .null]))]) H := hP
  have hD : va_D A ([(h0, .inr (1, [.int (nI 0), .int (nI 0), .int (nI 0), .int (nI 0), .int (nI 0), .null, .null, .null]))]) := hD
  refine lv_aload_n hx hb dX2_init_14 rfl (lv_at hl 0 rfl) ?_
  refine lv_iconst (v := 0) hx hb dX2_init_15 (by decide) ?_
  refine va_put (D := D) (ci := 1) (v := .int (nI 0)) (ty := .int) (C := RX2) (T := TX2) (N := 8) (ref := RX2) hx hb hts fin_1 tyX2 tyX2_ok nmX2 hown hK hP hD hS 0 rfl rfl 2 (by decide) (hts _ fl_RX2_18) (fun _ h9 => h9) rfl (by decide +kernel) rfl rfl (Nat.le_of_ble_eq_true rfl) dX2_init_16 (fun H locs hP hD hS => ?_)
  have hP : va_P D classes ([(h0, .inr (1, [.int (nI 0), .int (nI 0), .int (nI 0), .int (nI 0), .int (nI 0), .null, .null, .null]))]) H := hP
  have hD : va_D A ([(h0, .inr (1, [.int (nI 0), .int (nI 0), .int (nI 0), .int (nI 0), .int (nI 0), .null, .null, .null]))]) := hD
  refine lv_aload_n hx hb dX2_init_19 rfl (lv_at hl 0 rfl) ?_
  refine lv_iconst (v := 0) hx hb dX2_init_20 (by decide) ?_
  refine va_put (D := D) (ci := 1) (v := .int (nI 0)) (ty := .int) (C := RX2) (T := TX2) (N := 8) (ref := RX2) hx hb hts fin_1 tyX2 tyX2_ok nmX2 hown hK hP hD hS 0 rfl rfl 3 (by decide) (hts _ fl_RX2_21) (fun _ h9 => h9) rfl (by decide +kernel) rfl rfl (Nat.le_of_ble_eq_true rfl) dX2_init_21 (fun H locs hP hD hS => ?_)
  have hP : va_P D classes ([(h0, .inr (1, [.int (nI 0), .int (nI 0), .int (nI 0), .int (nI 0), .int (nI 0), .null, .null, .null]))]) H := hP
  have hD : va_D A ([(h0, .inr (1, [.int (nI 0), .int (nI 0), .int (nI 0), .int (nI 0), .int (nI 0), .null, .null, .null]))]) := hD
  refine lv_aload_n hx hb dX2_init_24 rfl (lv_at hl 0 rfl) ?_
  refine lv_iconst (v := 0) hx hb dX2_init_25 (by decide) ?_
  refine va_put (D := D) (ci := 1) (v := .int (nI 0)) (ty := .int) (C := RX2) (T := TX2) (N := 8) (ref := RX2) hx hb hts fin_1 tyX2 tyX2_ok nmX2 hown hK hP hD hS 0 rfl rfl 4 (by decide) (hts _ fl_RX2_24) (fun _ h9 => h9) rfl (by decide +kernel) rfl rfl (Nat.le_of_ble_eq_true rfl) dX2_init_26 (fun H locs hP hD hS => ?_)
  have hP : va_P D classes ([(h0, .inr (1, [.int (nI 0), .int (nI 0), .int (nI 0), .int (nI 0), .int (nI 0), .null, .null, .null]))]) H := hP
  have hD : va_D A ([(h0, .inr (1, [.int (nI 0), .int (nI 0), .int (nI 0), .int (nI 0), .int (nI 0), .null, .null, .null]))]) := hD
  refine lv_aload_n hx hb dX2_init_29 rfl (lv_at hl 0 rfl) ?_
  refine lv_bipush (v := 12) hx hb dX2_init_30 (by decide) ?_
  refine va_newa (atype := .int) (N' := 12) (a0 := (12, .inl (fun _ => nI 0))) hx hb (hts _ ac_int) rfl hK hP hD hS hA (fun _ => rfl) (by decide) (by decide) (Nat.le_of_ble_eq_true rfl) (Nat.le_of_ble_eq_true rfl) (Nat.le_of_ble_eq_true rfl) dX2_init_32 (fun qa cA9 H hK hP hD hS => ?_)
  have eA9 : cA9 = cI := jn_cls hK 0 1 rfl rfl (Or.inl rfl)
  rw [eA9] at hP hD
  have hK : va_K D classes [(cI, .int)] s := hK.sub [0] rfl
  have hP : va_P D classes ([(h0, .inr (1, [.int (nI 0), .int (nI 0), .int (nI 0), .int (nI 0), .int (nI 0), .null, .null, .null])), (qa, .inl (cI, 12, .inl (fun _ => nI 0)))]) H := hP
  have hD : va_D A ([(h0, .inr (1, [.int (nI 0), .int (nI 0), .int (nI 0), .int (nI 0), .int (nI 0), .null, .null, .null])), (qa, .inl (cI, 12, .inl (fun _ => nI 0)))]) := hD
  refine va_putF (D := D) (ci := 1) (v := .ref qa) (ty := .array .int) (C := RX2) (T := TX2) (N := 8) (ref := RX2) hx hb hts fin_1 tyX2 tyX2_ok nmX2 hown hK hP hD hS 0 rfl rfl 5 (by decide) (hts _ fl_RX2_27) (fun _ h9 => h9) rfl hin rfl (by decide +kernel) rfl rfl (Nat.le_of_ble_eq_true rfl) dX2_init_34 (fun H locs hP hD hS => ?_)
  have hP : va_P D classes ([(h0, .inr (1, [.int (nI 0), .int (nI 0), .int (nI 0), .int (nI 0), .int (nI 0), .ref qa, .null, .null])), (qa, .inl (cI, 12, .inl (fun _ => nI 0)))]) H := hP
  have hD : va_D A ([(h0, .inr (1, [.int (nI 0), .int (nI 0), .int (nI 0), .int (nI 0), .int (nI 0), .ref qa, .null, .null])), (qa, .inl (cI, 12, .inl (fun _ => nI 0)))]) := hD
  refine lv_aload_n hx hb dX2_init_37 rfl (lv_at hl 0 rfl) ?_
  refine lv_bipush (v := 7) hx hb dX2_init_38 (by decide) ?_
  refine va_newa (atype := .int) (N' := 7) (a0 := (7, .inl (fun _ => nI 0))) hx hb (hts _ ac_int) rfl hK hP hD hS hA (fun _ => rfl) (by decide) (by decide) (Nat.le_of_ble_eq_true rfl) (Nat.le_of_ble_eq_true rfl) (Nat.le_of_ble_eq_true rfl) dX2_init_40 (fun qb cA9 H hK hP hD hS => ?_)
  have eA9 : cA9 = cI := jn_cls hK 0 1 rfl rfl (Or.inl rfl)
  rw [eA9] at hP hD
  have hK : va_K D classes [(cI, .int)] s := hK.sub [0] rfl
  have hP : va_P D classes ([(h0, .inr (1, [.int (nI 0), .int (nI 0), .int (nI 0), .int (nI 0), .int (nI 0), .ref qa, .null, .null])), (qa, .inl (cI, 12, .inl (fun _ => nI 0))), (qb, .inl (cI, 7, .inl (fun _ => nI 0)))]) H := hP
  have hD : va_D A ([(h0, .inr (1, [.int (nI 0), .int (nI 0), .int (nI 0), .int (nI 0), .int (nI 0), .ref qa, .null, .null])), (qa, .inl (cI, 12, .inl (fun _ => nI 0))), (qb, .inl (cI, 7, .inl (fun _ => nI 0)))]) := hD
  refine va_putF (D := D) (ci := 1) (v := .ref qb) (ty := .array .int) (C := RX2) (T := TX2) (N := 8) (ref := RX2) hx hb hts fin_1 tyX2 tyX2_ok nmX2 hown hK hP hD hS 0 rfl rfl 6 (by decide) (hts _ fl_RX2_31) (fun _ h9 => h9) rfl hin rfl (by decide +kernel) rfl rfl (Nat.le_of_ble_eq_true rfl) dX2_init_42 (fun H locs hP hD hS => ?_)
  have hP : va_P D classes ([(h0, .inr (1, [.int (nI 0), .int (nI 0), .int (nI 0), .int (nI 0), .int (nI 0), .ref qa, .ref qb, .null])), (qa, .inl (cI, 12, .inl (fun _ => nI 0))), (qb, .inl (cI, 7, .inl (fun _ => nI 0)))]) H := hP
  have hD : va_D A ([(h0, .inr (1, [.int (nI 0), .int (nI 0), .int (nI 0), .int (nI 0), .int (nI 0), .ref qa, .ref qb, .null])), (qa, .inl (cI, 12, .inl (fun _ => nI 0))), (qb, .inl (cI, 7, .inl (fun _ => nI 0)))]) := hD
  refine lv_aload_n hx hb dX2_init_45 rfl (lv_at hl 0 rfl) ?_
  refine lv_bipush (v := 7) hx hb dX2_init_46 (by decide) ?_
  refine va_newa (atype := .int) (N' := 7) (a0 := (7, .inl (fun _ => nI 0))) hx hb (hts _ ac_int) rfl hK hP hD hS hA (fun _ => rfl) (by decide) (by decide) (Nat.le_of_ble_eq_true rfl) (Nat.le_of_ble_eq_true rfl) (Nat.le_of_ble_eq_true rfl) dX2_init_48 (fun qc cA9 H hK hP hD hS => ?_)
  have eA9 : cA9 = cI := jn_cls hK 0 1 rfl rfl (Or.inl rfl)
  rw [eA9] at hP hD
  have hK : va_K D classes [(cI, .int)] s := hK.sub [0] rfl
  have hP : va_P D classes ([(h0, .inr (1, [.int (nI 0), .int (nI 0), .int (nI 0), .int (nI 0), .int (nI 0), .ref qa, .ref qb, .null])), (qa, .inl (cI, 12, .inl (fun _ => nI 0))), (qb, .inl (cI, 7, .inl (fun _ => nI 0))), (qc, .inl (cI, 7, .inl (fun _ => nI 0)))]) H := hP
  have hD : va_D A ([(h0, .inr (1, [.int (nI 0), .int (nI 0), .int (nI 0), .int (nI 0), .int (nI 0), .ref qa, .ref qb, .null])), (qa, .inl (cI, 12, .inl (fun _ => nI 0))), (qb, .inl (cI, 7, .inl (fun _ => nI 0))), (qc, .inl (cI, 7, .inl (fun _ => nI 0)))]) := hD
  refine va_putF (D := D) (ci := 1) (v := .ref qc) (ty := .array .int) (C := RX2) (T := TX2) (N := 8) (ref := RX2) hx hb hts fin_1 tyX2 tyX2_ok nmX2 hown hK hP hD hS 0 rfl rfl 7 (by decide) (hts _ fl_RX2_34) (fun _ h9 => h9) rfl hin rfl (by decide +kernel) rfl rfl (Nat.le_of_ble_eq_true rfl) dX2_init_50 (fun H locs hP hD hS => ?_)
  have hP : va_P D classes ([(h0, .inr (1, [.int (nI 0), .int (nI 0), .int (nI 0), .int (nI 0), .int (nI 0), .ref qa, .ref qb, .ref qc])), (qa, .inl (cI, 12, .inl (fun _ => nI 0))), (qb, .inl (cI, 7, .inl (fun _ => nI 0))), (qc, .inl (cI, 7, .inl (fun _ => nI 0)))]) H := hP
  have hD : va_D A ([(h0, .inr (1, [.int (nI 0), .int (nI 0), .int (nI 0), .int (nI 0), .int (nI 0), .ref qa, .ref qb, .ref qc])), (qa, .inl (cI, 12, .inl (fun _ => nI 0))), (qb, .inl (cI, 7, .inl (fun _ => nI 0))), (qc, .inl (cI, 7, .inl (fun _ => nI 0)))]) := hD
  refine W.widen (k := 3) (n := 26) (Nat.le_of_ble_eq_true rfl) (Nat.le_of_ble_eq_true rfl) ?_
  exact W.vret hx hb hr (fun t ht hW => ⟨⟨(qa, qb, qc), rfl, trivial, by rw [ht]; exact hP, hD⟩, hS.F ht⟩) hS.2.2 dX2_init_53
set_option maxHeartbeats 4000000 in
set_option maxRecDepth 100000 in
theorem n_X0_init (l : Launch) (D : va_G) (cI : ClassId) (h0 sz : Nat) : Met l yX0_init (jm_wds YX0_init) { frames := 1, cells := 1, slots := 16, locals := 20 } (va_Pc [.ref h0] (fun U => U.heap.size = sz ∧ va_P D classes [(h0, .inr (0, [.null, .int (nI 0), .int (nI 0), .int (nI 0), .int (nI 0), .int (nI 0)]))] U.heap ∧ va_K D classes [(cI, .int)] U ∧ va_D (fun _ => True) [(h0, .inr (0, [.null, .int (nI 0), .int (nI 0), .int (nI 0), .int (nI 0), .int (nI 0)]))] ∧ jn_E U)) (va_Qv (fun _ : Nat => True) (fun u t => va_P D classes (wa cI (h0, u)) t.heap ∧ va_D (va_A [(h0, .inr (0, [.null, .int (nI 0), .int (nI 0), .int (nI 0), .int (nI 0), .int (nI 0)]))] sz) (wa cI (h0, u))) (va_A [(h0, .inr (0, [.null, .int (nI 0), .int (nI 0), .int (nI 0), .int (nI 0), .int (nI 0)]))] sz)) 1 16 (va_A [(h0, .inr (0, [.null, .int (nI 0), .int (nI 0), .int (nI 0), .int (nI 0), .int (nI 0)]))] sz) := by
  refine Met.ofW (cc := cX0_init) (maxL := 1) (ret := none) (by decide) rfl ?_
  intro p e s m args below meth c s₁ B hml hv
  obtain ⟨rfl, hsz, hP, hK, hD0, hAO⟩ := hv
  have hx := B.exec
  have hb := B.bytes
  have hr := B.returns
  have hts : ∀ w ∈ jm_tb, w.before _ s = true := fun w hw => atoms_spec (ws := jm_wds YX0_init) B.pre w (List.mem_cons_of_mem _ hw)
  have hown : s.vm.findClass RX0 = some m.cls := findClass_of_methodNamed B.named
  have hlocks := B.notSynchronized
  have hin : meth.name = "<init>" := (name_of_methodNamed B.named B.method).1
  subst hsz
  have hD := hD0.self (sz := s.heap.size)
  generalize hAe : va_A [(h0, .inr (0, [.null, .int (nI 0), .int (nI 0), .int (nI 0), .int (nI 0), .int (nI 0)]))] s.heap.size = A at hD ⊢
  have hA : ∀ q : Nat, s.heap.size ≤ q → A q := fun q h => by rw [← hAe]; exact Or.inr h
  have hS : va_S A s.heap s.heap [] := va_S.rf
  have hl := lv_entry ([.ref h0]) (n := 1) (Nat.le_of_ble_eq_true rfl)
  rw [lg_entry_eq]
  generalize (lg_sl ([.ref h0]) ++ List.replicate (1 - (lg_sl ([.ref h0])).length) Slot.unset).toArray = ls at hl ⊢
  have hl : lv_has ls 1 [(0, .ref h0)] := hl
  refine lv_aload_n hx hb dX0_init_0 rfl (lv_at hl 0 rfl) ?_
  refine W.objInit hx hb hown (hts _ oi_RX0) (hts _ oi_im) (hts _ oi_cd) rfl (by rw [hml]; exact hl.1) rfl dX0_init_1 (Nat.le_of_ble_eq_true rfl) (Nat.le_of_ble_eq_true rfl) ?_
  refine W.eq (g2 := F0 m 4 ls []) rfl ?_
  refine lv_aload_n hx hb dX0_init_4 rfl (lv_at hl 0 rfl) ?_
  refine lv_bipush (v := 16) hx hb dX0_init_5 (by decide) ?_
  refine va_newa (atype := .int) (N' := 16) (a0 := (16, .inl (fun _ => nI 0))) hx hb (hts _ ac_int) rfl hK hP hD hS hA (fun _ => rfl) (by decide) (by decide) (Nat.le_of_ble_eq_true rfl) (Nat.le_of_ble_eq_true rfl) (Nat.le_of_ble_eq_true rfl) dX0_init_7 (fun qa cA9 H hK hP hD hS => ?_)
  have eA9 : cA9 = cI := jn_cls hK 0 1 rfl rfl (Or.inl rfl)
  rw [eA9] at hP hD
  have hK : va_K D classes [(cI, .int)] s := hK.sub [0] rfl
  have hP : va_P D classes ([(h0, .inr (0, [.null, .int (nI 0), .int (nI 0), .int (nI 0), .int (nI 0), .int (nI 0)])), (qa, .inl (cI, 16, .inl (fun _ => nI 0)))]) H := hP
  have hD : va_D A ([(h0, .inr (0, [.null, .int (nI 0), .int (nI 0), .int (nI 0), .int (nI 0), .int (nI 0)])), (qa, .inl (cI, 16, .inl (fun _ => nI 0)))]) := hD
  refine va_putF (D := D) (ci := 0) (v := .ref qa) (ty := .array .int) (C := RX0) (T := TX0) (N := 6) (ref := RX0) hx hb hts fin_0 tyX0 tyX0_ok nmX0 hown hK hP hD hS 0 rfl rfl 0 (by decide) (hts _ fl_RX0_9) (fun _ h9 => h9) rfl hin rfl (by decide +kernel) rfl rfl (Nat.le_of_ble_eq_true rfl) dX0_init_9 (fun H locs hP hD hS => ?_)
  have hP : va_P D classes ([(h0, .inr (0, [.ref qa, .int (nI 0), .int (nI 0), .int (nI 0), .int (nI 0), .int (nI 0)])), (qa, .inl (cI, 16, .inl (fun _ => nI 0)))]) H := hP
  have hD : va_D A ([(h0, .inr (0, [.ref qa, .int (nI 0), .int (nI 0), .int (nI 0), .int (nI 0), .int (nI 0)])), (qa, .inl (cI, 16, .inl (fun _ => nI 0)))]) := hD
  refine lv_aload_n hx hb dX0_init_12 rfl (lv_at hl 0 rfl) ?_
  refine lv_iconst (v := 0) hx hb dX0_init_13 (by decide) ?_
  refine va_put (D := D) (ci := 0) (v := .int (nI 0)) (ty := .int) (C := RX0) (T := TX0) (N := 6) (ref := RX0) hx hb hts fin_0 tyX0 tyX0_ok nmX0 hown hK hP hD hS 0 rfl rfl 1 (by decide) (hts _ fl_RX0_13) (fun _ h9 => h9) rfl (by decide +kernel) rfl rfl (Nat.le_of_ble_eq_true rfl) dX0_init_14 (fun H locs hP hD hS => ?_)
  have hP : va_P D classes ([(h0, .inr (0, [.ref qa, .int (nI 0), .int (nI 0), .int (nI 0), .int (nI 0), .int (nI 0)])), (qa, .inl (cI, 16, .inl (fun _ => nI 0)))]) H := hP
  have hD : va_D A ([(h0, .inr (0, [.ref qa, .int (nI 0), .int (nI 0), .int (nI 0), .int (nI 0), .int (nI 0)])), (qa, .inl (cI, 16, .inl (fun _ => nI 0)))]) := hD
  refine lv_aload_n hx hb dX0_init_17 rfl (lv_at hl 0 rfl) ?_
  refine lv_iconst (v := 0) hx hb dX0_init_18 (by decide) ?_
  refine va_put (D := D) (ci := 0) (v := .int (nI 0)) (ty := .int) (C := RX0) (T := TX0) (N := 6) (ref := RX0) hx hb hts fin_0 tyX0 tyX0_ok nmX0 hown hK hP hD hS 0 rfl rfl 2 (by decide) (hts _ fl_RX0_17) (fun _ h9 => h9) rfl (by decide +kernel) rfl rfl (Nat.le_of_ble_eq_true rfl) dX0_init_19 (fun H locs hP hD hS => ?_)
  have hP : va_P D classes ([(h0, .inr (0, [.ref qa, .int (nI 0), .int (nI 0), .int (nI 0), .int (nI 0), .int (nI 0)])), (qa, .inl (cI, 16, .inl (fun _ => nI 0)))]) H := hP
  have hD : va_D A ([(h0, .inr (0, [.ref qa, .int (nI 0), .int (nI 0), .int (nI 0), .int (nI 0), .int (nI 0)])), (qa, .inl (cI, 16, .inl (fun _ => nI 0)))]) := hD
  refine lv_aload_n hx hb dX0_init_22 rfl (lv_at hl 0 rfl) ?_
  refine lv_iconst (v := 0) hx hb dX0_init_23 (by decide) ?_
  refine va_put (D := D) (ci := 0) (v := .int (nI 0)) (ty := .int) (C := RX0) (T := TX0) (N := 6) (ref := RX0) hx hb hts fin_0 tyX0 tyX0_ok nmX0 hown hK hP hD hS 0 rfl rfl 3 (by decide) (hts _ fl_RX0_22) (fun _ h9 => h9) rfl (by decide +kernel) rfl rfl (Nat.le_of_ble_eq_true rfl) dX0_init_24 (fun H locs hP hD hS => ?_)
  have hP : va_P D classes ([(h0, .inr (0, [.ref qa, .int (nI 0), .int (nI 0), .int (nI 0), .int (nI 0), .int (nI 0)])), (qa, .inl (cI, 16, .inl (fun _ => nI 0)))]) H := hP
  have hD : va_D A ([(h0, .inr (0, [.ref qa, .int (nI 0), .int (nI 0), .int (nI 0), .int (nI 0), .int (nI 0)])), (qa, .inl (cI, 16, .inl (fun _ => nI 0)))]) := hD
  refine lv_aload_n hx hb dX0_init_27 rfl (lv_at hl 0 rfl) ?_
  refine lv_iconst (v := 0) hx hb dX0_init_28 (by decide) ?_
  refine va_put (D := D) (ci := 0) (v := .int (nI 0)) (ty := .int) (C := RX0) (T := TX0) (N := 6) (ref := RX0) hx hb hts fin_0 tyX0 tyX0_ok nmX0 hown hK hP hD hS 0 rfl rfl 4 (by decide) (hts _ fl_RX0_25) (fun _ h9 => h9) rfl (by decide +kernel) rfl rfl (Nat.le_of_ble_eq_true rfl) dX0_init_29 (fun H locs hP hD hS => ?_)
  have hP : va_P D classes ([(h0, .inr (0, [.ref qa, .int (nI 0), .int (nI 0), .int (nI 0), .int (nI 0), .int (nI 0)])), (qa, .inl (cI, 16, .inl (fun _ => nI 0)))]) H := hP
  have hD : va_D A ([(h0, .inr (0, [.ref qa, .int (nI 0), .int (nI 0), .int (nI 0), .int (nI 0), .int (nI 0)])), (qa, .inl (cI, 16, .inl (fun _ => nI 0)))]) := hD
  refine lv_aload_n hx hb dX0_init_32 rfl (lv_at hl 0 rfl) ?_
  refine lv_iconst (v := 0) hx hb dX0_init_33 (by decide) ?_
  refine va_put (D := D) (ci := 0) (v := .int (nI 0)) (ty := .int) (C := RX0) (T := TX0) (N := 6) (ref := RX0) hx hb hts fin_0 tyX0 tyX0_ok nmX0 hown hK hP hD hS 0 rfl rfl 5 (by decide) (hts _ fl_RX0_28) (fun _ h9 => h9) rfl (by decide +kernel) rfl rfl (Nat.le_of_ble_eq_true rfl) dX0_init_34 (fun H locs hP hD hS => ?_)
  have hP : va_P D classes ([(h0, .inr (0, [.ref qa, .int (nI 0), .int (nI 0), .int (nI 0), .int (nI 0), .int (nI 0)])), (qa, .inl (cI, 16, .inl (fun _ => nI 0)))]) H := hP
  have hD : va_D A ([(h0, .inr (0, [.ref qa, .int (nI 0), .int (nI 0), .int (nI 0), .int (nI 0), .int (nI 0)])), (qa, .inl (cI, 16, .inl (fun _ => nI 0)))]) := hD
  refine W.widen (k := 1) (n := 16) (Nat.le_of_ble_eq_true rfl) (Nat.le_of_ble_eq_true rfl) ?_
  exact W.vret hx hb hr (fun t ht hW => ⟨⟨qa, rfl, trivial, by rw [ht]; exact hP, hD⟩, hS.F ht⟩) hS.2.2 dX0_init_37
set_option maxHeartbeats 4000000 in
set_option maxRecDepth 100000 in
theorem n_X4_init (l : Launch) (D : va_G) (cI : ClassId) (h0 sz : Nat) : Met l yX4_init (jm_wds YX4_init) { frames := 1, cells := 1, slots := 110, locals := 20 } (va_Pc [.ref h0] (fun U => U.heap.size = sz ∧ va_P D classes [(h0, .inr (3, [.null, .int (nI 0), .int (nI 0), .int (nI 0)]))] U.heap ∧ va_K D classes [(cI, .int)] U ∧ va_D (fun _ => True) [(h0, .inr (3, [.null, .int (nI 0), .int (nI 0), .int (nI 0)]))] ∧ jn_E U)) (va_Qv (fun _ : Nat => True) (fun u t => va_P D classes (wt cI (h0, u)) t.heap ∧ va_D (va_A [(h0, .inr (3, [.null, .int (nI 0), .int (nI 0), .int (nI 0)]))] sz) (wt cI (h0, u))) (va_A [(h0, .inr (3, [.null, .int (nI 0), .int (nI 0), .int (nI 0)]))] sz)) 1 110 (va_A [(h0, .inr (3, [.null, .int (nI 0), .int (nI 0), .int (nI 0)]))] sz) := by
  refine Met.ofW (cc := cX4_init) (maxL := 1) (ret := none) (by decide) rfl ?_
  intro p e s m args below meth c s₁ B hml hv
  obtain ⟨rfl, hsz, hP, hK, hD0, hAO⟩ := hv
  have hx := B.exec
  have hb := B.bytes
  have hr := B.returns
  have hts : ∀ w ∈ jm_tb, w.before _ s = true := fun w hw => atoms_spec (ws := jm_wds YX4_init) B.pre w (List.mem_cons_of_mem _ hw)
  have hown : s.vm.findClass RX4 = some m.cls := findClass_of_methodNamed B.named
  have hlocks := B.notSynchronized
  have hin : meth.name = "<init>" := (name_of_methodNamed B.named B.method).1
  subst hsz
  have hD := hD0.self (sz := s.heap.size)
  generalize hAe : va_A [(h0, .inr (3, [.null, .int (nI 0), .int (nI 0), .int (nI 0)]))] s.heap.size = A at hD ⊢
  have hA : ∀ q : Nat, s.heap.size ≤ q → A q := fun q h => by rw [← hAe]; exact Or.inr h
  have hS : va_S A s.heap s.heap [] := va_S.rf
  have hl := lv_entry ([.ref h0]) (n := 1) (Nat.le_of_ble_eq_true rfl)
  rw [lg_entry_eq]
  generalize (lg_sl ([.ref h0]) ++ List.replicate (1 - (lg_sl ([.ref h0])).length) Slot.unset).toArray = ls at hl ⊢
  have hl : lv_has ls 1 [(0, .ref h0)] := hl
  refine lv_aload_n hx hb dX4_init_0 rfl (lv_at hl 0 rfl) ?_
  refine W.objInit hx hb hown (hts _ oi_RX4) (hts _ oi_im) (hts _ oi_cd) rfl (by rw [hml]; exact hl.1) rfl dX4_init_1 (Nat.le_of_ble_eq_true rfl) (Nat.le_of_ble_eq_true rfl) ?_
  refine W.eq (g2 := F0 m 4 ls []) rfl ?_
  refine lv_aload_n hx hb dX4_init_4 rfl (lv_at hl 0 rfl) ?_
  refine lv_bipush (v := 110) hx hb dX4_init_5 (by decide) ?_
  refine va_newa (atype := .int) (N' := 110) (a0 := (110, .inl (fun _ => nI 0))) hx hb (hts _ ac_int) rfl hK hP hD hS hA (fun _ => rfl) (by decide) (by decide) (Nat.le_of_ble_eq_true rfl) (Nat.le_of_ble_eq_true rfl) (Nat.le_of_ble_eq_true rfl) dX4_init_7 (fun qa cA9 H hK hP hD hS => ?_)
  have eA9 : cA9 = cI := jn_cls hK 0 1 rfl rfl (Or.inl rfl)
  rw [eA9] at hP hD
  have hK : va_K D classes [(cI, .int)] s := hK.sub [0] rfl
  have hP : va_P D classes ([(h0, .inr (3, [.null, .int (nI 0), .int (nI 0), .int (nI 0)])), (qa, .inl (cI, 110, .inl (fun _ => nI 0)))]) H := hP
  have hD : va_D A ([(h0, .inr (3, [.null, .int (nI 0), .int (nI 0), .int (nI 0)])), (qa, .inl (cI, 110, .inl (fun _ => nI 0)))]) := hD
  refine va_putF (D := D) (ci := 3) (v := .ref qa) (ty := .array .int) (C := RX4) (T := TX4) (N := 4) (ref := RX4) hx hb hts fin_3 tyX4 tyX4_ok nmX4 hown hK hP hD hS 0 rfl rfl 0 (by decide) (hts _ fl_RX4_9) (fun _ h9 => h9) rfl hin rfl (by decide +kernel) rfl rfl (Nat.le_of_ble_eq_true rfl) dX4_init_9 (fun H locs hP hD hS => ?_)
  have hP : va_P D classes ([(h0, .inr (3, [.ref qa, .int (nI 0), .int (nI 0), .int (nI 0)])), (qa, .inl (cI, 110, .inl (fun _ => nI 0)))]) H := hP
  have hD : va_D A ([(h0, .inr (3, [.ref qa, .int (nI 0), .int (nI 0), .int (nI 0)])), (qa, .inl (cI, 110, .inl (fun _ => nI 0)))]) := hD
  refine lv_aload_n hx hb dX4_init_12 rfl (lv_at hl 0 rfl) ?_
  refine lv_iconst (v := 0) hx hb dX4_init_13 (by decide) ?_
  refine va_put (D := D) (ci := 3) (v := .int (nI 0)) (ty := .int) (C := RX4) (T := TX4) (N := 4) (ref := RX4) hx hb hts fin_3 tyX4 tyX4_ok nmX4 hown hK hP hD hS 0 rfl rfl 1 (by decide) (hts _ fl_RX4_13) (fun _ h9 => h9) rfl (by decide +kernel) rfl rfl (Nat.le_of_ble_eq_true rfl) dX4_init_14 (fun H locs hP hD hS => ?_)
  have hP : va_P D classes ([(h0, .inr (3, [.ref qa, .int (nI 0), .int (nI 0), .int (nI 0)])), (qa, .inl (cI, 110, .inl (fun _ => nI 0)))]) H := hP
  have hD : va_D A ([(h0, .inr (3, [.ref qa, .int (nI 0), .int (nI 0), .int (nI 0)])), (qa, .inl (cI, 110, .inl (fun _ => nI 0)))]) := hD
  refine lv_aload_n hx hb dX4_init_17 rfl (lv_at hl 0 rfl) ?_
  refine lv_iconst (v := 0) hx hb dX4_init_18 (by decide) ?_
  refine va_put (D := D) (ci := 3) (v := .int (nI 0)) (ty := .int) (C := RX4) (T := TX4) (N := 4) (ref := RX4) hx hb hts fin_3 tyX4 tyX4_ok nmX4 hown hK hP hD hS 0 rfl rfl 2 (by decide) (hts _ fl_RX4_17) (fun _ h9 => h9) rfl (by decide +kernel) rfl rfl (Nat.le_of_ble_eq_true rfl) dX4_init_19 (fun H locs hP hD hS => ?_)
  have hP : va_P D classes ([(h0, .inr (3, [.ref qa, .int (nI 0), .int (nI 0), .int (nI 0)])), (qa, .inl (cI, 110, .inl (fun _ => nI 0)))]) H := hP
  have hD : va_D A ([(h0, .inr (3, [.ref qa, .int (nI 0), .int (nI 0), .int (nI 0)])), (qa, .inl (cI, 110, .inl (fun _ => nI 0)))]) := hD
  refine lv_aload_n hx hb dX4_init_22 rfl (lv_at hl 0 rfl) ?_
  refine lv_iconst (v := 0) hx hb dX4_init_23 (by decide) ?_
  refine va_put (D := D) (ci := 3) (v := .int (nI 0)) (ty := .int) (C := RX4) (T := TX4) (N := 4) (ref := RX4) hx hb hts fin_3 tyX4 tyX4_ok nmX4 hown hK hP hD hS 0 rfl rfl 3 (by decide) (hts _ fl_RX4_20) (fun _ h9 => h9) rfl (by decide +kernel) rfl rfl (Nat.le_of_ble_eq_true rfl) dX4_init_24 (fun H locs hP hD hS => ?_)
  have hP : va_P D classes ([(h0, .inr (3, [.ref qa, .int (nI 0), .int (nI 0), .int (nI 0)])), (qa, .inl (cI, 110, .inl (fun _ => nI 0)))]) H := hP
  have hD : va_D A ([(h0, .inr (3, [.ref qa, .int (nI 0), .int (nI 0), .int (nI 0)])), (qa, .inl (cI, 110, .inl (fun _ => nI 0)))]) := hD
  refine W.widen (k := 1) (n := 110) (Nat.le_of_ble_eq_true rfl) (Nat.le_of_ble_eq_true rfl) ?_
  exact W.vret hx hb hr (fun t ht hW => ⟨⟨qa, rfl, trivial, by rw [ht]; exact hP, hD⟩, hS.F ht⟩) hS.2.2 dX4_init_27
