/-! the constructors with loops: the reference, the rows -/
theorem jn_ge {j n : Nat} (hj : j ≤ n) (hn : n < 2147483648) (h : nI n ≤ nI j) : j = n := by
  rw [Int32.le_iff_toInt_le, jm_tI hn, jm_tI (by omega)] at h
  omega
theorem jn_lt {j n : Nat} (hj : j ≤ n) (hn : n < 2147483648) (h : ¬ nI n ≤ nI j) : j < n := by
  rw [Int32.le_iff_toInt_le, jm_tI hn, jm_tI (by omega)] at h
  omega
theorem jn_cl {j : Nat} (hj : j < 2147483648) : (nI j).toNatClampNeg = j := by
  have h := jm_tI hj
  show (nI j).toInt.toNat = j
  rw [h]; rfl
def jn_f (v : Int32) (j : Nat) (f : Nat → Int32) : Nat → Int32 := fun i => if i < j then v else f i
theorem jn_f_s (v : Int32) (j : Nat) (f : Nat → Int32) : upd (jn_f v j f) j v = jn_f v (j + 1) f := by
  funext i
  unfold jn_f
  by_cases h : i = j
  · subst h; rw [upd_s, if_pos (by omega)]
  · rw [upd_n _ _ h]
    by_cases h2 : i < j
    · rw [if_pos h2, if_pos (by omega)]
    · rw [if_neg h2, if_neg (by omega)]
theorem jn_f_0 (v : Int32) (f : Nat → Int32) : jn_f v 0 f = f := by funext i; unfold jn_f; rw [if_neg (by omega)]
set_option maxHeartbeats 4000000 in
theorem n_X6_loop {p : Program} {l : Launch} {e : Env} {R : Room} {s : State} {m : MethodId} {args : Array Value} {below : List Frame} {meth : Method} {c : Code} {cells slots : Nat} {Q : State → Prop} {D : va_G} {A : Nat → Prop} {cI : ClassId} {tys : List (ClassId × FieldType)} {H0 : Heap} (hx : p.tables.exec = Jvm.exec) (hb : c.code = cX6_init) (hts : ∀ w ∈ jm_tb, w.before args s = true) (hown : s.vm.findClass RX6 = some m.cls) (hK : va_K D classes tys s) (ht : tys[0]? = some (cI, .int)) {h0 q : Nat} {fs : List Value} (hf : fs[0]? = some (.ref q)) {R9 : va_W} (K : ∀ (H : Heap) (locs : List Loc) (ls : Array Slot), va_P D classes ((h0, .inr (5, fs)) :: (q, .inl (cI, 8, .inl (jn_f (-1000000) 8 (fun _ => nI 0)))) :: R9) H → va_D A ((h0, .inr (5, fs)) :: (q, .inl (cI, 8, .inl (jn_f (-1000000) 8 (fun _ => nI 0)))) :: R9) → va_S A H0 H locs → W p l e R s m args below meth c H locs cells slots Q (F0 m 123 ls [])) : ∀ (k j : Nat) (H : Heap) (locs : List Loc) (ls : Array Slot), j ≤ 8 → 8 - j < k → va_P D classes ((h0, .inr (5, fs)) :: (q, .inl (cI, 8, .inl (jn_f (-1000000) j (fun _ => nI 0)))) :: R9) H → va_D A ((h0, .inr (5, fs)) :: (q, .inl (cI, 8, .inl (jn_f (-1000000) j (fun _ => nI 0)))) :: R9) → va_S A H0 H locs → lv_has ls 2 [(1, .int (nI j)), (0, .ref h0)] → W p l e R s m args below meth c H locs cells slots Q (F0 m 103 ls []) := by
  intro k
  induction k with
  | zero => intros; omega
  | succ k ih =>
    intro j H locs ls hj hk hP hD hS hl
    refine lv_iload_n hx hb dX6_init_103 rfl (lv_at hl 0 rfl) ?_
    refine lv_bipush (v := nI 8) hx hb dX6_init_104 (by decide) ?_
    refine lv_icmp_ge (tgt := 123) hx hb dX6_init_106 (by decide) (fun h => ?_) (fun h => ?_)
    · have e9 := jn_ge hj (by decide) h
      subst e9
      exact K H locs ls hP hD hS
    · have hlt := jn_lt hj (by decide) h
      refine lv_aload_n hx hb dX6_init_109 rfl (lv_at hl 1 rfl) ?_
      refine va_get (D := D) (ci := 5) (v := .ref q) (C := RX6) (T := TX6) (N := 22) (ref := RX6) hx hb hts fin_5 hown hK hP 0 rfl rfl 0 (by decide) (hts _ fl_RX6_7) (fun _ h9 => h9) hf dX6_init_110 ?_
      refine lv_iload_n hx hb dX6_init_113 rfl (lv_at hl 0 rfl) ?_
      refine lv_ldc (v := -1000000) hx hb hown (hts _ kc_RX6_47) dX6_init_114 ?_
      refine va_iast hx hb hK hP hD hS 1 0 rfl ht (vp_in_nI hlt (by decide)) dX6_init_116 (fun H locs hP hD hS => ?_)
      rw [jn_cl (by omega), jn_f_s] at hP hD
      refine lv_iinc (v := nI (j + 1)) (lv' := [(1, .int (nI (j + 1))), (0, .ref h0)]) hx hb dX6_init_117 hl (k := 0) rfl (nI_1 j) (by decide) rfl (fun ls hl => ?_)
      refine lv_goto (tgt := 103) hx hb dX6_init_120 (by decide) ?_
      exact ih (j + 1) H locs ls (by omega) (by omega) hP hD hS hl
def wm (cI cB : ClassId) (h : Nat) (u : Nat → Nat) : va_W := (h, .inr (5, [.ref (u 0), .ref (u 1), .ref (u 2), .ref (u 3), .int (nI 0), .ref (u 4), .int (nI 0), .int (nI 0), .int (nI 0), .int (nI 0), .int (nI 0), .int (nI 0), .int (nI 0), .ref (u 5), .ref (u 6), .ref (u 7), .ref (u 8), .int (nI 0), .ref (u 9), .ref (u 10), .ref (u 11), .int (nI 0)])) :: (u 0, .inl (cI, 8, .inl (jn_f (-1000000) 8 (fun _ => nI 0)))) :: [(u 1, .inl (cI, 8, .inl (fun _ => nI 0))), (u 2, .inl (cI, 320, .inl (fun _ => nI 0))), (u 3, .inl (cI, 40, .inl (fun _ => nI 0))), (u 4, .inl (cI, 110, .inl (fun _ => nI 0))), (u 5, .inl (cI, 45, .inl (fun _ => nI 0))), (u 6, .inl (cI, 45, .inl (fun _ => nI 0))), (u 7, .inl (cI, 45, .inl (fun _ => nI 0))), (u 8, .inl (cI, 1080, .inl (fun _ => nI 0))), (u 9, .inl (cI, 90, .inl (fun _ => nI 0))), (u 10, .inl (cB, 2, .inl (fun _ => nI 0))), (u 11, .inl (cI, 16, .inl (fun _ => nI 0)))]
set_option maxHeartbeats 4000000 in
set_option maxRecDepth 100000 in
theorem n_X6_init (l : Launch) (D : va_G) (cI : ClassId) (cB : ClassId) (h0 sz : Nat) : Met l yX6_init (jm_wds YX6_init) { frames := 1, cells := 12, slots := 1809, locals := 20 } (va_Pc [.ref h0] (fun U => U.heap.size = sz ∧ va_P D classes [(h0, .inr (5, [.null, .null, .null, .null, .int (nI 0), .null, .int (nI 0), .int (nI 0), .int (nI 0), .int (nI 0), .int (nI 0), .int (nI 0), .int (nI 0), .null, .null, .null, .null, .int (nI 0), .null, .null, .null, .int (nI 0)]))] U.heap ∧ va_K D classes [(cI, .int), (cB, .boolean)] U ∧ va_D (fun _ => True) [(h0, .inr (5, [.null, .null, .null, .null, .int (nI 0), .null, .int (nI 0), .int (nI 0), .int (nI 0), .int (nI 0), .int (nI 0), .int (nI 0), .int (nI 0), .null, .null, .null, .null, .int (nI 0), .null, .null, .null, .int (nI 0)]))] ∧ jn_E U)) (va_Qv (fun _ : Nat → Nat => True) (fun u t => va_P D classes (wm cI cB h0 u) t.heap ∧ va_D (va_A [(h0, .inr (5, [.null, .null, .null, .null, .int (nI 0), .null, .int (nI 0), .int (nI 0), .int (nI 0), .int (nI 0), .int (nI 0), .int (nI 0), .int (nI 0), .null, .null, .null, .null, .int (nI 0), .null, .null, .null, .int (nI 0)]))] sz) (wm cI cB h0 u)) (va_A [(h0, .inr (5, [.null, .null, .null, .null, .int (nI 0), .null, .int (nI 0), .int (nI 0), .int (nI 0), .int (nI 0), .int (nI 0), .int (nI 0), .int (nI 0), .null, .null, .null, .null, .int (nI 0), .null, .null, .null, .int (nI 0)]))] sz)) 12 1809 (va_A [(h0, .inr (5, [.null, .null, .null, .null, .int (nI 0), .null, .int (nI 0), .int (nI 0), .int (nI 0), .int (nI 0), .int (nI 0), .int (nI 0), .int (nI 0), .null, .null, .null, .null, .int (nI 0), .null, .null, .null, .int (nI 0)]))] sz) := by
  refine Met.ofW (cc := cX6_init) (maxL := 2) (ret := none) (by decide) rfl ?_
  intro p e s m args below meth c s₁ B hml hv
  obtain ⟨rfl, hsz, hP, hK, hD0, hAO⟩ := hv
  have hx := B.exec
  have hb := B.bytes
  have hr := B.returns
  have hts : ∀ w ∈ jm_tb, w.before _ s = true := fun w hw => atoms_spec (ws := jm_wds YX6_init) B.pre w (List.mem_cons_of_mem _ hw)
  have hown : s.vm.findClass RX6 = some m.cls := findClass_of_methodNamed B.named
  have hlocks := B.notSynchronized
  have hin : meth.name = "<init>" := (name_of_methodNamed B.named B.method).1
  subst hsz
  have hD := hD0.self (sz := s.heap.size)
  generalize hAe : va_A [(h0, .inr (5, [.null, .null, .null, .null, .int (nI 0), .null, .int (nI 0), .int (nI 0), .int (nI 0), .int (nI 0), .int (nI 0), .int (nI 0), .int (nI 0), .null, .null, .null, .null, .int (nI 0), .null, .null, .null, .int (nI 0)]))] s.heap.size = A at hD ⊢
  have hA : ∀ q : Nat, s.heap.size ≤ q → A q := fun q h => by rw [← hAe]; exact Or.inr h
  have hS : va_S A s.heap s.heap [] := va_S.rf
  have hl := lv_entry ([.ref h0]) (n := 2) (Nat.le_of_ble_eq_true rfl)
  rw [lg_entry_eq]
  generalize (lg_sl ([.ref h0]) ++ List.replicate (2 - (lg_sl ([.ref h0])).length) Slot.unset).toArray = ls at hl ⊢
  have hl : lv_has ls 2 [(0, .ref h0)] := hl
  refine lv_aload_n hx hb dX6_init_0 rfl (lv_at hl 0 rfl) ?_
  refine W.objInit hx hb hown (hts _ oi_RX6) (hts _ oi_im) (hts _ oi_cd) rfl (by rw [hml]; exact hl.1) rfl dX6_init_1 (Nat.le_of_ble_eq_true rfl) (Nat.le_of_ble_eq_true rfl) ?_
  refine W.eq (g2 := F0 m 4 ls []) rfl ?_
  refine lv_aload_n hx hb dX6_init_4 rfl (lv_at hl 0 rfl) ?_
  refine lv_bipush (v := 8) hx hb dX6_init_5 (by decide) ?_
  refine va_newa (atype := .int) (N' := 8) (a0 := (8, .inl (fun _ => nI 0))) hx hb (hts _ ac_int) rfl hK hP hD hS hA (fun _ => rfl) (by decide) (by decide) (Nat.le_of_ble_eq_true rfl) (Nat.le_of_ble_eq_true rfl) (Nat.le_of_ble_eq_true rfl) dX6_init_7 (fun q0 cA9 H hK hP hD hS => ?_)
  have eA9 : cA9 = cI := jn_cls hK 0 2 rfl rfl (Or.inl rfl)
  rw [eA9] at hP hD
  have hK : va_K D classes [(cI, .int), (cB, .boolean)] s := hK.sub [0, 1] rfl
  have hP : va_P D classes ([(h0, .inr (5, [.null, .null, .null, .null, .int (nI 0), .null, .int (nI 0), .int (nI 0), .int (nI 0), .int (nI 0), .int (nI 0), .int (nI 0), .int (nI 0), .null, .null, .null, .null, .int (nI 0), .null, .null, .null, .int (nI 0)])), (q0, .inl (cI, 8, .inl (fun _ => nI 0)))]) H := hP
  have hD : va_D A ([(h0, .inr (5, [.null, .null, .null, .null, .int (nI 0), .null, .int (nI 0), .int (nI 0), .int (nI 0), .int (nI 0), .int (nI 0), .int (nI 0), .int (nI 0), .null, .null, .null, .null, .int (nI 0), .null, .null, .null, .int (nI 0)])), (q0, .inl (cI, 8, .inl (fun _ => nI 0)))]) := hD
  refine va_putF (D := D) (ci := 5) (v := .ref q0) (ty := .array .int) (C := RX6) (T := TX6) (N := 22) (ref := RX6) hx hb hts fin_5 tyX6 tyX6_ok nmX6 hown hK hP hD hS 0 rfl rfl 0 (by decide) (hts _ fl_RX6_7) (fun _ h9 => h9) rfl hin rfl (by decide +kernel) rfl rfl (Nat.le_of_ble_eq_true rfl) dX6_init_9 (fun H locs hP hD hS => ?_)
  have hP : va_P D classes ([(h0, .inr (5, [.ref q0, .null, .null, .null, .int (nI 0), .null, .int (nI 0), .int (nI 0), .int (nI 0), .int (nI 0), .int (nI 0), .int (nI 0), .int (nI 0), .null, .null, .null, .null, .int (nI 0), .null, .null, .null, .int (nI 0)])), (q0, .inl (cI, 8, .inl (fun _ => nI 0)))]) H := hP
  have hD : va_D A ([(h0, .inr (5, [.ref q0, .null, .null, .null, .int (nI 0), .null, .int (nI 0), .int (nI 0), .int (nI 0), .int (nI 0), .int (nI 0), .int (nI 0), .int (nI 0), .null, .null, .null, .null, .int (nI 0), .null, .null, .null, .int (nI 0)])), (q0, .inl (cI, 8, .inl (fun _ => nI 0)))]) := hD
  refine lv_aload_n hx hb dX6_init_12 rfl (lv_at hl 0 rfl) ?_
  refine lv_bipush (v := 8) hx hb dX6_init_13 (by decide) ?_
  refine va_newa (atype := .int) (N' := 8) (a0 := (8, .inl (fun _ => nI 0))) hx hb (hts _ ac_int) rfl hK hP hD hS hA (fun _ => rfl) (by decide) (by decide) (Nat.le_of_ble_eq_true rfl) (Nat.le_of_ble_eq_true rfl) (Nat.le_of_ble_eq_true rfl) dX6_init_15 (fun q1 cA9 H hK hP hD hS => ?_)
  have eA9 : cA9 = cI := jn_cls hK 0 2 rfl rfl (Or.inl rfl)
  rw [eA9] at hP hD
  have hK : va_K D classes [(cI, .int), (cB, .boolean)] s := hK.sub [0, 1] rfl
  have hP : va_P D classes ([(h0, .inr (5, [.ref q0, .null, .null, .null, .int (nI 0), .null, .int (nI 0), .int (nI 0), .int (nI 0), .int (nI 0), .int (nI 0), .int (nI 0), .int (nI 0), .null, .null, .null, .null, .int (nI 0), .null, .null, .null, .int (nI 0)])), (q0, .inl (cI, 8, .inl (fun _ => nI 0))), (q1, .inl (cI, 8, .inl (fun _ => nI 0)))]) H := hP
  have hD : va_D A ([(h0, .inr (5, [.ref q0, .null, .null, .null, .int (nI 0), .null, .int (nI 0), .int (nI 0), .int (nI 0), .int (nI 0), .int (nI 0), .int (nI 0), .int (nI 0), .null, .null, .null, .null, .int (nI 0), .null, .null, .null, .int (nI 0)])), (q0, .inl (cI, 8, .inl (fun _ => nI 0))), (q1, .inl (cI, 8, .inl (fun _ => nI 0)))]) := hD
  refine va_putF (D := D) (ci := 5) (v := .ref q1) (ty := .array .int) (C := RX6) (T := TX6) (N := 22) (ref := RX6) hx hb hts fin_5 tyX6 tyX6_ok nmX6 hown hK hP hD hS 0 rfl rfl 1 (by decide) (hts _ fl_RX6_13) (fun _ h9 => h9) rfl hin rfl (by decide +kernel) rfl rfl (Nat.le_of_ble_eq_true rfl) dX6_init_17 (fun H locs hP hD hS => ?_)
  have hP : va_P D classes ([(h0, .inr (5, [.ref q0, .ref q1, .null, .null, .int (nI 0), .null, .int (nI 0), .int (nI 0), .int (nI 0), .int (nI 0), .int (nI 0), .int (nI 0), .int (nI 0), .null, .null, .null, .null, .int (nI 0), .null, .null, .null, .int (nI 0)])), (q0, .inl (cI, 8, .inl (fun _ => nI 0))), (q1, .inl (cI, 8, .inl (fun _ => nI 0)))]) H := hP
  have hD : va_D A ([(h0, .inr (5, [.ref q0, .ref q1, .null, .null, .int (nI 0), .null, .int (nI 0), .int (nI 0), .int (nI 0), .int (nI 0), .int (nI 0), .int (nI 0), .int (nI 0), .null, .null, .null, .null, .int (nI 0), .null, .null, .null, .int (nI 0)])), (q0, .inl (cI, 8, .inl (fun _ => nI 0))), (q1, .inl (cI, 8, .inl (fun _ => nI 0)))]) := hD
  refine lv_aload_n hx hb dX6_init_20 rfl (lv_at hl 0 rfl) ?_
  refine lv_sipush (v := 320) hx hb dX6_init_21 (by decide) ?_
  refine va_newa (atype := .int) (N' := 320) (a0 := (320, .inl (fun _ => nI 0))) hx hb (hts _ ac_int) rfl hK hP hD hS hA (fun _ => rfl) (by decide) (by decide) (Nat.le_of_ble_eq_true rfl) (Nat.le_of_ble_eq_true rfl) (Nat.le_of_ble_eq_true rfl) dX6_init_24 (fun q2 cA9 H hK hP hD hS => ?_)
  have eA9 : cA9 = cI := jn_cls hK 0 2 rfl rfl (Or.inl rfl)
  rw [eA9] at hP hD
  have hK : va_K D classes [(cI, .int), (cB, .boolean)] s := hK.sub [0, 1] rfl
  have hP : va_P D classes ([(h0, .inr (5, [.ref q0, .ref q1, .null, .null, .int (nI 0), .null, .int (nI 0), .int (nI 0), .int (nI 0), .int (nI 0), .int (nI 0), .int (nI 0), .int (nI 0), .null, .null, .null, .null, .int (nI 0), .null, .null, .null, .int (nI 0)])), (q0, .inl (cI, 8, .inl (fun _ => nI 0))), (q1, .inl (cI, 8, .inl (fun _ => nI 0))), (q2, .inl (cI, 320, .inl (fun _ => nI 0)))]) H := hP
  have hD : va_D A ([(h0, .inr (5, [.ref q0, .ref q1, .null, .null, .int (nI 0), .null, .int (nI 0), .int (nI 0), .int (nI 0), .int (nI 0), .int (nI 0), .int (nI 0), .int (nI 0), .null, .null, .null, .null, .int (nI 0), .null, .null, .null, .int (nI 0)])), (q0, .inl (cI, 8, .inl (fun _ => nI 0))), (q1, .inl (cI, 8, .inl (fun _ => nI 0))), (q2, .inl (cI, 320, .inl (fun _ => nI 0)))]) := hD
  refine va_putF (D := D) (ci := 5) (v := .ref q2) (ty := .array .int) (C := RX6) (T := TX6) (N := 22) (ref := RX6) hx hb hts fin_5 tyX6 tyX6_ok nmX6 hown hK hP hD hS 0 rfl rfl 2 (by decide) (hts _ fl_RX6_16) (fun _ h9 => h9) rfl hin rfl (by decide +kernel) rfl rfl (Nat.le_of_ble_eq_true rfl) dX6_init_26 (fun H locs hP hD hS => ?_)
  have hP : va_P D classes ([(h0, .inr (5, [.ref q0, .ref q1, .ref q2, .null, .int (nI 0), .null, .int (nI 0), .int (nI 0), .int (nI 0), .int (nI 0), .int (nI 0), .int (nI 0), .int (nI 0), .null, .null, .null, .null, .int (nI 0), .null, .null, .null, .int (nI 0)])), (q0, .inl (cI, 8, .inl (fun _ => nI 0))), (q1, .inl (cI, 8, .inl (fun _ => nI 0))), (q2, .inl (cI, 320, .inl (fun _ => nI 0)))]) H := hP
  have hD : va_D A ([(h0, .inr (5, [.ref q0, .ref q1, .ref q2, .null, .int (nI 0), .null, .int (nI 0), .int (nI 0), .int (nI 0), .int (nI 0), .int (nI 0), .int (nI 0), .int (nI 0), .null, .null, .null, .null, .int (nI 0), .null, .null, .null, .int (nI 0)])), (q0, .inl (cI, 8, .inl (fun _ => nI 0))), (q1, .inl (cI, 8, .inl (fun _ => nI 0))), (q2, .inl (cI, 320, .inl (fun _ => nI 0)))]) := hD
  refine lv_aload_n hx hb dX6_init_29 rfl (lv_at hl 0 rfl) ?_
  refine lv_bipush (v := 40) hx hb dX6_init_30 (by decide) ?_
  refine va_newa (atype := .int) (N' := 40) (a0 := (40, .inl (fun _ => nI 0))) hx hb (hts _ ac_int) rfl hK hP hD hS hA (fun _ => rfl) (by decide) (by decide) (Nat.le_of_ble_eq_true rfl) (Nat.le_of_ble_eq_true rfl) (Nat.le_of_ble_eq_true rfl) dX6_init_32 (fun q3 cA9 H hK hP hD hS => ?_)
  have eA9 : cA9 = cI := jn_cls hK 0 2 rfl rfl (Or.inl rfl)
  rw [eA9] at hP hD
  have hK : va_K D classes [(cI, .int), (cB, .boolean)] s := hK.sub [0, 1] rfl
  have hP : va_P D classes ([(h0, .inr (5, [.ref q0, .ref q1, .ref q2, .null, .int (nI 0), .null, .int (nI 0), .int (nI 0), .int (nI 0), .int (nI 0), .int (nI 0), .int (nI 0), .int (nI 0), .null, .null, .null, .null, .int (nI 0), .null, .null, .null, .int (nI 0)])), (q0, .inl (cI, 8, .inl (fun _ => nI 0))), (q1, .inl (cI, 8, .inl (fun _ => nI 0))), (q2, .inl (cI, 320, .inl (fun _ => nI 0))), (q3, .inl (cI, 40, .inl (fun _ => nI 0)))]) H := hP
  have hD : va_D A ([(h0, .inr (5, [.ref q0, .ref q1, .ref q2, .null, .int (nI 0), .null, .int (nI 0), .int (nI 0), .int (nI 0), .int (nI 0), .int (nI 0), .int (nI 0), .int (nI 0), .null, .null, .null, .null, .int (nI 0), .null, .null, .null, .int (nI 0)])), (q0, .inl (cI, 8, .inl (fun _ => nI 0))), (q1, .inl (cI, 8, .inl (fun _ => nI 0))), (q2, .inl (cI, 320, .inl (fun _ => nI 0))), (q3, .inl (cI, 40, .inl (fun _ => nI 0)))]) := hD
  refine va_putF (D := D) (ci := 5) (v := .ref q3) (ty := .array .int) (C := RX6) (T := TX6) (N := 22) (ref := RX6) hx hb hts fin_5 tyX6 tyX6_ok nmX6 hown hK hP hD hS 0 rfl rfl 3 (by decide) (hts _ fl_RX6_19) (fun _ h9 => h9) rfl hin rfl (by decide +kernel) rfl rfl (Nat.le_of_ble_eq_true rfl) dX6_init_34 (fun H locs hP hD hS => ?_)
  have hP : va_P D classes ([(h0, .inr (5, [.ref q0, .ref q1, .ref q2, .ref q3, .int (nI 0), .null, .int (nI 0), .int (nI 0), .int (nI 0), .int (nI 0), .int (nI 0), .int (nI 0), .int (nI 0), .null, .null, .null, .null, .int (nI 0), .null, .null, .null, .int (nI 0)])), (q0, .inl (cI, 8, .inl (fun _ => nI 0))), (q1, .inl (cI, 8, .inl (fun _ => nI 0))), (q2, .inl (cI, 320, .inl (fun _ => nI 0))), (q3, .inl (cI, 40, .inl (fun _ => nI 0)))]) H := hP
  have hD : va_D A ([(h0, .inr (5, [.ref q0, .ref q1, .ref q2, .ref q3, .int (nI 0), .null, .int (nI 0), .int (nI 0), .int (nI 0), .int (nI 0), .int (nI 0), .int (nI 0), .int (nI 0), .null, .null, .null, .null, .int (nI 0), .null, .null, .null, .int (nI 0)])), (q0, .inl (cI, 8, .inl (fun _ => nI 0))), (q1, .inl (cI, 8, .inl (fun _ => nI 0))), (q2, .inl (cI, 320, .inl (fun _ => nI 0))), (q3, .inl (cI, 40, .inl (fun _ => nI 0)))]) := hD
  refine lv_aload_n hx hb dX6_init_37 rfl (lv_at hl 0 rfl) ?_
  refine lv_bipush (v := 110) hx hb dX6_init_38 (by decide) ?_
  refine va_newa (atype := .int) (N' := 110) (a0 := (110, .inl (fun _ => nI 0))) hx hb (hts _ ac_int) rfl hK hP hD hS hA (fun _ => rfl) (by decide) (by decide) (Nat.le_of_ble_eq_true rfl) (Nat.le_of_ble_eq_true rfl) (Nat.le_of_ble_eq_true rfl) dX6_init_40 (fun q4 cA9 H hK hP hD hS => ?_)
  have eA9 : cA9 = cI := jn_cls hK 0 2 rfl rfl (Or.inl rfl)
  rw [eA9] at hP hD
  have hK : va_K D classes [(cI, .int), (cB, .boolean)] s := hK.sub [0, 1] rfl
  have hP : va_P D classes ([(h0, .inr (5, [.ref q0, .ref q1, .ref q2, .ref q3, .int (nI 0), .null, .int (nI 0), .int (nI 0), .int (nI 0), .int (nI 0), .int (nI 0), .int (nI 0), .int (nI 0), .null, .null, .null, .null, .int (nI 0), .null, .null, .null, .int (nI 0)])), (q0, .inl (cI, 8, .inl (fun _ => nI 0))), (q1, .inl (cI, 8, .inl (fun _ => nI 0))), (q2, .inl (cI, 320, .inl (fun _ => nI 0))), (q3, .inl (cI, 40, .inl (fun _ => nI 0))), (q4, .inl (cI, 110, .inl (fun _ => nI 0)))]) H := hP
  have hD : va_D A ([(h0, .inr (5, [.ref q0, .ref q1, .ref q2, .ref q3, .int (nI 0), .null, .int (nI 0), .int (nI 0), .int (nI 0), .int (nI 0), .int (nI 0), .int (nI 0), .int (nI 0), .null, .null, .null, .null, .int (nI 0), .null, .null, .null, .int (nI 0)])), (q0, .inl (cI, 8, .inl (fun _ => nI 0))), (q1, .inl (cI, 8, .inl (fun _ => nI 0))), (q2, .inl (cI, 320, .inl (fun _ => nI 0))), (q3, .inl (cI, 40, .inl (fun _ => nI 0))), (q4, .inl (cI, 110, .inl (fun _ => nI 0)))]) := hD
  refine va_putF (D := D) (ci := 5) (v := .ref q4) (ty := .array .int) (C := RX6) (T := TX6) (N := 22) (ref := RX6) hx hb hts fin_5 tyX6 tyX6_ok nmX6 hown hK hP hD hS 0 rfl rfl 5 (by decide) (hts _ fl_RX6_22) (fun _ h9 => h9) rfl hin rfl (by decide +kernel) rfl rfl (Nat.le_of_ble_eq_true rfl) dX6_init_42 (fun H locs hP hD hS => ?_)
  have hP : va_P D classes ([(h0, .inr (5, [.ref q0, .ref q1, .ref q2, .ref q3, .int (nI 0), .ref q4, .int (nI 0), .int (nI 0), .int (nI 0), .int (nI 0), .int (nI 0), .int (nI 0), .int (nI 0), .null, .null, .null, .null, .int (nI 0), .null, .null, .null, .int (nI 0)])), (q0, .inl (cI, 8, .inl (fun _ => nI 0))), (q1, .inl (cI, 8, .inl (fun _ => nI 0))), (q2, .inl (cI, 320, .inl (fun _ => nI 0))), (q3, .inl (cI, 40, .inl (fun _ => nI 0))), (q4, .inl (cI, 110, .inl (fun _ => nI 0)))]) H := hP
  have hD : va_D A ([(h0, .inr (5, [.ref q0, .ref q1, .ref q2, .ref q3, .int (nI 0), .ref q4, .int (nI 0), .int (nI 0), .int (nI 0), .int (nI 0), .int (nI 0), .int (nI 0), .int (nI 0), .null, .null, .null, .null, .int (nI 0), .null, .null, .null, .int (nI 0)])), (q0, .inl (cI, 8, .inl (fun _ => nI 0))), (q1, .inl (cI, 8, .inl (fun _ => nI 0))), (q2, .inl (cI, 320, .inl (fun _ => nI 0))), (q3, .inl (cI, 40, .inl (fun _ => nI 0))), (q4, .inl (cI, 110, .inl (fun _ => nI 0)))]) := hD
  refine lv_aload_n hx hb dX6_init_45 rfl (lv_at hl 0 rfl) ?_
  refine lv_bipush (v := 45) hx hb dX6_init_46 (by decide) ?_
  refine va_newa (atype := .int) (N' := 45) (a0 := (45, .inl (fun _ => nI 0))) hx hb (hts _ ac_int) rfl hK hP hD hS hA (fun _ => rfl) (by decide) (by decide) (Nat.le_of_ble_eq_true rfl) (Nat.le_of_ble_eq_true rfl) (Nat.le_of_ble_eq_true rfl) dX6_init_48 (fun q5 cA9 H hK hP hD hS => ?_)
  have eA9 : cA9 = cI := jn_cls hK 0 2 rfl rfl (Or.inl rfl)
  rw [eA9] at hP hD
  have hK : va_K D classes [(cI, .int), (cB, .boolean)] s := hK.sub [0, 1] rfl
  have hP : va_P D classes ([(h0, .inr (5, [.ref q0, .ref q1, .ref q2, .ref q3, .int (nI 0), .ref q4, .int (nI 0), .int (nI 0), .int (nI 0), .int (nI 0), .int (nI 0), .int (nI 0), .int (nI 0), .null, .null, .null, .null, .int (nI 0), .null, .null, .null, .int (nI 0)])), (q0, .inl (cI, 8, .inl (fun _ => nI 0))), (q1, .inl (cI, 8, .inl (fun _ => nI 0))), (q2, .inl (cI, 320, .inl (fun _ => nI 0))), (q3, .inl (cI, 40, .inl (fun _ => nI 0))), (q4, .inl (cI, 110, .inl (fun _ => nI 0))), (q5, .inl (cI, 45, .inl (fun _ => nI 0)))]) H := hP
  have hD : va_D A ([(h0, .inr (5, [.ref q0, .ref q1, .ref q2, .ref q3, .int (nI 0), .ref q4, .int (nI 0), .int (nI 0), .int (nI 0), .int (nI 0), .int (nI 0), .int (nI 0), .int (nI 0), .null, .null, .null, .null, .int (nI 0), .null, .null, .null, .int (nI 0)])), (q0, .inl (cI, 8, .inl (fun _ => nI 0))), (q1, .inl (cI, 8, .inl (fun _ => nI 0))), (q2, .inl (cI, 320, .inl (fun _ => nI 0))), (q3, .inl (cI, 40, .inl (fun _ => nI 0))), (q4, .inl (cI, 110, .inl (fun _ => nI 0))), (q5, .inl (cI, 45, .inl (fun _ => nI 0)))]) := hD
  refine va_putF (D := D) (ci := 5) (v := .ref q5) (ty := .array .int) (C := RX6) (T := TX6) (N := 22) (ref := RX6) hx hb hts fin_5 tyX6 tyX6_ok nmX6 hown hK hP hD hS 0 rfl rfl 13 (by decide) (hts _ fl_RX6_25) (fun _ h9 => h9) rfl hin rfl (by decide +kernel) rfl rfl (Nat.le_of_ble_eq_true rfl) dX6_init_50 (fun H locs hP hD hS => ?_)
  have hP : va_P D classes ([(h0, .inr (5, [.ref q0, .ref q1, .ref q2, .ref q3, .int (nI 0), .ref q4, .int (nI 0), .int (nI 0), .int (nI 0), .int (nI 0), .int (nI 0), .int (nI 0), .int (nI 0), .ref q5, .null, .null, .null, .int (nI 0), .null, .null, .null, .int (nI 0)])), (q0, .inl (cI, 8, .inl (fun _ => nI 0))), (q1, .inl (cI, 8, .inl (fun _ => nI 0))), (q2, .inl (cI, 320, .inl (fun _ => nI 0))), (q3, .inl (cI, 40, .inl (fun _ => nI 0))), (q4, .inl (cI, 110, .inl (fun _ => nI 0))), (q5, .inl (cI, 45, .inl (fun _ => nI 0)))]) H := hP
  have hD : va_D A ([(h0, .inr (5, [.ref q0, .ref q1, .ref q2, .ref q3, .int (nI 0), .ref q4, .int (nI 0), .int (nI 0), .int (nI 0), .int (nI 0), .int (nI 0), .int (nI 0), .int (nI 0), .ref q5, .null, .null, .null, .int (nI 0), .null, .null, .null, .int (nI 0)])), (q0, .inl (cI, 8, .inl (fun _ => nI 0))), (q1, .inl (cI, 8, .inl (fun _ => nI 0))), (q2, .inl (cI, 320, .inl (fun _ => nI 0))), (q3, .inl (cI, 40, .inl (fun _ => nI 0))), (q4, .inl (cI, 110, .inl (fun _ => nI 0))), (q5, .inl (cI, 45, .inl (fun _ => nI 0)))]) := hD
  refine lv_aload_n hx hb dX6_init_53 rfl (lv_at hl 0 rfl) ?_
  refine lv_bipush (v := 45) hx hb dX6_init_54 (by decide) ?_
  refine va_newa (atype := .int) (N' := 45) (a0 := (45, .inl (fun _ => nI 0))) hx hb (hts _ ac_int) rfl hK hP hD hS hA (fun _ => rfl) (by decide) (by decide) (Nat.le_of_ble_eq_true rfl) (Nat.le_of_ble_eq_true rfl) (Nat.le_of_ble_eq_true rfl) dX6_init_56 (fun q6 cA9 H hK hP hD hS => ?_)
  have eA9 : cA9 = cI := jn_cls hK 0 2 rfl rfl (Or.inl rfl)
  rw [eA9] at hP hD
  have hK : va_K D classes [(cI, .int), (cB, .boolean)] s := hK.sub [0, 1] rfl
  have hP : va_P D classes ([(h0, .inr (5, [.ref q0, .ref q1, .ref q2, .ref q3, .int (nI 0), .ref q4, .int (nI 0), .int (nI 0), .int (nI 0), .int (nI 0), .int (nI 0), .int (nI 0), .int (nI 0), .ref q5, .null, .null, .null, .int (nI 0), .null, .null, .null, .int (nI 0)])), (q0, .inl (cI, 8, .inl (fun _ => nI 0))), (q1, .inl (cI, 8, .inl (fun _ => nI 0))), (q2, .inl (cI, 320, .inl (fun _ => nI 0))), (q3, .inl (cI, 40, .inl (fun _ => nI 0))), (q4, .inl (cI, 110, .inl (fun _ => nI 0))), (q5, .inl (cI, 45, .inl (fun _ => nI 0))), (q6, .inl (cI, 45, .inl (fun _ => nI 0)))]) H := hP
  have hD : va_D A ([(h0, .inr (5, [.ref q0, .ref q1, .ref q2, .ref q3, .int (nI 0), .ref q4, .int (nI 0), .int (nI 0), .int (nI 0), .int (nI 0), .int (nI 0), .int (nI 0), .int (nI 0), .ref q5, .null, .null, .null, .int (nI 0), .null, .null, .null, .int (nI 0)])), (q0, .inl (cI, 8, .inl (fun _ => nI 0))), (q1, .inl (cI, 8, .inl (fun _ => nI 0))), (q2, .inl (cI, 320, .inl (fun _ => nI 0))), (q3, .inl (cI, 40, .inl (fun _ => nI 0))), (q4, .inl (cI, 110, .inl (fun _ => nI 0))), (q5, .inl (cI, 45, .inl (fun _ => nI 0))), (q6, .inl (cI, 45, .inl (fun _ => nI 0)))]) := hD
  refine va_putF (D := D) (ci := 5) (v := .ref q6) (ty := .array .int) (C := RX6) (T := TX6) (N := 22) (ref := RX6) hx hb hts fin_5 tyX6 tyX6_ok nmX6 hown hK hP hD hS 0 rfl rfl 14 (by decide) (hts _ fl_RX6_28) (fun _ h9 => h9) rfl hin rfl (by decide +kernel) rfl rfl (Nat.le_of_ble_eq_true rfl) dX6_init_58 (fun H locs hP hD hS => ?_)
  have hP : va_P D classes ([(h0, .inr (5, [.ref q0, .ref q1, .ref q2, .ref q3, .int (nI 0), .ref q4, .int (nI 0), .int (nI 0), .int (nI 0), .int (nI 0), .int (nI 0), .int (nI 0), .int (nI 0), .ref q5, .ref q6, .null, .null, .int (nI 0), .null, .null, .null, .int (nI 0)])), (q0, .inl (cI, 8, .inl (fun _ => nI 0))), (q1, .inl (cI, 8, .inl (fun _ => nI 0))), (q2, .inl (cI, 320, .inl (fun _ => nI 0))), (q3, .inl (cI, 40, .inl (fun _ => nI 0))), (q4, .inl (cI, 110, .inl (fun _ => nI 0))), (q5, .inl (cI, 45, .inl (fun _ => nI 0))), (q6, .inl (cI, 45, .inl (fun _ => nI 0)))]) H := hP
  have hD : va_D A ([(h0, .inr (5, [.ref q0, .ref q1, .ref q2, .ref q3, .int (nI 0), .ref q4, .int (nI 0), .int (nI 0), .int (nI 0), .int (nI 0), .int (nI 0), .int (nI 0), .int (nI 0), .ref q5, .ref q6, .null, .null, .int (nI 0), .null, .null, .null, .int (nI 0)])), (q0, .inl (cI, 8, .inl (fun _ => nI 0))), (q1, .inl (cI, 8, .inl (fun _ => nI 0))), (q2, .inl (cI, 320, .inl (fun _ => nI 0))), (q3, .inl (cI, 40, .inl (fun _ => nI 0))), (q4, .inl (cI, 110, .inl (fun _ => nI 0))), (q5, .inl (cI, 45, .inl (fun _ => nI 0))), (q6, .inl (cI, 45, .inl (fun _ => nI 0)))]) := hD
  refine lv_aload_n hx hb dX6_init_61 rfl (lv_at hl 0 rfl) ?_
  refine lv_bipush (v := 45) hx hb dX6_init_62 (by decide) ?_
  refine va_newa (atype := .int) (N' := 45) (a0 := (45, .inl (fun _ => nI 0))) hx hb (hts _ ac_int) rfl hK hP hD hS hA (fun _ => rfl) (by decide) (by decide) (Nat.le_of_ble_eq_true rfl) (Nat.le_of_ble_eq_true rfl) (Nat.le_of_ble_eq_true rfl) dX6_init_64 (fun q7 cA9 H hK hP hD hS => ?_)
  have eA9 : cA9 = cI := jn_cls hK 0 2 rfl rfl (Or.inl rfl)
  rw [eA9] at hP hD
  have hK : va_K D classes [(cI, .int), (cB, .boolean)] s := hK.sub [0, 1] rfl
  have hP : va_P D classes ([(h0, .inr (5, [.ref q0, .ref q1, .ref q2, .ref q3, .int (nI 0), .ref q4, .int (nI 0), .int (nI 0), .int (nI 0), .int (nI 0), .int (nI 0), .int (nI 0), .int (nI 0), .ref q5, .ref q6, .null, .null, .int (nI 0), .null, .null, .null, .int (nI 0)])), (q0, .inl (cI, 8, .inl (fun _ => nI 0))), (q1, .inl (cI, 8, .inl (fun _ => nI 0))), (q2, .inl (cI, 320, .inl (fun _ => nI 0))), (q3, .inl (cI, 40, .inl (fun _ => nI 0))), (q4, .inl (cI, 110, .inl (fun _ => nI 0))), (q5, .inl (cI, 45, .inl (fun _ => nI 0))), (q6, .inl (cI, 45, .inl (fun _ => nI 0))), (q7, .inl (cI, 45, .inl (fun _ => nI 0)))]) H := hP
  have hD : va_D A ([(h0, .inr (5, [.ref q0, .ref q1, .ref q2, .ref q3, .int (nI 0), .ref q4, .int (nI 0), .int (nI 0), .int (nI 0), .int (nI 0), .int (nI 0), .int (nI 0), .int (nI 0), .ref q5, .ref q6, .null, .null, .int (nI 0), .null, .null, .null, .int (nI 0)])), (q0, .inl (cI, 8, .inl (fun _ => nI 0))), (q1, .inl (cI, 8, .inl (fun _ => nI 0))), (q2, .inl (cI, 320, .inl (fun _ => nI 0))), (q3, .inl (cI, 40, .inl (fun _ => nI 0))), (q4, .inl (cI, 110, .inl (fun _ => nI 0))), (q5, .inl (cI, 45, .inl (fun _ => nI 0))), (q6, .inl (cI, 45, .inl (fun _ => nI 0))), (q7, .inl (cI, 45, .inl (fun _ => nI 0)))]) := hD
  refine va_putF (D := D) (ci := 5) (v := .ref q7) (ty := .array .int) (C := RX6) (T := TX6) (N := 22) (ref := RX6) hx hb hts fin_5 tyX6 tyX6_ok nmX6 hown hK hP hD hS 0 rfl rfl 15 (by decide) (hts _ fl_RX6_31) (fun _ h9 => h9) rfl hin rfl (by decide +kernel) rfl rfl (Nat.le_of_ble_eq_true rfl) dX6_init_66 (fun H locs hP hD hS => ?_)
  have hP : va_P D classes ([(h0, .inr (5, [.ref q0, .ref q1, .ref q2, .ref q3, .int (nI 0), .ref q4, .int (nI 0), .int (nI 0), .int (nI 0), .int (nI 0), .int (nI 0), .int (nI 0), .int (nI 0), .ref q5, .ref q6, .ref q7, .null, .int (nI 0), .null, .null, .null, .int (nI 0)])), (q0, .inl (cI, 8, .inl (fun _ => nI 0))), (q1, .inl (cI, 8, .inl (fun _ => nI 0))), (q2, .inl (cI, 320, .inl (fun _ => nI 0))), (q3, .inl (cI, 40, .inl (fun _ => nI 0))), (q4, .inl (cI, 110, .inl (fun _ => nI 0))), (q5, .inl (cI, 45, .inl (fun _ => nI 0))), (q6, .inl (cI, 45, .inl (fun _ => nI 0))), (q7, .inl (cI, 45, .inl (fun _ => nI 0)))]) H := hP
  have hD : va_D A ([(h0, .inr (5, [.ref q0, .ref q1, .ref q2, .ref q3, .int (nI 0), .ref q4, .int (nI 0), .int (nI 0), .int (nI 0), .int (nI 0), .int (nI 0), .int (nI 0), .int (nI 0), .ref q5, .ref q6, .ref q7, .null, .int (nI 0), .null, .null, .null, .int (nI 0)])), (q0, .inl (cI, 8, .inl (fun _ => nI 0))), (q1, .inl (cI, 8, .inl (fun _ => nI 0))), (q2, .inl (cI, 320, .inl (fun _ => nI 0))), (q3, .inl (cI, 40, .inl (fun _ => nI 0))), (q4, .inl (cI, 110, .inl (fun _ => nI 0))), (q5, .inl (cI, 45, .inl (fun _ => nI 0))), (q6, .inl (cI, 45, .inl (fun _ => nI 0))), (q7, .inl (cI, 45, .inl (fun _ => nI 0)))]) := hD
  refine lv_aload_n hx hb dX6_init_69 rfl (lv_at hl 0 rfl) ?_
  refine lv_sipush (v := 1080) hx hb dX6_init_70 (by decide) ?_
  refine va_newa (atype := .int) (N' := 1080) (a0 := (1080, .inl (fun _ => nI 0))) hx hb (hts _ ac_int) rfl hK hP hD hS hA (fun _ => rfl) (by decide) (by decide) (Nat.le_of_ble_eq_true rfl) (Nat.le_of_ble_eq_true rfl) (Nat.le_of_ble_eq_true rfl) dX6_init_73 (fun q8 cA9 H hK hP hD hS => ?_)
  have eA9 : cA9 = cI := jn_cls hK 0 2 rfl rfl (Or.inl rfl)
  rw [eA9] at hP hD
  have hK : va_K D classes [(cI, .int), (cB, .boolean)] s := hK.sub [0, 1] rfl
  have hP : va_P D classes ([(h0, .inr (5, [.ref q0, .ref q1, .ref q2, .ref q3, .int (nI 0), .ref q4, .int (nI 0), .int (nI 0), .int (nI 0), .int (nI 0), .int (nI 0), .int (nI 0), .int (nI 0), .ref q5, .ref q6, .ref q7, .null, .int (nI 0), .null, .null, .null, .int (nI 0)])), (q0, .inl (cI, 8, .inl (fun _ => nI 0))), (q1, .inl (cI, 8, .inl (fun _ => nI 0))), (q2, .inl (cI, 320, .inl (fun _ => nI 0))), (q3, .inl (cI, 40, .inl (fun _ => nI 0))), (q4, .inl (cI, 110, .inl (fun _ => nI 0))), (q5, .inl (cI, 45, .inl (fun _ => nI 0))), (q6, .inl (cI, 45, .inl (fun _ => nI 0))), (q7, .inl (cI, 45, .inl (fun _ => nI 0))), (q8, .inl (cI, 1080, .inl (fun _ => nI 0)))]) H := hP
  have hD : va_D A ([(h0, .inr (5, [.ref q0, .ref q1, .ref q2, .ref q3, .int (nI 0), .ref q4, .int (nI 0), .int (nI 0), .int (nI 0), .int (nI 0), .int (nI 0), .int (nI 0), .int (nI 0), .ref q5, .ref q6, .ref q7, .null, .int (nI 0), .null, .null, .null, .int (nI 0)])), (q0, .inl (cI, 8, .inl (fun _ => nI 0))), (q1, .inl (cI, 8, .inl (fun _ => nI 0))), (q2, .inl (cI, 320, .inl (fun _ => nI 0))), (q3, .inl (cI, 40, .inl (fun _ => nI 0))), (q4, .inl (cI, 110, .inl (fun _ => nI 0))), (q5, .inl (cI, 45, .inl (fun _ => nI 0))), (q6, .inl (cI, 45, .inl (fun _ => nI 0))), (q7, .inl (cI, 45, .inl (fun _ => nI 0))), (q8, .inl (cI, 1080, .inl (fun _ => nI 0)))]) := hD
  refine va_putF (D := D) (ci := 5) (v := .ref q8) (ty := .array .int) (C := RX6) (T := TX6) (N := 22) (ref := RX6) hx hb hts fin_5 tyX6 tyX6_ok nmX6 hown hK hP hD hS 0 rfl rfl 16 (by decide) (hts _ fl_RX6_34) (fun _ h9 => h9) rfl hin rfl (by decide +kernel) rfl rfl (Nat.le_of_ble_eq_true rfl) dX6_init_75 (fun H locs hP hD hS => ?_)
  have hP : va_P D classes ([(h0, .inr (5, [.ref q0, .ref q1, .ref q2, .ref q3, .int (nI 0), .ref q4, .int (nI 0), .int (nI 0), .int (nI 0), .int (nI 0), .int (nI 0), .int (nI 0), .int (nI 0), .ref q5, .ref q6, .ref q7, .ref q8, .int (nI 0), .null, .null, .null, .int (nI 0)])), (q0, .inl (cI, 8, .inl (fun _ => nI 0))), (q1, .inl (cI, 8, .inl (fun _ => nI 0))), (q2, .inl (cI, 320, .inl (fun _ => nI 0))), (q3, .inl (cI, 40, .inl (fun _ => nI 0))), (q4, .inl (cI, 110, .inl (fun _ => nI 0))), (q5, .inl (cI, 45, .inl (fun _ => nI 0))), (q6, .inl (cI, 45, .inl (fun _ => nI 0))), (q7, .inl (cI, 45, .inl (fun _ => nI 0))), (q8, .inl (cI, 1080, .inl (fun _ => nI 0)))]) H := hP
  have hD : va_D A ([(h0, .inr (5, [.ref q0, .ref q1, .ref q2, .ref q3, .int (nI 0), .ref q4, .int (nI 0), .int (nI 0), .int (nI 0), .int (nI 0), .int (nI 0), .int (nI 0), .int (nI 0), .ref q5, .ref q6, .ref q7, .ref q8, .int (nI 0), .null, .null, .null, .int (nI 0)])), (q0, .inl (cI, 8, .inl (fun _ => nI 0))), (q1, .inl (cI, 8, .inl (fun _ => nI 0))), (q2, .inl (cI, 320, .inl (fun _ => nI 0))), (q3, .inl (cI, 40, .inl (fun _ => nI 0))), (q4, .inl (cI, 110, .inl (fun _ => nI 0))), (q5, .inl (cI, 45, .inl (fun _ => nI 0))), (q6, .inl (cI, 45, .inl (fun _ => nI 0))), (q7, .inl (cI, 45, .inl (fun _ => nI 0))), (q8, .inl (cI, 1080, .inl (fun _ => nI 0)))]) := hD
  refine lv_aload_n hx hb dX6_init_78 rfl (lv_at hl 0 rfl) ?_
  refine lv_bipush (v := 90) hx hb dX6_init_79 (by decide) ?_
  refine va_newa (atype := .int) (N' := 90) (a0 := (90, .inl (fun _ => nI 0))) hx hb (hts _ ac_int) rfl hK hP hD hS hA (fun _ => rfl) (by decide) (by decide) (Nat.le_of_ble_eq_true rfl) (Nat.le_of_ble_eq_true rfl) (Nat.le_of_ble_eq_true rfl) dX6_init_81 (fun q9 cA9 H hK hP hD hS => ?_)
  have eA9 : cA9 = cI := jn_cls hK 0 2 rfl rfl (Or.inl rfl)
  rw [eA9] at hP hD
  have hK : va_K D classes [(cI, .int), (cB, .boolean)] s := hK.sub [0, 1] rfl
  have hP : va_P D classes ([(h0, .inr (5, [.ref q0, .ref q1, .ref q2, .ref q3, .int (nI 0), .ref q4, .int (nI 0), .int (nI 0), .int (nI 0), .int (nI 0), .int (nI 0), .int (nI 0), .int (nI 0), .ref q5, .ref q6, .ref q7, .ref q8, .int (nI 0), .null, .null, .null, .int (nI 0)])), (q0, .inl (cI, 8, .inl (fun _ => nI 0))), (q1, .inl (cI, 8, .inl (fun _ => nI 0))), (q2, .inl (cI, 320, .inl (fun _ => nI 0))), (q3, .inl (cI, 40, .inl (fun _ => nI 0))), (q4, .inl (cI, 110, .inl (fun _ => nI 0))), (q5, .inl (cI, 45, .inl (fun _ => nI 0))), (q6, .inl (cI, 45, .inl (fun _ => nI 0))), (q7, .inl (cI, 45, .inl (fun _ => nI 0))), (q8, .inl (cI, 1080, .inl (fun _ => nI 0))), (q9, .inl (cI, 90, .inl (fun _ => nI 0)))]) H := hP
  have hD : va_D A ([(h0, .inr (5, [.ref q0, .ref q1, .ref q2, .ref q3, .int (nI 0), .ref q4, .int (nI 0), .int (nI 0), .int (nI 0), .int (nI 0), .int (nI 0), .int (nI 0), .int (nI 0), .ref q5, .ref q6, .ref q7, .ref q8, .int (nI 0), .null, .null, .null, .int (nI 0)])), (q0, .inl (cI, 8, .inl (fun _ => nI 0))), (q1, .inl (cI, 8, .inl (fun _ => nI 0))), (q2, .inl (cI, 320, .inl (fun _ => nI 0))), (q3, .inl (cI, 40, .inl (fun _ => nI 0))), (q4, .inl (cI, 110, .inl (fun _ => nI 0))), (q5, .inl (cI, 45, .inl (fun _ => nI 0))), (q6, .inl (cI, 45, .inl (fun _ => nI 0))), (q7, .inl (cI, 45, .inl (fun _ => nI 0))), (q8, .inl (cI, 1080, .inl (fun _ => nI 0))), (q9, .inl (cI, 90, .inl (fun _ => nI 0)))]) := hD
  refine va_putF (D := D) (ci := 5) (v := .ref q9) (ty := .array .int) (C := RX6) (T := TX6) (N := 22) (ref := RX6) hx hb hts fin_5 tyX6 tyX6_ok nmX6 hown hK hP hD hS 0 rfl rfl 18 (by decide) (hts _ fl_RX6_37) (fun _ h9 => h9) rfl hin rfl (by decide +kernel) rfl rfl (Nat.le_of_ble_eq_true rfl) dX6_init_83 (fun H locs hP hD hS => ?_)
  have hP : va_P D classes ([(h0, .inr (5, [.ref q0, .ref q1, .ref q2, .ref q3, .int (nI 0), .ref q4, .int (nI 0), .int (nI 0), .int (nI 0), .int (nI 0), .int (nI 0), .int (nI 0), .int (nI 0), .ref q5, .ref q6, .ref q7, .ref q8, .int (nI 0), .ref q9, .null, .null, .int (nI 0)])), (q0, .inl (cI, 8, .inl (fun _ => nI 0))), (q1, .inl (cI, 8, .inl (fun _ => nI 0))), (q2, .inl (cI, 320, .inl (fun _ => nI 0))), (q3, .inl (cI, 40, .inl (fun _ => nI 0))), (q4, .inl (cI, 110, .inl (fun _ => nI 0))), (q5, .inl (cI, 45, .inl (fun _ => nI 0))), (q6, .inl (cI, 45, .inl (fun _ => nI 0))), (q7, .inl (cI, 45, .inl (fun _ => nI 0))), (q8, .inl (cI, 1080, .inl (fun _ => nI 0))), (q9, .inl (cI, 90, .inl (fun _ => nI 0)))]) H := hP
  have hD : va_D A ([(h0, .inr (5, [.ref q0, .ref q1, .ref q2, .ref q3, .int (nI 0), .ref q4, .int (nI 0), .int (nI 0), .int (nI 0), .int (nI 0), .int (nI 0), .int (nI 0), .int (nI 0), .ref q5, .ref q6, .ref q7, .ref q8, .int (nI 0), .ref q9, .null, .null, .int (nI 0)])), (q0, .inl (cI, 8, .inl (fun _ => nI 0))), (q1, .inl (cI, 8, .inl (fun _ => nI 0))), (q2, .inl (cI, 320, .inl (fun _ => nI 0))), (q3, .inl (cI, 40, .inl (fun _ => nI 0))), (q4, .inl (cI, 110, .inl (fun _ => nI 0))), (q5, .inl (cI, 45, .inl (fun _ => nI 0))), (q6, .inl (cI, 45, .inl (fun _ => nI 0))), (q7, .inl (cI, 45, .inl (fun _ => nI 0))), (q8, .inl (cI, 1080, .inl (fun _ => nI 0))), (q9, .inl (cI, 90, .inl (fun _ => nI 0)))]) := hD
  refine lv_aload_n hx hb dX6_init_86 rfl (lv_at hl 0 rfl) ?_
  refine lv_iconst (v := 2) hx hb dX6_init_87 (by decide) ?_
  refine va_newa (atype := .boolean) (N' := 2) (a0 := (2, .inl (fun _ => nI 0))) hx hb (hts _ ac_boo) rfl hK hP hD hS hA (fun _ => rfl) (by decide) (by decide) (Nat.le_of_ble_eq_true rfl) (Nat.le_of_ble_eq_true rfl) (Nat.le_of_ble_eq_true rfl) dX6_init_88 (fun q10 cA9 H hK hP hD hS => ?_)
  have eA9 : cA9 = cB := jn_cls hK 1 2 rfl rfl (Or.inr rfl)
  rw [eA9] at hP hD
  have hK : va_K D classes [(cI, .int), (cB, .boolean)] s := hK.sub [0, 1] rfl
  have hP : va_P D classes ([(h0, .inr (5, [.ref q0, .ref q1, .ref q2, .ref q3, .int (nI 0), .ref q4, .int (nI 0), .int (nI 0), .int (nI 0), .int (nI 0), .int (nI 0), .int (nI 0), .int (nI 0), .ref q5, .ref q6, .ref q7, .ref q8, .int (nI 0), .ref q9, .null, .null, .int (nI 0)])), (q0, .inl (cI, 8, .inl (fun _ => nI 0))), (q1, .inl (cI, 8, .inl (fun _ => nI 0))), (q2, .inl (cI, 320, .inl (fun _ => nI 0))), (q3, .inl (cI, 40, .inl (fun _ => nI 0))), (q4, .inl (cI, 110, .inl (fun _ => nI 0))), (q5, .inl (cI, 45, .inl (fun _ => nI 0))), (q6, .inl (cI, 45, .inl (fun _ => nI 0))), (q7, .inl (cI, 45, .inl (fun _ => nI 0))), (q8, .inl (cI, 1080, .inl (fun _ => nI 0))), (q9, .inl (cI, 90, .inl (fun _ => nI 0))), (q10, .inl (cB, 2, .inl (fun _ => nI 0)))]) H := hP
  have hD : va_D A ([(h0, .inr (5, [.ref q0, .ref q1, .ref q2, .ref q3, .int (nI 0), .ref q4, .int (nI 0), .int (nI 0), .int (nI 0), .int (nI 0), .int (nI 0), .int (nI 0), .int (nI 0), .ref q5, .ref q6, .ref q7, .ref q8, .int (nI 0), .ref q9, .null, .null, .int (nI 0)])), (q0, .inl (cI, 8, .inl (fun _ => nI 0))), (q1, .inl (cI, 8, .inl (fun _ => nI 0))), (q2, .inl (cI, 320, .inl (fun _ => nI 0))), (q3, .inl (cI, 40, .inl (fun _ => nI 0))), (q4, .inl (cI, 110, .inl (fun _ => nI 0))), (q5, .inl (cI, 45, .inl (fun _ => nI 0))), (q6, .inl (cI, 45, .inl (fun _ => nI 0))), (q7, .inl (cI, 45, .inl (fun _ => nI 0))), (q8, .inl (cI, 1080, .inl (fun _ => nI 0))), (q9, .inl (cI, 90, .inl (fun _ => nI 0))), (q10, .inl (cB, 2, .inl (fun _ => nI 0)))]) := hD
  refine va_putF (D := D) (ci := 5) (v := .ref q10) (ty := .array .boolean) (C := RX6) (T := TX6) (N := 22) (ref := RX6) hx hb hts fin_5 tyX6 tyX6_ok nmX6 hown hK hP hD hS 0 rfl rfl 19 (by decide) (hts _ fl_RX6_40) (fun _ h9 => h9) rfl hin rfl (by decide +kernel) rfl rfl (Nat.le_of_ble_eq_true rfl) dX6_init_90 (fun H locs hP hD hS => ?_)
  have hP : va_P D classes ([(h0, .inr (5, [.ref q0, .ref q1, .ref q2, .ref q3, .int (nI 0), .ref q4, .int (nI 0), .int (nI 0), .int (nI 0), .int (nI 0), .int (nI 0), .int (nI 0), .int (nI 0), .ref q5, .ref q6, .ref q7, .ref q8, .int (nI 0), .ref q9, .ref q10, .null, .int (nI 0)])), (q0, .inl (cI, 8, .inl (fun _ => nI 0))), (q1, .inl (cI, 8, .inl (fun _ => nI 0))), (q2, .inl (cI, 320, .inl (fun _ => nI 0))), (q3, .inl (cI, 40, .inl (fun _ => nI 0))), (q4, .inl (cI, 110, .inl (fun _ => nI 0))), (q5, .inl (cI, 45, .inl (fun _ => nI 0))), (q6, .inl (cI, 45, .inl (fun _ => nI 0))), (q7, .inl (cI, 45, .inl (fun _ => nI 0))), (q8, .inl (cI, 1080, .inl (fun _ => nI 0))), (q9, .inl (cI, 90, .inl (fun _ => nI 0))), (q10, .inl (cB, 2, .inl (fun _ => nI 0)))]) H := hP
  have hD : va_D A ([(h0, .inr (5, [.ref q0, .ref q1, .ref q2, .ref q3, .int (nI 0), .ref q4, .int (nI 0), .int (nI 0), .int (nI 0), .int (nI 0), .int (nI 0), .int (nI 0), .int (nI 0), .ref q5, .ref q6, .ref q7, .ref q8, .int (nI 0), .ref q9, .ref q10, .null, .int (nI 0)])), (q0, .inl (cI, 8, .inl (fun _ => nI 0))), (q1, .inl (cI, 8, .inl (fun _ => nI 0))), (q2, .inl (cI, 320, .inl (fun _ => nI 0))), (q3, .inl (cI, 40, .inl (fun _ => nI 0))), (q4, .inl (cI, 110, .inl (fun _ => nI 0))), (q5, .inl (cI, 45, .inl (fun _ => nI 0))), (q6, .inl (cI, 45, .inl (fun _ => nI 0))), (q7, .inl (cI, 45, .inl (fun _ => nI 0))), (q8, .inl (cI, 1080, .inl (fun _ => nI 0))), (q9, .inl (cI, 90, .inl (fun _ => nI 0))), (q10, .inl (cB, 2, .inl (fun _ => nI 0)))]) := hD
  refine lv_aload_n hx hb dX6_init_93 rfl (lv_at hl 0 rfl) ?_
  refine lv_bipush (v := 16) hx hb dX6_init_94 (by decide) ?_
  refine va_newa (atype := .int) (N' := 16) (a0 := (16, .inl (fun _ => nI 0))) hx hb (hts _ ac_int) rfl hK hP hD hS hA (fun _ => rfl) (by decide) (by decide) (Nat.le_of_ble_eq_true rfl) (Nat.le_of_ble_eq_true rfl) (Nat.le_of_ble_eq_true rfl) dX6_init_96 (fun q11 cA9 H hK hP hD hS => ?_)
  have eA9 : cA9 = cI := jn_cls hK 0 2 rfl rfl (Or.inl rfl)
  rw [eA9] at hP hD
  have hK : va_K D classes [(cI, .int), (cB, .boolean)] s := hK.sub [0, 1] rfl
  have hP : va_P D classes ([(h0, .inr (5, [.ref q0, .ref q1, .ref q2, .ref q3, .int (nI 0), .ref q4, .int (nI 0), .int (nI 0), .int (nI 0), .int (nI 0), .int (nI 0), .int (nI 0), .int (nI 0), .ref q5, .ref q6, .ref q7, .ref q8, .int (nI 0), .ref q9, .ref q10, .null, .int (nI 0)])), (q0, .inl (cI, 8, .inl (fun _ => nI 0))), (q1, .inl (cI, 8, .inl (fun _ => nI 0))), (q2, .inl (cI, 320, .inl (fun _ => nI 0))), (q3, .inl (cI, 40, .inl (fun _ => nI 0))), (q4, .inl (cI, 110, .inl (fun _ => nI 0))), (q5, .inl (cI, 45, .inl (fun _ => nI 0))), (q6, .inl (cI, 45, .inl (fun _ => nI 0))), (q7, .inl (cI, 45, .inl (fun _ => nI 0))), (q8, .inl (cI, 1080, .inl (fun _ => nI 0))), (q9, .inl (cI, 90, .inl (fun _ => nI 0))), (q10, .inl (cB, 2, .inl (fun _ => nI 0))), (q11, .inl (cI, 16, .inl (fun _ => nI 0)))]) H := hP
  have hD : va_D A ([(h0, .inr (5, [.ref q0, .ref q1, .ref q2, .ref q3, .int (nI 0), .ref q4, .int (nI 0), .int (nI 0), .int (nI 0), .int (nI 0), .int (nI 0), .int (nI 0), .int (nI 0), .ref q5, .ref q6, .ref q7, .ref q8, .int (nI 0), .ref q9, .ref q10, .null, .int (nI 0)])), (q0, .inl (cI, 8, .inl (fun _ => nI 0))), (q1, .inl (cI, 8, .inl (fun _ => nI 0))), (q2, .inl (cI, 320, .inl (fun _ => nI 0))), (q3, .inl (cI, 40, .inl (fun _ => nI 0))), (q4, .inl (cI, 110, .inl (fun _ => nI 0))), (q5, .inl (cI, 45, .inl (fun _ => nI 0))), (q6, .inl (cI, 45, .inl (fun _ => nI 0))), (q7, .inl (cI, 45, .inl (fun _ => nI 0))), (q8, .inl (cI, 1080, .inl (fun _ => nI 0))), (q9, .inl (cI, 90, .inl (fun _ => nI 0))), (q10, .inl (cB, 2, .inl (fun _ => nI 0))), (q11, .inl (cI, 16, .inl (fun _ => nI 0)))]) := hD
  refine va_putF (D := D) (ci := 5) (v := .ref q11) (ty := .array .int) (C := RX6) (T := TX6) (N := 22) (ref := RX6) hx hb hts fin_5 tyX6 tyX6_ok nmX6 hown hK hP hD hS 0 rfl rfl 20 (by decide) (hts _ fl_RX6_44) (fun _ h9 => h9) rfl hin rfl (by decide +kernel) rfl rfl (Nat.le_of_ble_eq_true rfl) dX6_init_98 (fun H locs hP hD hS => ?_)
  have hP : va_P D classes ([(h0, .inr (5, [.ref q0, .ref q1, .ref q2, .ref q3, .int (nI 0), .ref q4, .int (nI 0), .int (nI 0), .int (nI 0), .int (nI 0), .int (nI 0), .int (nI 0), .int (nI 0), .ref q5, .ref q6, .ref q7, .ref q8, .int (nI 0), .ref q9, .ref q10, .ref q11, .int (nI 0)])), (q0, .inl (cI, 8, .inl (fun _ => nI 0))), (q1, .inl (cI, 8, .inl (fun _ => nI 0))), (q2, .inl (cI, 320, .inl (fun _ => nI 0))), (q3, .inl (cI, 40, .inl (fun _ => nI 0))), (q4, .inl (cI, 110, .inl (fun _ => nI 0))), (q5, .inl (cI, 45, .inl (fun _ => nI 0))), (q6, .inl (cI, 45, .inl (fun _ => nI 0))), (q7, .inl (cI, 45, .inl (fun _ => nI 0))), (q8, .inl (cI, 1080, .inl (fun _ => nI 0))), (q9, .inl (cI, 90, .inl (fun _ => nI 0))), (q10, .inl (cB, 2, .inl (fun _ => nI 0))), (q11, .inl (cI, 16, .inl (fun _ => nI 0)))]) H := hP
  have hD : va_D A ([(h0, .inr (5, [.ref q0, .ref q1, .ref q2, .ref q3, .int (nI 0), .ref q4, .int (nI 0), .int (nI 0), .int (nI 0), .int (nI 0), .int (nI 0), .int (nI 0), .int (nI 0), .ref q5, .ref q6, .ref q7, .ref q8, .int (nI 0), .ref q9, .ref q10, .ref q11, .int (nI 0)])), (q0, .inl (cI, 8, .inl (fun _ => nI 0))), (q1, .inl (cI, 8, .inl (fun _ => nI 0))), (q2, .inl (cI, 320, .inl (fun _ => nI 0))), (q3, .inl (cI, 40, .inl (fun _ => nI 0))), (q4, .inl (cI, 110, .inl (fun _ => nI 0))), (q5, .inl (cI, 45, .inl (fun _ => nI 0))), (q6, .inl (cI, 45, .inl (fun _ => nI 0))), (q7, .inl (cI, 45, .inl (fun _ => nI 0))), (q8, .inl (cI, 1080, .inl (fun _ => nI 0))), (q9, .inl (cI, 90, .inl (fun _ => nI 0))), (q10, .inl (cB, 2, .inl (fun _ => nI 0))), (q11, .inl (cI, 16, .inl (fun _ => nI 0)))]) := hD
  refine lv_iconst (v := nI 0) hx hb dX6_init_101 (by decide) ?_
  refine lv_istore_n (lv' := [(1, .int (nI 0)), (0, .ref h0)]) hx hb dX6_init_102 rfl hl (by decide) rfl (fun ls hl => ?_)
  refine n_X6_loop (tys := [(cI, .int), (cB, .boolean)]) (fs := [.ref q0, .ref q1, .ref q2, .ref q3, .int (nI 0), .ref q4, .int (nI 0), .int (nI 0), .int (nI 0), .int (nI 0), .int (nI 0), .int (nI 0), .int (nI 0), .ref q5, .ref q6, .ref q7, .ref q8, .int (nI 0), .ref q9, .ref q10, .ref q11, .int (nI 0)]) (R9 := [(q1, .inl (cI, 8, .inl (fun _ => nI 0))), (q2, .inl (cI, 320, .inl (fun _ => nI 0))), (q3, .inl (cI, 40, .inl (fun _ => nI 0))), (q4, .inl (cI, 110, .inl (fun _ => nI 0))), (q5, .inl (cI, 45, .inl (fun _ => nI 0))), (q6, .inl (cI, 45, .inl (fun _ => nI 0))), (q7, .inl (cI, 45, .inl (fun _ => nI 0))), (q8, .inl (cI, 1080, .inl (fun _ => nI 0))), (q9, .inl (cI, 90, .inl (fun _ => nI 0))), (q10, .inl (cB, 2, .inl (fun _ => nI 0))), (q11, .inl (cI, 16, .inl (fun _ => nI 0)))]) (h0 := h0) (q := q0) hx hb hts hown hK rfl rfl (fun H locs ls hP hD hS => ?_) 9 0 H locs ls (by decide) (by decide) (by rw [jn_f_0]; exact hP) (by rw [jn_f_0]; exact hD) hS hl
  refine W.widen (k := 12) (n := 1809) (Nat.le_of_ble_eq_true rfl) (Nat.le_of_ble_eq_true rfl) ?_
  exact W.vret hx hb hr (fun t ht hW => ⟨⟨(fun i => if i = 0 then q0 else if i = 1 then q1 else if i = 2 then q2 else if i = 3 then q3 else if i = 4 then q4 else if i = 5 then q5 else if i = 6 then q6 else if i = 7 then q7 else if i = 8 then q8 else if i = 9 then q9 else if i = 10 then q10 else q11), rfl, trivial, by rw [ht]; exact hP, hD⟩, hS.F ht⟩) hS.2.2 dX6_init_123
set_option maxHeartbeats 4000000 in
theorem n_fill_loop {p : Program} {l : Launch} {e : Env} {R : Room} {s : State} {m : MethodId} {args : Array Value} {below : List Frame} {meth : Method} {c : Code} {cells slots : Nat} {Q : State → Prop} {D : va_G} {A : Nat → Prop} {cI : ClassId} {tys : List (ClassId × FieldType)} {H0 : Heap} (hx : p.tables.exec = Jvm.exec) (hb : c.code = cJ7_fill_53178) (hK : va_K D classes tys s) (ht : tys[0]? = some (cI, .int)) {q : Nat} {v : Int32} {f : Nat → Int32} (K : ∀ (H : Heap) (locs : List Loc) (ls : Array Slot), va_P D classes [(q, .inl (cI, 8, .inl (jn_f v 8 f)))] H → va_D A [(q, .inl (cI, 8, .inl (jn_f v 8 f)))] → va_S A H0 H locs → W p l e R s m args below meth c H locs cells slots Q (F0 m 20 ls [])) : ∀ (k j : Nat) (H : Heap) (locs : List Loc) (ls : Array Slot), j ≤ 8 → 8 - j < k → va_P D classes [(q, .inl (cI, 8, .inl (jn_f v j f)))] H → va_D A [(q, .inl (cI, 8, .inl (jn_f v j f)))] → va_S A H0 H locs → lv_has ls 4 [(2, .int (nI j)), (3, .int (nI 8)), (0, .ref q), (1, .int v)] → W p l e R s m args below meth c H locs cells slots Q (F0 m 5 ls []) := by
  intro k
  induction k with
  | zero => intros; omega
  | succ k ih =>
    intro j H locs ls hj hk hP hD hS hl
    refine lv_iload_n hx hb dJ7_fill_53178_5 rfl (lv_at hl 0 rfl) ?_
    refine lv_iload_n hx hb dJ7_fill_53178_6 rfl (lv_at hl 1 rfl) ?_
    refine lv_icmp_ge (tgt := 20) hx hb dJ7_fill_53178_7 (by decide) (fun h => ?_) (fun h => ?_)
    · have e9 := jn_ge hj (by decide) h
      subst e9
      exact K H locs ls hP hD hS
    · have hlt := jn_lt hj (by decide) h
      refine lv_aload_n hx hb dJ7_fill_53178_10 rfl (lv_at hl 2 rfl) ?_
      refine lv_iload_n hx hb dJ7_fill_53178_11 rfl (lv_at hl 0 rfl) ?_
      refine lv_iload_n hx hb dJ7_fill_53178_12 rfl (lv_at hl 3 rfl) ?_
      refine va_iast hx hb hK hP hD hS 0 0 rfl ht (vp_in_nI hlt (by decide)) dJ7_fill_53178_13 (fun H locs hP hD hS => ?_)
      rw [jn_cl (by omega), jn_f_s] at hP hD
      refine lv_iinc (v := nI (j + 1)) (lv' := [(2, .int (nI (j + 1))), (3, .int (nI 8)), (0, .ref q), (1, .int v)]) hx hb dJ7_fill_53178_14 hl (k := 0) rfl (nI_1 j) (by decide) rfl (fun ls hl => ?_)
      refine lv_goto (tgt := 5) hx hb dJ7_fill_53178_17 (by decide) ?_
      exact ih (j + 1) H locs ls (by omega) (by omega) hP hD hS hl
set_option maxHeartbeats 4000000 in
theorem n_fill (l : Launch) (D : va_G) (cI : ClassId) (v : Int32) (f : Nat → Int32) (q sz : Nat) : Met l yJ7_fill_53178 (jm_wds YJ7_fill_53178) { frames := 0, cells := 0, slots := 0, locals := 0 } (va_Pc [.ref q, .int v] (fun U => U.heap.size = sz ∧ va_P D classes [(q, .inl (cI, 8, .inl (f)))] U.heap ∧ va_K D classes [(cI, .int)] U ∧ va_D (fun _ => True) [(q, .inl (cI, 8, .inl (f)))])) (va_Qv (fun _ : Unit => True) (fun u t => va_P D classes [(q, .inl (cI, 8, .inl (jn_f v 8 f)))] t.heap ∧ va_D (va_A [(q, .inl (cI, 8, .inl (f)))] sz) [(q, .inl (cI, 8, .inl (jn_f v 8 f)))]) (va_A [(q, .inl (cI, 8, .inl (f)))] sz)) 0 0 (va_A [(q, .inl (cI, 8, .inl (f)))] sz) := by
  refine Met.ofW (cc := cJ7_fill_53178) (maxL := 4) (ret := none) (by decide) rfl ?_
  intro p e s m args below meth c s₁ B hml hv
  obtain ⟨rfl, hsz, hP, hK, hD0⟩ := hv
  have hx := B.exec
  have hb := B.bytes
  have hr := B.returns
  subst hsz
  have hD := hD0.self (sz := s.heap.size)
  generalize hAe : va_A [(q, .inl (cI, 8, .inl (f)))] s.heap.size = A at hD ⊢
  have hS : va_S A s.heap s.heap [] := va_S.rf
  have hl := lv_entry ([.ref q, .int v]) (n := 4) (Nat.le_of_ble_eq_true rfl)
  rw [lg_entry_eq]
  generalize (lg_sl ([.ref q, .int v]) ++ List.replicate (4 - (lg_sl ([.ref q, .int v])).length) Slot.unset).toArray = ls at hl ⊢
  have hl : lv_has ls 4 [(0, .ref q), (1, .int v)] := hl
  refine lv_iconst (v := nI 0) hx hb dJ7_fill_53178_0 (by decide) ?_
  refine lv_istore_n (lv' := [(2, .int (nI 0)), (0, .ref q), (1, .int v)]) hx hb dJ7_fill_53178_1 rfl hl (by decide) rfl (fun ls hl => ?_)
  refine lv_aload_n hx hb dJ7_fill_53178_2 rfl (lv_at hl 1 rfl) ?_
  refine va_alen (x := (8, .inl f)) hx hb hK hP 0 0 rfl rfl (v := nI 8) rfl dJ7_fill_53178_3 ?_
  refine lv_istore_n (lv' := [(3, .int (nI 8)), (2, .int (nI 0)), (0, .ref q), (1, .int v)]) hx hb dJ7_fill_53178_4 rfl hl (by decide) rfl (fun ls hl => ?_)
  refine n_fill_loop (tys := [(cI, .int)]) (f := f) (v := v) (q := q) hx hb hK rfl (fun H locs ls hP hD hS => ?_) 9 0 _ _ ls (by decide) (by decide) (by rw [jn_f_0]; exact hP) (by rw [jn_f_0]; exact hD) hS (lv_sub hl [1, 0, 2, 3] rfl)
  exact W.vret hx hb hr (fun t ht hW => ⟨⟨(), rfl, trivial, by rw [ht]; exact hP, hD⟩, hS.F ht⟩) hS.2.2 dJ7_fill_53178_20
def wrr (cI : ClassId) (r : Nat → Nat) : va_W := (List.range 8).map (fun k => (r k, .inl (cI, 40, .inl (fun _ => nI 0))))
def wr (cI cQ : ClassId) (h i l g : Nat) (r : Nat → Nat) : va_W := [(g, .inl (cI, 8, .inl (jn_f (-1) 8 (fun _ => nI 0)))), (h, .inr (2, [.ref i, .ref l, .ref g])), (i, .inl (cQ, 8, .inr (.inr (.inr (.inr (fun k => if k < 8 then some (r k) else none)))))), (l, .inl (cI, 8, .inl (fun _ => nI 0)))] ++ wrr cI r
theorem wrr_e (cI : ClassId) (r : Nat → Nat) (f : Nat → va_E) : va_pl ([] ++ (List.range 8).map r) (vr_up f ((List.range 8).map r) (.inl (cI, (40, .inl (fun _ => nI 0))))) = wrr cI r := by
  unfold va_pl wrr
  rw [List.nil_append, List.map_map]
  apply List.map_congr_left
  intro k hk
  show (r k, vr_up f ((List.range 8).map r) _ (r k)) = _
  rw [vr_up_in (List.mem_map.mpr ⟨k, hk, rfl⟩)]
theorem wrr_in (c : ClassId) : Jvm.Free.Multi.innerC c 40 (defaultValue .int) = vp_cell c (40, .inl (fun _ => nI 0)) := by
  show ({ cls := c, slots := Array.replicate 40 (.int 0), vm := .none } : Cell) = _
  rw [arrV_new]
  rfl
set_option maxHeartbeats 4000000 in
set_option maxRecDepth 100000 in
theorem n_X3_init (l : Launch) (D : va_G) (cI : ClassId) (cQ : ClassId) (h0 sz : Nat) : Met l yX3_init (jm_wds YX3_init) { frames := 1, cells := 11, slots := 344, locals := 23 } (va_Pc [.ref h0] (fun U => U.heap.size = sz ∧ va_P D classes [(h0, .inr (2, [.null, .null, .null]))] U.heap ∧ va_K D classes [(cI, .int), (cQ, .array .int)] U ∧ va_D (fun _ => True) [(h0, .inr (2, [.null, .null, .null]))] ∧ jn_E U)) (va_Qv (fun _ : Nat × Nat × Nat × (Nat → Nat) => True) (fun u t => va_P D classes (wr cI cQ h0 u.1 u.2.1 u.2.2.1 u.2.2.2) t.heap ∧ va_D (va_A [(h0, .inr (2, [.null, .null, .null]))] sz) (wr cI cQ h0 u.1 u.2.1 u.2.2.1 u.2.2.2)) (va_A [(h0, .inr (2, [.null, .null, .null]))] sz)) 11 344 (va_A [(h0, .inr (2, [.null, .null, .null]))] sz) := by
  refine Met.ofW (cc := cX3_init) (maxL := 1) (ret := none) (by decide) rfl ?_
  intro p e s m args below meth c s₁ B hml hv
  obtain ⟨rfl, hsz, hP, hK, hD0, hAO⟩ := hv
  have hx := B.exec
  have hb := B.bytes
  have hr := B.returns
  have hts : ∀ w ∈ jm_tb, w.before _ s = true := fun w hw => atoms_spec (ws := jm_wds YX3_init) B.pre w (List.mem_cons_of_mem _ hw)
  have hown : s.vm.findClass RX3 = some m.cls := findClass_of_methodNamed B.named
  have hlocks := B.notSynchronized
  have hin : meth.name = "<init>" := (name_of_methodNamed B.named B.method).1
  subst hsz
  have hD := hD0.self (sz := s.heap.size)
  generalize hAe : va_A [(h0, .inr (2, [.null, .null, .null]))] s.heap.size = A at hD ⊢
  have hA : ∀ q : Nat, s.heap.size ≤ q → A q := fun q h => by rw [← hAe]; exact Or.inr h
  have hS : va_S A s.heap s.heap [] := va_S.rf
  have hl := lv_entry ([.ref h0]) (n := 1) (Nat.le_of_ble_eq_true rfl)
  rw [lg_entry_eq]
  generalize (lg_sl ([.ref h0]) ++ List.replicate (1 - (lg_sl ([.ref h0])).length) Slot.unset).toArray = ls at hl ⊢
  have hl : lv_has ls 1 [(0, .ref h0)] := hl
  refine lv_aload_n hx hb dX3_init_0 rfl (lv_at hl 0 rfl) ?_
  refine W.objInit hx hb hown (hts _ oi_RX3) (hts _ oi_im) (hts _ oi_cd) rfl (by rw [hml]; exact hl.1) rfl dX3_init_1 (Nat.le_of_ble_eq_true rfl) (Nat.le_of_ble_eq_true rfl) ?_
  refine W.eq (g2 := F0 m 4 ls []) rfl ?_
  refine lv_aload_n hx hb dX3_init_4 rfl (lv_at hl 0 rfl) ?_
  refine lv_bipush (v := 8) hx hb dX3_init_5 (by decide) ?_
  refine lv_bipush (v := 40) hx hb dX3_init_7 (by decide) ?_
  have hcy : s.vm.findClass (FieldType.array .int).toString = some cI := (hK.2 0 _ rfl).2
  refine va_mna (X := [(h0, .inr (2, [.null, .null, .null]))]) (L := []) (f := fun _ => .inl (cI, 0, .inl (fun _ => nI 0))) (ty := .int) (z := (40, .inl (fun _ => nI 0))) (N' := 8) (K' := 40) hx hb hown (hts _ ao_cli) hAO.1 (hts _ ac_int) hcy hK hP hD hS hA (by decide) (by decide) (by decide) (by decide) (Nat.le_of_ble_eq_true rfl) (Nat.le_of_ble_eq_true rfl) (Nat.le_of_ble_eq_true rfl) rfl rfl (Nat.le_of_ble_eq_true rfl) (Nat.le_of_ble_eq_true rfl) wrr_in dX3_init_9 (fun qi r cQ9 H hinj hnl hK hP hD hS => ?_)
  rw [wrr_e] at hP hD
  have eQ : cQ9 = cQ := Option.some.inj ((hK.2 2 _ rfl).2.symm.trans (hK.2 1 _ rfl).2)
  rw [eQ] at hP hD
  have hK : va_K D classes [(cI, .int), (cQ, .array .int)] s := hK.sub [0, 1] rfl
  have hP : va_P D classes ([(h0, .inr (2, [.null, .null, .null])), (qi, .inl (cQ, 8, .inr (.inr (.inr (.inr (fun k => if k < 8 then some (r k) else none))))))] ++ wrr cI r) H := hP
  have hD : va_D A ([(h0, .inr (2, [.null, .null, .null])), (qi, .inl (cQ, 8, .inr (.inr (.inr (.inr (fun k => if k < 8 then some (r k) else none))))))] ++ wrr cI r) := hD
  refine va_putF (D := D) (ci := 2) (v := .ref qi) (ty := .array (.array .int)) (C := RX3) (T := TX3) (N := 3) (ref := RX3) hx hb hts fin_2 tyX3 tyX3_ok nmX3 hown hK hP hD hS 0 rfl rfl 0 (by decide) (hts _ fl_RX3_11) (fun _ h9 => h9) rfl hin rfl (by decide +kernel) rfl rfl (Nat.le_of_ble_eq_true rfl) dX3_init_13 (fun H locs hP hD hS => ?_)
  have hP : va_P D classes ([(h0, .inr (2, [.ref qi, .null, .null])), (qi, .inl (cQ, 8, .inr (.inr (.inr (.inr (fun k => if k < 8 then some (r k) else none))))))] ++ wrr cI r) H := hP
  have hD : va_D A ([(h0, .inr (2, [.ref qi, .null, .null])), (qi, .inl (cQ, 8, .inr (.inr (.inr (.inr (fun k => if k < 8 then some (r k) else none))))))] ++ wrr cI r) := hD
  refine lv_aload_n hx hb dX3_init_16 rfl (lv_at hl 0 rfl) ?_
  refine lv_bipush (v := 8) hx hb dX3_init_17 (by decide) ?_
  refine va_newa (atype := .int) (N' := 8) (a0 := (8, .inl (fun _ => nI 0))) hx hb (hts _ ac_int) rfl hK hP hD hS hA (fun _ => rfl) (by decide) (by decide) (Nat.le_of_ble_eq_true rfl) (Nat.le_of_ble_eq_true rfl) (Nat.le_of_ble_eq_true rfl) dX3_init_19 (fun ql cA9 H hK hP hD hS => ?_)
  have eA9 : cA9 = cI := jn_cls hK 0 2 rfl rfl (Or.inl rfl)
  rw [eA9] at hP hD
  have hK : va_K D classes [(cI, .int), (cQ, .array .int)] s := hK.sub [0, 1] rfl
  have pm : List.Perm (α := Nat × va_E) ([(h0, .inr (2, [.ref qi, .null, .null])), (qi, .inl (cQ, 8, .inr (.inr (.inr (.inr (fun k => if k < 8 then some (r k) else none))))))] ++ ((ql, .inl (cI, 8, .inl (fun _ => nI 0))) :: wrr cI r)) (([(h0, .inr (2, [.ref qi, .null, .null])), (qi, .inl (cQ, 8, .inr (.inr (.inr (.inr (fun k => if k < 8 then some (r k) else none))))))] ++ wrr cI r) ++ [(ql, .inl (cI, 8, .inl (fun _ => nI 0)))]) := by
    rw [List.append_assoc]
    exact List.Perm.append_left _ (List.perm_append_singleton _ _).symm
  have hP := jn_Pp hP pm
  have hD := jn_Dp hD pm
  have hP : va_P D classes ([(h0, .inr (2, [.ref qi, .null, .null])), (qi, .inl (cQ, 8, .inr (.inr (.inr (.inr (fun k => if k < 8 then some (r k) else none)))))), (ql, .inl (cI, 8, .inl (fun _ => nI 0)))] ++ wrr cI r) H := hP
  have hD : va_D A ([(h0, .inr (2, [.ref qi, .null, .null])), (qi, .inl (cQ, 8, .inr (.inr (.inr (.inr (fun k => if k < 8 then some (r k) else none)))))), (ql, .inl (cI, 8, .inl (fun _ => nI 0)))] ++ wrr cI r) := hD
  refine va_putF (D := D) (ci := 2) (v := .ref ql) (ty := .array .int) (C := RX3) (T := TX3) (N := 3) (ref := RX3) hx hb hts fin_2 tyX3 tyX3_ok nmX3 hown hK hP hD hS 0 rfl rfl 1 (by decide) (hts _ fl_RX3_14) (fun _ h9 => h9) rfl hin rfl (by decide +kernel) rfl rfl (Nat.le_of_ble_eq_true rfl) dX3_init_21 (fun H locs hP hD hS => ?_)
  have hP : va_P D classes ([(h0, .inr (2, [.ref qi, .ref ql, .null])), (qi, .inl (cQ, 8, .inr (.inr (.inr (.inr (fun k => if k < 8 then some (r k) else none)))))), (ql, .inl (cI, 8, .inl (fun _ => nI 0)))] ++ wrr cI r) H := hP
  have hD : va_D A ([(h0, .inr (2, [.ref qi, .ref ql, .null])), (qi, .inl (cQ, 8, .inr (.inr (.inr (.inr (fun k => if k < 8 then some (r k) else none)))))), (ql, .inl (cI, 8, .inl (fun _ => nI 0)))] ++ wrr cI r) := hD
  refine lv_aload_n hx hb dX3_init_24 rfl (lv_at hl 0 rfl) ?_
  refine lv_bipush (v := 8) hx hb dX3_init_25 (by decide) ?_
  refine va_newa (atype := .int) (N' := 8) (a0 := (8, .inl (fun _ => nI 0))) hx hb (hts _ ac_int) rfl hK hP hD hS hA (fun _ => rfl) (by decide) (by decide) (Nat.le_of_ble_eq_true rfl) (Nat.le_of_ble_eq_true rfl) (Nat.le_of_ble_eq_true rfl) dX3_init_27 (fun qg cA9 H hK hP hD hS => ?_)
  have eA9 : cA9 = cI := jn_cls hK 0 2 rfl rfl (Or.inl rfl)
  rw [eA9] at hP hD
  have hK : va_K D classes [(cI, .int), (cQ, .array .int)] s := hK.sub [0, 1] rfl
  have pm : List.Perm (α := Nat × va_E) ([(h0, .inr (2, [.ref qi, .ref ql, .null])), (qi, .inl (cQ, 8, .inr (.inr (.inr (.inr (fun k => if k < 8 then some (r k) else none)))))), (ql, .inl (cI, 8, .inl (fun _ => nI 0)))] ++ ((qg, .inl (cI, 8, .inl (fun _ => nI 0))) :: wrr cI r)) (([(h0, .inr (2, [.ref qi, .ref ql, .null])), (qi, .inl (cQ, 8, .inr (.inr (.inr (.inr (fun k => if k < 8 then some (r k) else none)))))), (ql, .inl (cI, 8, .inl (fun _ => nI 0)))] ++ wrr cI r) ++ [(qg, .inl (cI, 8, .inl (fun _ => nI 0)))]) := by
    rw [List.append_assoc]
    exact List.Perm.append_left _ (List.perm_append_singleton _ _).symm
  have hP := jn_Pp hP pm
  have hD := jn_Dp hD pm
  have hP : va_P D classes ([(h0, .inr (2, [.ref qi, .ref ql, .null])), (qi, .inl (cQ, 8, .inr (.inr (.inr (.inr (fun k => if k < 8 then some (r k) else none)))))), (ql, .inl (cI, 8, .inl (fun _ => nI 0))), (qg, .inl (cI, 8, .inl (fun _ => nI 0)))] ++ wrr cI r) H := hP
  have hD : va_D A ([(h0, .inr (2, [.ref qi, .ref ql, .null])), (qi, .inl (cQ, 8, .inr (.inr (.inr (.inr (fun k => if k < 8 then some (r k) else none)))))), (ql, .inl (cI, 8, .inl (fun _ => nI 0))), (qg, .inl (cI, 8, .inl (fun _ => nI 0)))] ++ wrr cI r) := hD
  refine va_putF (D := D) (ci := 2) (v := .ref qg) (ty := .array .int) (C := RX3) (T := TX3) (N := 3) (ref := RX3) hx hb hts fin_2 tyX3 tyX3_ok nmX3 hown hK hP hD hS 0 rfl rfl 2 (by decide) (hts _ fl_RX3_18) (fun _ h9 => h9) rfl hin rfl (by decide +kernel) rfl rfl (Nat.le_of_ble_eq_true rfl) dX3_init_29 (fun H locs hP hD hS => ?_)
  have hP : va_P D classes ([(h0, .inr (2, [.ref qi, .ref ql, .ref qg])), (qi, .inl (cQ, 8, .inr (.inr (.inr (.inr (fun k => if k < 8 then some (r k) else none)))))), (ql, .inl (cI, 8, .inl (fun _ => nI 0))), (qg, .inl (cI, 8, .inl (fun _ => nI 0)))] ++ wrr cI r) H := hP
  have hD : va_D A ([(h0, .inr (2, [.ref qi, .ref ql, .ref qg])), (qi, .inl (cQ, 8, .inr (.inr (.inr (.inr (fun k => if k < 8 then some (r k) else none)))))), (ql, .inl (cI, 8, .inl (fun _ => nI 0))), (qg, .inl (cI, 8, .inl (fun _ => nI 0)))] ++ wrr cI r) := hD
  refine lv_aload_n hx hb dX3_init_32 rfl (lv_at hl 0 rfl) ?_
  refine va_get (D := D) (ci := 2) (v := .ref qg) (C := RX3) (T := TX3) (N := 3) (ref := RX3) hx hb hts fin_2 hown hK hP 0 rfl rfl 2 (by decide) (hts _ fl_RX3_18) (fun _ h9 => h9) rfl dX3_init_33 ?_
  refine lv_iconst (v := -1) hx hb dX3_init_36 (by decide) ?_
  have pm : List.Perm (α := Nat × va_E) ((qg, .inl (cI, 8, .inl (fun _ => nI 0))) :: ([(h0, .inr (2, [.ref qi, .ref ql, .ref qg])), (qi, .inl (cQ, 8, .inr (.inr (.inr (.inr (fun k => if k < 8 then some (r k) else none)))))), (ql, .inl (cI, 8, .inl (fun _ => nI 0)))] ++ wrr cI r)) ([(h0, .inr (2, [.ref qi, .ref ql, .ref qg])), (qi, .inl (cQ, 8, .inr (.inr (.inr (.inr (fun k => if k < 8 then some (r k) else none)))))), (ql, .inl (cI, 8, .inl (fun _ => nI 0)))] ++ ((qg, .inl (cI, 8, .inl (fun _ => nI 0))) :: wrr cI r)) := List.perm_middle.symm
  have hP := jn_Pp hP pm
  have hD := jn_Dp hD pm
  have hPc : va_P D classes [(qg, .inl (cI, 8, .inl (fun _ => nI 0)))] H := hP.sub [0] rfl
  have hDc : va_D A [(qg, .inl (cI, 8, .inl (fun _ => nI 0)))] := hD.sub [0] (by decide) rfl
  have hKc : va_K D classes [(cI, .int)] s := hK.sub [0] rfl
  have hFc := va_free (wc := [(qg, .inl (cI, 8, .inl (fun _ => nI 0)))]) hD hS hA [0] rfl
  refine W.widen (k := 11) (n := 344) (Nat.le_of_ble_eq_true rfl) (Nat.le_of_ble_eq_true rfl) ?_
  refine va_callv (va_runS (As := [.ref qg, .int (-1)]) (rest := []) ⟨hx, hb, hml, hown, hts⟩ (n_fill l D cI (-1) (fun _ => nI 0) qg H.size) ⟨jn_callB (Yc := YJ7_fill_53178) (mc := 0) (ms := 0) hts lk_RX3_21.1.1 lk_RX3_21.1.2.1 lk_RX3_21.1.2.2.1 lk_RX3_21.1.2.2.2.2.1 lk_RX3_21.1.2.2.2.2.2 ⟨Nat.le_of_ble_eq_true rfl, Nat.le_of_ble_eq_true rfl⟩, hts _ lk_RX3_21.2⟩ ⟨fun a U g mk q => by obtain ⟨q0, q1, qP, qK, qD⟩ := q; exact ⟨q0, q1, qP, va_K.moved (u := U) (U := U.calling g mk a) (Vm.Alike.refl U.vm) qK, qD⟩, fun U hU hW => ⟨rfl, by rw [hU], by rw [hU]; exact hPc, va_K.moved hW.alike hKc, hDc.weaken (fun _ _ _ _ => trivial)⟩⟩ rfl rfl hl.1 rfl (lv_room (Nat.le_of_ble_eq_true rfl)) dX3_init_37 ⟨Nat.le_of_ble_eq_true rfl, Nat.le_of_ble_eq_true rfl⟩) hS (fun q _ h => hFc q h) hFc (fun u t H1 locs ht hvm hw hB hz1 hk1 hS => ?_)
  obtain ⟨hP1, hD1⟩ := hB
  rw [ht] at hP1
  obtain ⟨hP, hD⟩ := jn_join hP hD hk1 hFc hP1 hD1
  
  refine W.widen (k := 11) (n := 344) (Nat.le_of_ble_eq_true rfl) (Nat.le_of_ble_eq_true rfl) ?_
  exact W.vret hx hb hr (fun t ht hW => ⟨⟨(qi, ql, qg, r), rfl, trivial, by rw [ht]; exact hP, hD⟩, hS.F ht⟩) hS.2.2 dX3_init_40
