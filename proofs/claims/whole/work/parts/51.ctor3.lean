/-! the constructor of the program -/
set_option maxHeartbeats 4000000 in
theorem n_newG {α : Type} {p : Program} {l : Launch} {e : Env} {R : Room} {s : State} {m : MethodId} {args : Array Value} {below : List Frame} {meth : Method} {c : Code} {cells slots : Nat} {Q : State → Prop} {D : va_G} {A : Nat → Prop} {tys : List (ClassId × FieldType)} {H0 : Heap} {cc : ByteArray} {nL pc : Nat} {ls : Array Slot} {rest : List Value} {H : Heap} {locs : List Loc} {ws : va_W} (hx : p.tables.exec = Jvm.exec) (hb : c.code = cc) (hml : c.maxLocals = nL) {own : String} (hts : ∀ w ∈ jm_tb, w.before args s = true) (hown : s.vm.findClass own = some m.cls)
    {C : String} {T : u_T} {N ci ixn ixc : Nat} (hin : ∀ w ∈ u_ws C T N, w ∈ jm_tb) (ty : Nat → FieldType) (hty : ∀ k, k < N → parseFieldDescriptor (T k).2.2.1 = some (ty k)) (hcl : Cond.classLink own ixn C ∈ jm_tb) (hinst : Cond.instantiable C N ∈ jm_tb) (hini : Cond.initialized C ∈ jm_tb) (hc : classes[ci]? = some (C, T, N)) {fs : List Value} (hfs : ∀ j, j < N → defaultValue (ty j) = vp_V fs j)
    (Yc : jm_Y) {mc ms : Nat} (w : Nat → α → va_W) {tysC : List (ClassId × FieldType)}
    (hM : ∀ h0 sz : Nat, Met l Yc.1 (jm_wds Yc) { frames := Yc.2.2.2.2.1, cells := mc, slots := ms, locals := Yc.2.2.2.2.2 } (va_Pc [.ref h0] (fun U => U.heap.size = sz ∧ va_P D classes [(h0, .inr (ci, fs))] U.heap ∧ va_K D classes tysC U ∧ va_D (fun _ => True) [(h0, .inr (ci, fs))] ∧ jn_E U)) (va_Qv (fun _ : α => True) (fun u t => va_P D classes (w h0 u) t.heap ∧ va_D (va_A [(h0, .inr (ci, fs))] sz) (w h0 u)) (va_A [(h0, .inr (ci, fs))] sz)) mc ms (va_A [(h0, .inr (ci, fs))] sz))
    (l4 : Yc.2.2.2.1 = none) (l0 : Yc.1.name = "<init>") (lim : Cond.instanceMethod Yc.1 ∈ jm_tb) (l1 : Cond.methodLink own ixc Yc.1 ∈ jm_tb) (l2 : Yc.1.cls = C) (l3 : Cond.code Yc.1 Yc.2.1 Yc.2.2.1 Yc.2.2.2.1 ∈ jm_tb) (l5 : Yc.1.cls ≠ "java/lang/invoke/MethodHandle" ∧ Yc.1.cls ≠ "java/lang/invoke/VarHandle") (l6 : (parseMethodDescriptor Yc.1.desc).map (fun d => d.parameters.length) = some 0)
    (hK : va_K D classes tys s) (hKc : va_K D classes tysC s) (hAO : jn_E s) (hP : va_P D classes ws H) (hD : va_D A ws) (hS : va_S A H0 H locs) (hA : ∀ q, H0.size ≤ q → A q)
    (hce : cells + 1 + mc ≤ R.cells) (hsl : slots + N + ms ≤ R.slots) (hR : Yc.2.2.2.2.1 + 1 ≤ R.frames ∧ 8 + (Yc.2.2.1 + 11) + Yc.2.2.2.2.2 ≤ R.locals)
    (hls : ls.size = nL) (hrm : (rest.map fun v => v.category).sum ≤ 7)
    (hd0 : decode cc pc = .ok (.new ixn, 3)) (hd1 : decode cc (pc + 3) = .ok (.dup, 1)) (hd2 : decode cc (pc + 4) = .ok (.invokespecial ixc, 3))
    (kk : ∀ (q : Nat) (u : α) (H : Heap) (locs : List Loc), va_P D classes (w q u ++ ws) H → va_D A (w q u ++ ws) → va_S A H0 H locs → W p l e R s m args below meth c H locs (cells + 1 + mc) (slots + N + ms) Q (F0 m (pc + 7) ls (.ref q :: rest))) : W p l e R s m args below meth c H locs cells slots Q (F0 m pc ls (rest)) := by
  refine va_new (ci := ci) (fs := fs) (C := C) (T := T) (N := N) hx hb hts hin ty hty hown (hts _ hcl) (hts _ hinst) (hts _ hini) hK hP hD hS hA hc hfs (Nat.le_trans (Nat.le_add_right _ _) hce) (Nat.le_trans (Nat.le_add_right _ _) hsl) hd0 (fun q H hP hD hS => ?_)
  have hP := jn_Pp hP (List.perm_append_singleton (q, .inr (ci, fs)) ws).symm
  have hD := jn_Dp hD (List.perm_append_singleton (q, .inr (ci, fs)) ws).symm
  refine lv_dup hx hb hd1 rfl ?_
  have hPc : va_P D classes [(q, .inr (ci, fs))] H := hP.sub [0] rfl
  have hDc : va_D A [(q, .inr (ci, fs))] := hD.sub [0] (by decide) rfl
  have hFc := va_free (wc := [(q, .inr (ci, fs))]) hD hS hA [0] rfl
  have cb := jn_callB (Yc := Yc) (mc := mc) (ms := ms) hts l1 (by rw [l2]; exact hini) l3 l5 l6 hR
  rw [l4] at cb
  refine va_callv (va_runI (As := []) (rest := .ref q :: rest) ⟨hx, hb, hml, hown, hts⟩ (hM q H.size) ⟨cb, l0, hts _ lim⟩ ⟨fun a U g mk z => by obtain ⟨q0, q1, qP, qK, qD, qA⟩ := z; exact ⟨q0, q1, qP, va_K.moved (u := U) (U := U.calling g mk a) (Vm.Alike.refl U.vm) qK, qD, jn_E.moved (u := U) (U := U.calling g mk a) (Vm.Alike.refl U.vm) qA⟩, fun U hU hW => ⟨rfl, by rw [hU], by rw [hU]; exact hPc, va_K.moved hW.alike hKc, hDc.weaken (fun _ _ _ _ => trivial), jn_E.moved hW.alike hAO⟩⟩ rfl rfl hls rfl (lv_room ?_) hd2 ⟨hce, hsl⟩) hS (fun q _ h => hFc q h) hFc (fun u t H1 locs ht hvm hw hB hz1 hk1 hS => ?_)
  · rw [List.map_cons, List.sum_cons]
    show 1 + _ ≤ 8
    omega
  obtain ⟨hP1, hD1⟩ := hB
  rw [ht] at hP1
  obtain ⟨hP, hD⟩ := jn_join hP hD hk1 hFc hP1 hD1
  exact kk q u H1 locs hP hD hS
theorem jn_clO {D : va_G} {cl : List vw_C} {tys : List (ClassId × FieldType)} {U : State} (hK : va_K D cl tys U) (i j : Nat) {a b : ClassId} {C : String} (hi : tys[i]? = some (a, .object C)) (hj : tys[j]? = some (b, .object C)) : b = a := by
  obtain ⟨-, -, -, -, -, h1⟩ := (hK.2 i _ hi).2
  obtain ⟨-, -, -, -, -, h2⟩ := (hK.2 j _ hj).2
  exact Option.some.inj (h2.symm.trans h1)
/-- the rivers, the newest before -/
def wrv (cI : ClassId) (v : Nat → Nat × Nat × Nat × Nat) : Nat → va_W
  | 0 => []
  | n + 1 => wv cI (v n) ++ wrv cI v n
def wf (v : Nat → Nat × Nat × Nat × Nat) (b i : Nat) : Nat → Option Nat := fun k => if k < i then some (v (b + k)).1 else none
def wvs (v : Nat → Nat × Nat × Nat × Nat) (n : Nat) (x : Nat × Nat × Nat × Nat) : Nat → Nat × Nat × Nat × Nat := fun k => if k = n then x else v k
theorem wvs_s (v : Nat → Nat × Nat × Nat × Nat) (n : Nat) (x : Nat × Nat × Nat × Nat) : wvs v n x n = x := if_pos rfl
theorem wvs_n (v : Nat → Nat × Nat × Nat × Nat) {n k : Nat} (x : Nat × Nat × Nat × Nat) (h : k ≠ n) : wvs v n x k = v k := if_neg h
theorem wrv_c (cI : ClassId) {v v' : Nat → Nat × Nat × Nat × Nat} : ∀ (n : Nat), (∀ k, k < n → v' k = v k) → wrv cI v' n = wrv cI v n := by
  intro n
  induction n with
  | zero => intros; rfl
  | succ n ih =>
    intro h
    show wv cI (v' n) ++ wrv cI v' n = wv cI (v n) ++ wrv cI v n
    rw [h n (by omega), ih (fun k hk => h k (by omega))]
theorem wf_c {v v' : Nat → Nat × Nat × Nat × Nat} {b i : Nat} (h : ∀ k, k < b + i → v' k = v k) : wf v' b i = wf v b i := by
  funext k
  unfold wf
  by_cases hk : k < i
  · rw [if_pos hk, if_pos hk, h (b + k) (by omega)]
  · rw [if_neg hk, if_neg hk]
theorem wf_s (v : Nat → Nat × Nat × Nat × Nat) (b i : Nat) (x : Nat × Nat × Nat × Nat) : va_up (wf v b i) i (some x.1) = wf (wvs v (b + i) x) b (i + 1) := by
  funext k
  unfold va_up wf
  by_cases hk : k = i
  · subst hk
    rw [if_pos rfl, if_pos (by omega), wvs_s]
  · rw [if_neg hk]
    by_cases h2 : k < i
    · rw [if_pos h2, if_pos (by omega), wvs_n v x (by omega)]
    · rw [if_neg h2, if_neg (by omega)]
theorem wf_0 (v : Nat → Nat × Nat × Nat × Nat) (b : Nat) : wf v b 0 = fun _ => none := by funext k; unfold wf; rw [if_neg (by omega)]
theorem jn_perm3 {a b c : Nat × va_E} (l1 l2 : va_W) : (a :: b :: c :: (l1 ++ l2)).Perm (l1 ++ (a :: b :: c :: l2)) := by
  refine List.Perm.trans ?_ List.perm_middle.symm
  refine List.Perm.cons a ?_
  refine List.Perm.trans ?_ List.perm_middle.symm
  exact List.Perm.cons b List.perm_middle.symm
theorem wrv_s (cI : ClassId) (v : Nat → Nat × Nat × Nat × Nat) (n : Nat) (x : Nat × Nat × Nat × Nat) : wv cI x ++ wrv cI v n = wrv cI (wvs v n x) (n + 1) := by
  show _ = wv cI (wvs v n x n) ++ wrv cI (wvs v n x) n
  rw [wvs_s, wrv_c cI n (fun k hk => wvs_n v x (by omega))]
theorem ini_X0 : Cond.initialized RX0 ∈ jm_tb := (jm_tb_in (List.mem_of_getElem? (i := 65) (by decide +kernel)) rfl)
theorem ini_X2 : Cond.initialized RX2 ∈ jm_tb := (jm_tb_in (List.mem_of_getElem? (i := 66) (by decide +kernel)) rfl)
theorem ini_X3 : Cond.initialized RX3 ∈ jm_tb := (jm_tb_in (List.mem_of_getElem? (i := 62) (by decide +kernel)) rfl)
theorem ini_X4 : Cond.initialized RX4 ∈ jm_tb := (jm_tb_in (List.mem_of_getElem? (i := 64) (by decide +kernel)) rfl)
theorem ini_X6 : Cond.initialized RX6 ∈ jm_tb := (jm_tb_in (List.mem_of_getElem? (i := 67) (by decide +kernel)) rfl)
theorem ini_X5 : Cond.initialized RX5 ∈ jm_tb := (jm_tb_in (List.mem_of_getElem? (i := 61) (by decide +kernel)) rfl)
set_option maxHeartbeats 4000000 in
theorem n_X5_b {p : Program} {l : Launch} {e : Env} {R : Room} {s : State} {m : MethodId} {args : Array Value} {below : List Frame} {meth : Method} {c : Code} {ce sl : Nat} {Q : State → Prop} {D : va_G} {A : Nat → Prop} {H0 : Heap} {cI cQ cO : ClassId} (hx : p.tables.exec = Jvm.exec) (hb : c.code = cX5_init) (hml : c.maxLocals = 2) (hts : ∀ w ∈ jm_tb, w.before args s = true) (hown : s.vm.findClass RX5 = some m.cls) (hK : va_K D classes [(cI, .int), (cQ, .array .int), (cO, .object RX2)] s) (hAO : jn_E s) (hA : ∀ q, H0.size ≤ q → A q) {h0 qb qi : Nat} {fs : List Value} (hf : fs[5]? = some (.ref qb)) {R9 : va_W} {g9 : Nat → Option Nat} (hRc : ce + 4 * 24 ≤ R.cells) (hRs : sl + 34 * 24 ≤ R.slots) (hR : 2 ≤ R.frames ∧ 40 ≤ R.locals) (v0 : Nat → Nat × Nat × Nat × Nat)
    (K : ∀ (v : Nat → Nat × Nat × Nat × Nat) (H : Heap) (locs : List Loc) (ls : Array Slot), (∀ k, k < 2 → v k = v0 k) → va_P D classes ((h0, .inr (4, fs)) :: (qb, .inl (cO, 24, .inr (.inr (.inr (.inr (wf v 2 24)))))) :: (qi, .inl (cO, 2, .inr (.inr (.inr (.inr (g9)))))) :: (wrv cI v (2 + 24) ++ R9)) H → va_D A ((h0, .inr (4, fs)) :: (qb, .inl (cO, 24, .inr (.inr (.inr (.inr (wf v 2 24)))))) :: (qi, .inl (cO, 2, .inr (.inr (.inr (.inr (g9)))))) :: (wrv cI v (2 + 24) ++ R9)) → va_S A H0 H locs → lv_has ls 2 [(1, .int (nI 24)), (0, .ref h0)] → W p l e R s m args below meth c H locs (ce + 4 * 24) (sl + 34 * 24) Q (F0 m 118 ls ([]))) : ∀ (k j : Nat) (v : Nat → Nat × Nat × Nat × Nat) (H : Heap) (locs : List Loc) (ls : Array Slot), j ≤ 24 → 24 - j < k → (∀ k, k < 2 → v k = v0 k) → va_P D classes ((h0, .inr (4, fs)) :: (qb, .inl (cO, 24, .inr (.inr (.inr (.inr (wf v 2 j)))))) :: (qi, .inl (cO, 2, .inr (.inr (.inr (.inr (g9)))))) :: (wrv cI v (2 + j) ++ R9)) H → va_D A ((h0, .inr (4, fs)) :: (qb, .inl (cO, 24, .inr (.inr (.inr (.inr (wf v 2 j)))))) :: (qi, .inl (cO, 2, .inr (.inr (.inr (.inr (g9)))))) :: (wrv cI v (2 + j) ++ R9)) → va_S A H0 H locs → lv_has ls 2 [(1, .int (nI j)), (0, .ref h0)] → W p l e R s m args below meth c H locs (ce + 4 * j) (sl + 34 * j) Q (F0 m 93 ls ([])) := by
  intro k
  induction k with
  | zero => intros; omega
  | succ k ih =>
    intro j v H locs ls hj hk hv hP hD hS hl
    refine lv_iload_n hx hb dX5_init_93 rfl (lv_at hl 0 rfl) ?_
    refine lv_bipush (v := nI 24) hx hb dX5_init_94 (by decide) ?_
    refine lv_icmp_ge (tgt := 118) hx hb dX5_init_96 (by decide) (fun h => ?_) (fun h => ?_)
    · have e9 := jn_ge hj (by decide) h
      subst e9
      exact K v H locs ls hv hP hD hS hl
    · have hlt := jn_lt hj (by decide) h
      refine lv_aload_n hx hb dX5_init_99 rfl (lv_at hl 1 rfl) ?_
      refine va_get (D := D) (ci := 4) (v := .ref qb) (C := RX5) (T := TX5) (N := 10) (ref := RX5) hx hb hts fin_4 hown hK hP 0 rfl rfl 5 (by decide) (hts _ fl_RX5_40) (fun _ h9 => h9) hf dX5_init_100 ?_
      refine lv_iload_n hx hb dX5_init_103 rfl (lv_at hl 0 rfl) ?_
      have hKc : va_K D classes [(cI, .int)] s := hK.sub [0] rfl
      refine n_newG hx hb hml hts hown fin_1 tyX2 tyX2_ok cl_RX5_30 in_X2 ini_X2 rfl (fs := [.int (nI 0), .int (nI 0), .int (nI 0), .int (nI 0), .int (nI 0), .null, .null, .null]) (fun j hj => by rcases (show j = 0 ∨ j = 1 ∨ j = 2 ∨ j = 3 ∨ j = 4 ∨ j = 5 ∨ j = 6 ∨ j = 7 by omega) with rfl | rfl | rfl | rfl | rfl | rfl | rfl | rfl <;> rfl) YX2_init (fun h u => wv cI (h, u)) (fun h0 sz => n_X2_init l D cI h0 sz) rfl rfl im_X2_init li_RX5_32 rfl cd_X2_init ⟨by decide, by decide⟩ rfl hK hKc hAO hP hD hS hA (by show ce + 4 * j + 1 + 3 ≤ _; omega) (by show sl + 34 * j + 8 + 26 ≤ _; omega) ⟨hR.1, hR.2⟩ hl.1 (Nat.le_of_ble_eq_true rfl) dX5_init_104 dX5_init_107 dX5_init_108 (fun q u H locs hP hD hS => ?_)
      have hP := jn_Pp hP (jn_perm3 _ _)
      have hD := jn_Dp hD (jn_perm3 _ _)
      refine va_astq (r := (RX2, TX2, 8)) hx hb hK hP hD hS 1 2 3 1 rfl rfl rfl rfl (vp_in_nI hlt (by decide)) dX5_init_111 (fun H locs hP hD hS => ?_)
      rw [jn_cl (by omega)] at hP hD
      refine lv_iinc (v := nI (j + 1)) (lv' := [(1, .int (nI (j + 1))), (0, .ref h0)]) hx hb dX5_init_112 hl (k := 0) rfl (nI_1 j) (by decide) rfl (fun ls hl => ?_)
      refine lv_goto (tgt := 93) hx hb dX5_init_115 (by decide) ?_
      have eW : ((h0, .inr (4, fs)) :: (qb, .inl (cO, 24, .inr (.inr (.inr (.inr (wf (wvs v (2 + j) (q, u)) 2 (j + 1))))))) :: (qi, .inl (cO, 2, .inr (.inr (.inr (.inr (g9)))))) :: (wrv cI (wvs v (2 + j) (q, u)) (2 + (j + 1)) ++ R9)) = (h0, .inr (4, fs)) :: (qb, .inl (cO, 24, .inr (.inr (.inr (.inr (va_up (wf v 2 j) j (some (q, u).1))))))) :: (qi, .inl (cO, 2, .inr (.inr (.inr (.inr (g9)))))) :: (wv cI (q, u) ++ (wrv cI v (2 + j) ++ R9)) := by
        rw [wf_s, ← List.append_assoc, wrv_s]
        rfl
      have hP := (congrArg (fun z => va_P D classes z H) eW).mpr hP
      have hD := (congrArg (fun z => va_D A z) eW).mpr hD
      exact ih (j + 1) (wvs v (2 + j) (q, u)) H locs ls (by omega) (by omega) (fun k hk => (wvs_n v _ (by omega)).trans (hv k hk)) hP hD hS hl
set_option maxHeartbeats 4000000 in
theorem n_X5_i {p : Program} {l : Launch} {e : Env} {R : Room} {s : State} {m : MethodId} {args : Array Value} {below : List Frame} {meth : Method} {c : Code} {ce sl : Nat} {Q : State → Prop} {D : va_G} {A : Nat → Prop} {H0 : Heap} {cI cQ cO : ClassId} (hx : p.tables.exec = Jvm.exec) (hb : c.code = cX5_init) (hml : c.maxLocals = 2) (hts : ∀ w ∈ jm_tb, w.before args s = true) (hown : s.vm.findClass RX5 = some m.cls) (hK : va_K D classes [(cI, .int), (cQ, .array .int), (cO, .object RX2)] s) (hAO : jn_E s) (hA : ∀ q, H0.size ≤ q → A q) {h0 qb qi : Nat} {fs : List Value} (hf : fs[6]? = some (.ref qi)) {R9 : va_W} {g9 : Nat → Option Nat} (hRc : ce + 4 * 2 ≤ R.cells) (hRs : sl + 34 * 2 ≤ R.slots) (hR : 2 ≤ R.frames ∧ 40 ≤ R.locals) (v0 : Nat → Nat × Nat × Nat × Nat)
    (K : ∀ (v : Nat → Nat × Nat × Nat × Nat) (H : Heap) (locs : List Loc) (ls : Array Slot), (∀ k, k < 26 → v k = v0 k) → va_P D classes ((h0, .inr (4, fs)) :: (qb, .inl (cO, 24, .inr (.inr (.inr (.inr (g9)))))) :: (qi, .inl (cO, 2, .inr (.inr (.inr (.inr (wf v 26 2)))))) :: (wrv cI v (26 + 2) ++ R9)) H → va_D A ((h0, .inr (4, fs)) :: (qb, .inl (cO, 24, .inr (.inr (.inr (.inr (g9)))))) :: (qi, .inl (cO, 2, .inr (.inr (.inr (.inr (wf v 26 2)))))) :: (wrv cI v (26 + 2) ++ R9)) → va_S A H0 H locs → lv_has ls 2 [(1, .int (nI 2)), (0, .ref h0)] → W p l e R s m args below meth c H locs (ce + 4 * 2) (sl + 34 * 2) Q (F0 m 144 ls ([]))) : ∀ (k j : Nat) (v : Nat → Nat × Nat × Nat × Nat) (H : Heap) (locs : List Loc) (ls : Array Slot), j ≤ 2 → 2 - j < k → (∀ k, k < 26 → v k = v0 k) → va_P D classes ((h0, .inr (4, fs)) :: (qb, .inl (cO, 24, .inr (.inr (.inr (.inr (g9)))))) :: (qi, .inl (cO, 2, .inr (.inr (.inr (.inr (wf v 26 j)))))) :: (wrv cI v (26 + j) ++ R9)) H → va_D A ((h0, .inr (4, fs)) :: (qb, .inl (cO, 24, .inr (.inr (.inr (.inr (g9)))))) :: (qi, .inl (cO, 2, .inr (.inr (.inr (.inr (wf v 26 j)))))) :: (wrv cI v (26 + j) ++ R9)) → va_S A H0 H locs → lv_has ls 2 [(1, .int (nI j)), (0, .ref h0)] → W p l e R s m args below meth c H locs (ce + 4 * j) (sl + 34 * j) Q (F0 m 120 ls ([])) := by
  intro k
  induction k with
  | zero => intros; omega
  | succ k ih =>
    intro j v H locs ls hj hk hv hP hD hS hl
    refine lv_iload_n hx hb dX5_init_120 rfl (lv_at hl 0 rfl) ?_
    refine lv_iconst (v := nI 2) hx hb dX5_init_121 (by decide) ?_
    refine lv_icmp_ge (tgt := 144) hx hb dX5_init_122 (by decide) (fun h => ?_) (fun h => ?_)
    · have e9 := jn_ge hj (by decide) h
      subst e9
      exact K v H locs ls hv hP hD hS hl
    · have hlt := jn_lt hj (by decide) h
      refine lv_aload_n hx hb dX5_init_125 rfl (lv_at hl 1 rfl) ?_
      refine va_get (D := D) (ci := 4) (v := .ref qi) (C := RX5) (T := TX5) (N := 10) (ref := RX5) hx hb hts fin_4 hown hK hP 0 rfl rfl 6 (by decide) (hts _ fl_RX5_44) (fun _ h9 => h9) hf dX5_init_126 ?_
      refine lv_iload_n hx hb dX5_init_129 rfl (lv_at hl 0 rfl) ?_
      have hKc : va_K D classes [(cI, .int)] s := hK.sub [0] rfl
      refine n_newG hx hb hml hts hown fin_1 tyX2 tyX2_ok cl_RX5_30 in_X2 ini_X2 rfl (fs := [.int (nI 0), .int (nI 0), .int (nI 0), .int (nI 0), .int (nI 0), .null, .null, .null]) (fun j hj => by rcases (show j = 0 ∨ j = 1 ∨ j = 2 ∨ j = 3 ∨ j = 4 ∨ j = 5 ∨ j = 6 ∨ j = 7 by omega) with rfl | rfl | rfl | rfl | rfl | rfl | rfl | rfl <;> rfl) YX2_init (fun h u => wv cI (h, u)) (fun h0 sz => n_X2_init l D cI h0 sz) rfl rfl im_X2_init li_RX5_32 rfl cd_X2_init ⟨by decide, by decide⟩ rfl hK hKc hAO hP hD hS hA (by show ce + 4 * j + 1 + 3 ≤ _; omega) (by show sl + 34 * j + 8 + 26 ≤ _; omega) ⟨hR.1, hR.2⟩ hl.1 (Nat.le_of_ble_eq_true rfl) dX5_init_130 dX5_init_133 dX5_init_134 (fun q u H locs hP hD hS => ?_)
      have hP := jn_Pp hP (jn_perm3 _ _)
      have hD := jn_Dp hD (jn_perm3 _ _)
      refine va_astq (r := (RX2, TX2, 8)) hx hb hK hP hD hS 2 2 3 1 rfl rfl rfl rfl (vp_in_nI hlt (by decide)) dX5_init_137 (fun H locs hP hD hS => ?_)
      rw [jn_cl (by omega)] at hP hD
      refine lv_iinc (v := nI (j + 1)) (lv' := [(1, .int (nI (j + 1))), (0, .ref h0)]) hx hb dX5_init_138 hl (k := 0) rfl (nI_1 j) (by decide) rfl (fun ls hl => ?_)
      refine lv_goto (tgt := 120) hx hb dX5_init_141 (by decide) ?_
      have eW : ((h0, .inr (4, fs)) :: (qb, .inl (cO, 24, .inr (.inr (.inr (.inr (g9)))))) :: (qi, .inl (cO, 2, .inr (.inr (.inr (.inr (wf (wvs v (26 + j) (q, u)) 26 (j + 1))))))) :: (wrv cI (wvs v (26 + j) (q, u)) (26 + (j + 1)) ++ R9)) = (h0, .inr (4, fs)) :: (qb, .inl (cO, 24, .inr (.inr (.inr (.inr (g9)))))) :: (qi, .inl (cO, 2, .inr (.inr (.inr (.inr (va_up (wf v 26 j) j (some (q, u).1))))))) :: (wv cI (q, u) ++ (wrv cI v (26 + j) ++ R9)) := by
        rw [wf_s, ← List.append_assoc, wrv_s]
        rfl
      have hP := (congrArg (fun z => va_P D classes z H) eW).mpr hP
      have hD := (congrArg (fun z => va_D A z) eW).mpr hD
      exact ih (j + 1) (wvs v (26 + j) (q, u)) H locs ls (by omega) (by omega) (fun k hk => (wvs_n v _ (by omega)).trans (hv k hk)) hP hD hS hl
abbrev aX : Type := (Nat × Nat × Nat × Nat × (Nat → Nat)) × (Nat × Nat) × (Nat × Nat) × (Nat × Nat) × (Nat → Nat × Nat × Nat × Nat)
def wx (cI cQ cO : ClassId) (h : Nat) (u : aX) : va_W := (h, .inr (4, [.ref u.1.1, .ref u.2.1.1, .ref u.2.2.1.1, .ref (u.2.2.2.2 0).1, .ref (u.2.2.2.2 1).1, .ref u.2.2.2.1.1, .ref u.2.2.2.1.2, .int (nI 0), .int (nI 0), .int (nI 0)])) :: (u.2.2.2.1.1, .inl (cO, 24, .inr (.inr (.inr (.inr (wf u.2.2.2.2 2 24)))))) :: (u.2.2.2.1.2, .inl (cO, 2, .inr (.inr (.inr (.inr (wf u.2.2.2.2 26 2)))))) :: (wrv cI u.2.2.2.2 (26 + 2) ++ (wa cI u.2.2.1 ++ (wt cI u.2.1 ++ (wr cI cQ u.1.1 u.1.2.1 u.1.2.2.1 u.1.2.2.2.1 u.1.2.2.2.2 ++ []))))
set_option maxHeartbeats 4000000 in
set_option maxRecDepth 100000 in
theorem n_X5_init (l : Launch) (D : va_G) (cI : ClassId) (cQ cO : ClassId) (h0 sz : Nat) : Met l yX5_init (jm_wds YX5_init) { frames := 2, cells := 130, slots := 1461, locals := 43 } (va_Pc [.ref h0] (fun U => U.heap.size = sz ∧ va_P D classes [(h0, .inr (4, [.null, .null, .null, .null, .null, .null, .null, .int (nI 0), .int (nI 0), .int (nI 0)]))] U.heap ∧ va_K D classes [(cI, .int), (cQ, .array .int), (cO, .object RX2)] U ∧ va_D (fun _ => True) [(h0, .inr (4, [.null, .null, .null, .null, .null, .null, .null, .int (nI 0), .int (nI 0), .int (nI 0)]))] ∧ jn_E U)) (va_Qv (fun _ : aX => True) (fun u t => va_P D classes (wx cI cQ cO h0 u) t.heap ∧ va_D (va_A [(h0, .inr (4, [.null, .null, .null, .null, .null, .null, .null, .int (nI 0), .int (nI 0), .int (nI 0)]))] sz) (wx cI cQ cO h0 u)) (va_A [(h0, .inr (4, [.null, .null, .null, .null, .null, .null, .null, .int (nI 0), .int (nI 0), .int (nI 0)]))] sz)) 130 1461 (va_A [(h0, .inr (4, [.null, .null, .null, .null, .null, .null, .null, .int (nI 0), .int (nI 0), .int (nI 0)]))] sz) := by
  refine Met.ofW (cc := cX5_init) (maxL := 2) (ret := none) (by decide) rfl ?_
  intro p e s m args below meth c s₁ B hml hv
  obtain ⟨rfl, hsz, hP, hK, hD0, hAO⟩ := hv
  have hx := B.exec
  have hb := B.bytes
  have hr := B.returns
  have hts : ∀ w ∈ jm_tb, w.before _ s = true := fun w hw => atoms_spec (ws := jm_wds YX5_init) B.pre w (List.mem_cons_of_mem _ hw)
  have hown : s.vm.findClass RX5 = some m.cls := findClass_of_methodNamed B.named
  have hlocks := B.notSynchronized
  have hin : meth.name = "<init>" := (name_of_methodNamed B.named B.method).1
  subst hsz
  have hD := hD0.self (sz := s.heap.size)
  generalize hAe : va_A [(h0, .inr (4, [.null, .null, .null, .null, .null, .null, .null, .int (nI 0), .int (nI 0), .int (nI 0)]))] s.heap.size = A at hD ⊢
  have hA : ∀ q : Nat, s.heap.size ≤ q → A q := fun q h => by rw [← hAe]; exact Or.inr h
  have hS : va_S A s.heap s.heap [] := va_S.rf
  have hl := lv_entry ([.ref h0]) (n := 2) (Nat.le_of_ble_eq_true rfl)
  rw [lg_entry_eq]
  generalize (lg_sl ([.ref h0]) ++ List.replicate (2 - (lg_sl ([.ref h0])).length) Slot.unset).toArray = ls at hl ⊢
  have hl : lv_has ls 2 [(0, .ref h0)] := hl
  have hKc : va_K D classes [(cI, .int)] s := hK.sub [0] rfl
  have hKq : va_K D classes [(cI, .int), (cQ, .array .int)] s := hK.sub [0, 1] rfl
  refine lv_aload_n hx hb dX5_init_0 rfl (lv_at hl 0 rfl) ?_
  refine W.objInit hx hb hown (hts _ oi_RX5) (hts _ oi_im) (hts _ oi_cd) rfl (by rw [hml]; exact hl.1) rfl dX5_init_1 (Nat.le_of_ble_eq_true rfl) (Nat.le_of_ble_eq_true rfl) ?_
  refine W.eq (g2 := F0 m 4 ls []) rfl ?_
  have hP : va_P D classes ((h0, .inr (4, [.null, .null, .null, .null, .null, .null, .null, .int (nI 0), .int (nI 0), .int (nI 0)])) :: ([] : va_W)) s.heap := hP
  have hD : va_D A ((h0, .inr (4, [.null, .null, .null, .null, .null, .null, .null, .int (nI 0), .int (nI 0), .int (nI 0)])) :: ([] : va_W)) := hD
  refine lv_aload_n hx hb dX5_init_4 rfl (lv_at hl 0 rfl) ?_
  refine n_newG hx hb hml hts hown fin_2 tyX3 tyX3_ok cl_RX5_7 in_X3 ini_X3 rfl (fs := [.null, .null, .null]) (fun j hj => by rcases (show j = 0 ∨ j = 1 ∨ j = 2 by omega) with rfl | rfl | rfl <;> rfl) YX3_init (fun (h : Nat) (u : Nat × Nat × Nat × (Nat → Nat)) => wr cI cQ h u.1 u.2.1 u.2.2.1 u.2.2.2) (fun h0 sz => n_X3_init l D cI cQ h0 sz) rfl rfl im_X3_init li_RX5_9 rfl cd_X3_init ⟨by decide, by decide⟩ rfl hK hKq hAO hP hD hS hA (Nat.le_of_ble_eq_true rfl) (Nat.le_of_ble_eq_true rfl) ⟨Nat.le_of_ble_eq_true rfl, Nat.le_of_ble_eq_true rfl⟩ hl.1 (Nat.le_of_ble_eq_true rfl) dX5_init_5 dX5_init_8 dX5_init_9 (fun q0 u0 H locs hP hD hS => ?_)
  have hP : va_P D classes ((h0, .inr (4, [.null, .null, .null, .null, .null, .null, .null, .int (nI 0), .int (nI 0), .int (nI 0)])) :: (wr cI cQ q0 u0.1 u0.2.1 u0.2.2.1 u0.2.2.2 ++ ([] : va_W))) H := jn_Pp hP List.perm_middle.symm
  have hD : va_D A ((h0, .inr (4, [.null, .null, .null, .null, .null, .null, .null, .int (nI 0), .int (nI 0), .int (nI 0)])) :: (wr cI cQ q0 u0.1 u0.2.1 u0.2.2.1 u0.2.2.2 ++ ([] : va_W))) := jn_Dp hD List.perm_middle.symm
  refine va_putF (D := D) (ci := 4) (v := .ref q0) (ty := .object RX3) (C := RX5) (T := TX5) (N := 10) (ref := RX5) hx hb hts fin_4 tyX5 tyX5_ok nmX5 hown hK hP hD hS 0 rfl rfl 0 (by decide) (hts _ fl_RX5_10) (fun _ h9 => h9) rfl hin rfl (by decide +kernel) rfl rfl (Nat.le_of_ble_eq_true rfl) dX5_init_12 (fun H locs hP hD hS => ?_)
  have hP : va_P D classes ((h0, .inr (4, [.ref q0, .null, .null, .null, .null, .null, .null, .int (nI 0), .int (nI 0), .int (nI 0)])) :: (wr cI cQ q0 u0.1 u0.2.1 u0.2.2.1 u0.2.2.2 ++ ([] : va_W))) H := hP
  have hD : va_D A ((h0, .inr (4, [.ref q0, .null, .null, .null, .null, .null, .null, .int (nI 0), .int (nI 0), .int (nI 0)])) :: (wr cI cQ q0 u0.1 u0.2.1 u0.2.2.1 u0.2.2.2 ++ ([] : va_W))) := hD
  refine lv_aload_n hx hb dX5_init_15 rfl (lv_at hl 0 rfl) ?_
  refine n_newG hx hb hml hts hown fin_3 tyX4 tyX4_ok cl_RX5_16 in_X4 ini_X4 rfl (fs := [.null, .int (nI 0), .int (nI 0), .int (nI 0)]) (fun j hj => by rcases (show j = 0 ∨ j = 1 ∨ j = 2 ∨ j = 3 by omega) with rfl | rfl | rfl | rfl <;> rfl) YX4_init (fun h u => wt cI (h, u)) (fun h0 sz => n_X4_init l D cI h0 sz) rfl rfl im_X4_init li_RX5_18 rfl cd_X4_init ⟨by decide, by decide⟩ rfl hK hKc hAO hP hD hS hA (Nat.le_of_ble_eq_true rfl) (Nat.le_of_ble_eq_true rfl) ⟨Nat.le_of_ble_eq_true rfl, Nat.le_of_ble_eq_true rfl⟩ hl.1 (Nat.le_of_ble_eq_true rfl) dX5_init_16 dX5_init_19 dX5_init_20 (fun q1 u1 H locs hP hD hS => ?_)
  have hP : va_P D classes ((h0, .inr (4, [.ref q0, .null, .null, .null, .null, .null, .null, .int (nI 0), .int (nI 0), .int (nI 0)])) :: (wt cI (q1, u1) ++ (wr cI cQ q0 u0.1 u0.2.1 u0.2.2.1 u0.2.2.2 ++ ([] : va_W)))) H := jn_Pp hP List.perm_middle.symm
  have hD : va_D A ((h0, .inr (4, [.ref q0, .null, .null, .null, .null, .null, .null, .int (nI 0), .int (nI 0), .int (nI 0)])) :: (wt cI (q1, u1) ++ (wr cI cQ q0 u0.1 u0.2.1 u0.2.2.1 u0.2.2.2 ++ ([] : va_W)))) := jn_Dp hD List.perm_middle.symm
  refine va_putF (D := D) (ci := 4) (v := .ref q1) (ty := .object RX4) (C := RX5) (T := TX5) (N := 10) (ref := RX5) hx hb hts fin_4 tyX5 tyX5_ok nmX5 hown hK hP hD hS 0 rfl rfl 1 (by decide) (hts _ fl_RX5_19) (fun _ h9 => h9) rfl hin rfl (by decide +kernel) rfl rfl (Nat.le_of_ble_eq_true rfl) dX5_init_23 (fun H locs hP hD hS => ?_)
  have hP : va_P D classes ((h0, .inr (4, [.ref q0, .ref q1, .null, .null, .null, .null, .null, .int (nI 0), .int (nI 0), .int (nI 0)])) :: (wt cI (q1, u1) ++ (wr cI cQ q0 u0.1 u0.2.1 u0.2.2.1 u0.2.2.2 ++ ([] : va_W)))) H := hP
  have hD : va_D A ((h0, .inr (4, [.ref q0, .ref q1, .null, .null, .null, .null, .null, .int (nI 0), .int (nI 0), .int (nI 0)])) :: (wt cI (q1, u1) ++ (wr cI cQ q0 u0.1 u0.2.1 u0.2.2.1 u0.2.2.2 ++ ([] : va_W)))) := hD
  refine lv_aload_n hx hb dX5_init_26 rfl (lv_at hl 0 rfl) ?_
  refine n_newG hx hb hml hts hown fin_0 tyX0 tyX0_ok cl_RX5_23 in_X0 ini_X0 rfl (fs := [.null, .int (nI 0), .int (nI 0), .int (nI 0), .int (nI 0), .int (nI 0)]) (fun j hj => by rcases (show j = 0 ∨ j = 1 ∨ j = 2 ∨ j = 3 ∨ j = 4 ∨ j = 5 by omega) with rfl | rfl | rfl | rfl | rfl | rfl <;> rfl) YX0_init (fun h u => wa cI (h, u)) (fun h0 sz => n_X0_init l D cI h0 sz) rfl rfl im_X0_init li_RX5_25 rfl cd_X0_init ⟨by decide, by decide⟩ rfl hK hKc hAO hP hD hS hA (Nat.le_of_ble_eq_true rfl) (Nat.le_of_ble_eq_true rfl) ⟨Nat.le_of_ble_eq_true rfl, Nat.le_of_ble_eq_true rfl⟩ hl.1 (Nat.le_of_ble_eq_true rfl) dX5_init_27 dX5_init_30 dX5_init_31 (fun q2 u2 H locs hP hD hS => ?_)
  have hP : va_P D classes ((h0, .inr (4, [.ref q0, .ref q1, .null, .null, .null, .null, .null, .int (nI 0), .int (nI 0), .int (nI 0)])) :: (wa cI (q2, u2) ++ (wt cI (q1, u1) ++ (wr cI cQ q0 u0.1 u0.2.1 u0.2.2.1 u0.2.2.2 ++ ([] : va_W))))) H := jn_Pp hP List.perm_middle.symm
  have hD : va_D A ((h0, .inr (4, [.ref q0, .ref q1, .null, .null, .null, .null, .null, .int (nI 0), .int (nI 0), .int (nI 0)])) :: (wa cI (q2, u2) ++ (wt cI (q1, u1) ++ (wr cI cQ q0 u0.1 u0.2.1 u0.2.2.1 u0.2.2.2 ++ ([] : va_W))))) := jn_Dp hD List.perm_middle.symm
  refine va_putF (D := D) (ci := 4) (v := .ref q2) (ty := .object RX0) (C := RX5) (T := TX5) (N := 10) (ref := RX5) hx hb hts fin_4 tyX5 tyX5_ok nmX5 hown hK hP hD hS 0 rfl rfl 2 (by decide) (hts _ fl_RX5_26) (fun _ h9 => h9) rfl hin rfl (by decide +kernel) rfl rfl (Nat.le_of_ble_eq_true rfl) dX5_init_34 (fun H locs hP hD hS => ?_)
  have hP : va_P D classes ((h0, .inr (4, [.ref q0, .ref q1, .ref q2, .null, .null, .null, .null, .int (nI 0), .int (nI 0), .int (nI 0)])) :: (wa cI (q2, u2) ++ (wt cI (q1, u1) ++ (wr cI cQ q0 u0.1 u0.2.1 u0.2.2.1 u0.2.2.2 ++ ([] : va_W))))) H := hP
  have hD : va_D A ((h0, .inr (4, [.ref q0, .ref q1, .ref q2, .null, .null, .null, .null, .int (nI 0), .int (nI 0), .int (nI 0)])) :: (wa cI (q2, u2) ++ (wt cI (q1, u1) ++ (wr cI cQ q0 u0.1 u0.2.1 u0.2.2.1 u0.2.2.2 ++ ([] : va_W))))) := hD
  refine lv_aload_n hx hb dX5_init_37 rfl (lv_at hl 0 rfl) ?_
  refine n_newG hx hb hml hts hown fin_1 tyX2 tyX2_ok cl_RX5_30 in_X2 ini_X2 rfl (fs := [.int (nI 0), .int (nI 0), .int (nI 0), .int (nI 0), .int (nI 0), .null, .null, .null]) (fun j hj => by rcases (show j = 0 ∨ j = 1 ∨ j = 2 ∨ j = 3 ∨ j = 4 ∨ j = 5 ∨ j = 6 ∨ j = 7 by omega) with rfl | rfl | rfl | rfl | rfl | rfl | rfl | rfl <;> rfl) YX2_init (fun h u => wv cI (h, u)) (fun h0 sz => n_X2_init l D cI h0 sz) rfl rfl im_X2_init li_RX5_32 rfl cd_X2_init ⟨by decide, by decide⟩ rfl hK hKc hAO hP hD hS hA (Nat.le_of_ble_eq_true rfl) (Nat.le_of_ble_eq_true rfl) ⟨Nat.le_of_ble_eq_true rfl, Nat.le_of_ble_eq_true rfl⟩ hl.1 (Nat.le_of_ble_eq_true rfl) dX5_init_38 dX5_init_41 dX5_init_42 (fun q3 u3 H locs hP hD hS => ?_)
  have hP : va_P D classes ((h0, .inr (4, [.ref q0, .ref q1, .ref q2, .null, .null, .null, .null, .int (nI 0), .int (nI 0), .int (nI 0)])) :: (wv cI (q3, u3) ++ (wa cI (q2, u2) ++ (wt cI (q1, u1) ++ (wr cI cQ q0 u0.1 u0.2.1 u0.2.2.1 u0.2.2.2 ++ ([] : va_W)))))) H := jn_Pp hP List.perm_middle.symm
  have hD : va_D A ((h0, .inr (4, [.ref q0, .ref q1, .ref q2, .null, .null, .null, .null, .int (nI 0), .int (nI 0), .int (nI 0)])) :: (wv cI (q3, u3) ++ (wa cI (q2, u2) ++ (wt cI (q1, u1) ++ (wr cI cQ q0 u0.1 u0.2.1 u0.2.2.1 u0.2.2.2 ++ ([] : va_W)))))) := jn_Dp hD List.perm_middle.symm
  refine va_putF (D := D) (ci := 4) (v := .ref q3) (ty := .object RX2) (C := RX5) (T := TX5) (N := 10) (ref := RX5) hx hb hts fin_4 tyX5 tyX5_ok nmX5 hown hK hP hD hS 0 rfl rfl 3 (by decide) (hts _ fl_RX5_33) (fun _ h9 => h9) rfl hin rfl (by decide +kernel) rfl rfl (Nat.le_of_ble_eq_true rfl) dX5_init_45 (fun H locs hP hD hS => ?_)
  have hP : va_P D classes ((h0, .inr (4, [.ref q0, .ref q1, .ref q2, .ref q3, .null, .null, .null, .int (nI 0), .int (nI 0), .int (nI 0)])) :: (wv cI (q3, u3) ++ (wa cI (q2, u2) ++ (wt cI (q1, u1) ++ (wr cI cQ q0 u0.1 u0.2.1 u0.2.2.1 u0.2.2.2 ++ ([] : va_W)))))) H := hP
  have hD : va_D A ((h0, .inr (4, [.ref q0, .ref q1, .ref q2, .ref q3, .null, .null, .null, .int (nI 0), .int (nI 0), .int (nI 0)])) :: (wv cI (q3, u3) ++ (wa cI (q2, u2) ++ (wt cI (q1, u1) ++ (wr cI cQ q0 u0.1 u0.2.1 u0.2.2.1 u0.2.2.2 ++ ([] : va_W)))))) := hD
  refine lv_aload_n hx hb dX5_init_48 rfl (lv_at hl 0 rfl) ?_
  refine n_newG hx hb hml hts hown fin_1 tyX2 tyX2_ok cl_RX5_30 in_X2 ini_X2 rfl (fs := [.int (nI 0), .int (nI 0), .int (nI 0), .int (nI 0), .int (nI 0), .null, .null, .null]) (fun j hj => by rcases (show j = 0 ∨ j = 1 ∨ j = 2 ∨ j = 3 ∨ j = 4 ∨ j = 5 ∨ j = 6 ∨ j = 7 by omega) with rfl | rfl | rfl | rfl | rfl | rfl | rfl | rfl <;> rfl) YX2_init (fun h u => wv cI (h, u)) (fun h0 sz => n_X2_init l D cI h0 sz) rfl rfl im_X2_init li_RX5_32 rfl cd_X2_init ⟨by decide, by decide⟩ rfl hK hKc hAO hP hD hS hA (Nat.le_of_ble_eq_true rfl) (Nat.le_of_ble_eq_true rfl) ⟨Nat.le_of_ble_eq_true rfl, Nat.le_of_ble_eq_true rfl⟩ hl.1 (Nat.le_of_ble_eq_true rfl) dX5_init_49 dX5_init_52 dX5_init_53 (fun q4 u4 H locs hP hD hS => ?_)
  have hP : va_P D classes ((h0, .inr (4, [.ref q0, .ref q1, .ref q2, .ref q3, .null, .null, .null, .int (nI 0), .int (nI 0), .int (nI 0)])) :: (wv cI (q4, u4) ++ (wv cI (q3, u3) ++ (wa cI (q2, u2) ++ (wt cI (q1, u1) ++ (wr cI cQ q0 u0.1 u0.2.1 u0.2.2.1 u0.2.2.2 ++ ([] : va_W))))))) H := jn_Pp hP List.perm_middle.symm
  have hD : va_D A ((h0, .inr (4, [.ref q0, .ref q1, .ref q2, .ref q3, .null, .null, .null, .int (nI 0), .int (nI 0), .int (nI 0)])) :: (wv cI (q4, u4) ++ (wv cI (q3, u3) ++ (wa cI (q2, u2) ++ (wt cI (q1, u1) ++ (wr cI cQ q0 u0.1 u0.2.1 u0.2.2.1 u0.2.2.2 ++ ([] : va_W))))))) := jn_Dp hD List.perm_middle.symm
  refine va_putF (D := D) (ci := 4) (v := .ref q4) (ty := .object RX2) (C := RX5) (T := TX5) (N := 10) (ref := RX5) hx hb hts fin_4 tyX5 tyX5_ok nmX5 hown hK hP hD hS 0 rfl rfl 4 (by decide) (hts _ fl_RX5_37) (fun _ h9 => h9) rfl hin rfl (by decide +kernel) rfl rfl (Nat.le_of_ble_eq_true rfl) dX5_init_56 (fun H locs hP hD hS => ?_)
  have hP : va_P D classes ((h0, .inr (4, [.ref q0, .ref q1, .ref q2, .ref q3, .ref q4, .null, .null, .int (nI 0), .int (nI 0), .int (nI 0)])) :: (wv cI (q4, u4) ++ (wv cI (q3, u3) ++ (wa cI (q2, u2) ++ (wt cI (q1, u1) ++ (wr cI cQ q0 u0.1 u0.2.1 u0.2.2.1 u0.2.2.2 ++ ([] : va_W))))))) H := hP
  have hD : va_D A ((h0, .inr (4, [.ref q0, .ref q1, .ref q2, .ref q3, .ref q4, .null, .null, .int (nI 0), .int (nI 0), .int (nI 0)])) :: (wv cI (q4, u4) ++ (wv cI (q3, u3) ++ (wa cI (q2, u2) ++ (wt cI (q1, u1) ++ (wr cI cQ q0 u0.1 u0.2.1 u0.2.2.1 u0.2.2.2 ++ ([] : va_W))))))) := hD
  refine lv_aload_n hx hb dX5_init_59 rfl (lv_at hl 0 rfl) ?_
  refine lv_bipush (v := nI 24) hx hb dX5_init_60 (by decide) ?_
  refine va_newq (N' := 24) hx hb hown (hts _ cl_RX5_30) hAO.2 hK hP hD hS hA (by decide) (by decide) (by decide) (Nat.le_of_ble_eq_true rfl) (Nat.le_of_ble_eq_true rfl) dX5_init_62 (fun qb cA9 H hK9 hP hD hS => ?_)
  have eA9 : cA9 = cO := jn_clO hK9 2 3 rfl rfl
  rw [eA9] at hP hD
  have hP : va_P D classes ((h0, .inr (4, [.ref q0, .ref q1, .ref q2, .ref q3, .ref q4, .null, .null, .int (nI 0), .int (nI 0), .int (nI 0)])) :: ((qb, .inl (cO, 24, .inr (.inr (.inr (.inr (fun _ => none)))))) :: (wv cI (q4, u4) ++ (wv cI (q3, u3) ++ (wa cI (q2, u2) ++ (wt cI (q1, u1) ++ (wr cI cQ q0 u0.1 u0.2.1 u0.2.2.1 u0.2.2.2 ++ ([] : va_W)))))))) H := jn_Pp hP (List.Perm.cons _ (List.perm_append_singleton _ _).symm)
  have hD : va_D A ((h0, .inr (4, [.ref q0, .ref q1, .ref q2, .ref q3, .ref q4, .null, .null, .int (nI 0), .int (nI 0), .int (nI 0)])) :: ((qb, .inl (cO, 24, .inr (.inr (.inr (.inr (fun _ => none)))))) :: (wv cI (q4, u4) ++ (wv cI (q3, u3) ++ (wa cI (q2, u2) ++ (wt cI (q1, u1) ++ (wr cI cQ q0 u0.1 u0.2.1 u0.2.2.1 u0.2.2.2 ++ ([] : va_W)))))))) := jn_Dp hD (List.Perm.cons _ (List.perm_append_singleton _ _).symm)
  refine va_putF (D := D) (ci := 4) (v := .ref qb) (ty := .array (.object RX2)) (C := RX5) (T := TX5) (N := 10) (ref := RX5) hx hb hts fin_4 tyX5 tyX5_ok nmX5 hown hK hP hD hS 0 rfl rfl 5 (by decide) (hts _ fl_RX5_40) (fun _ h9 => h9) rfl hin rfl (by decide +kernel) rfl rfl (Nat.le_of_ble_eq_true rfl) dX5_init_65 (fun H locs hP hD hS => ?_)
  have hP : va_P D classes ((h0, .inr (4, [.ref q0, .ref q1, .ref q2, .ref q3, .ref q4, .ref qb, .null, .int (nI 0), .int (nI 0), .int (nI 0)])) :: ((qb, .inl (cO, 24, .inr (.inr (.inr (.inr (fun _ => none)))))) :: (wv cI (q4, u4) ++ (wv cI (q3, u3) ++ (wa cI (q2, u2) ++ (wt cI (q1, u1) ++ (wr cI cQ q0 u0.1 u0.2.1 u0.2.2.1 u0.2.2.2 ++ ([] : va_W)))))))) H := hP
  have hD : va_D A ((h0, .inr (4, [.ref q0, .ref q1, .ref q2, .ref q3, .ref q4, .ref qb, .null, .int (nI 0), .int (nI 0), .int (nI 0)])) :: ((qb, .inl (cO, 24, .inr (.inr (.inr (.inr (fun _ => none)))))) :: (wv cI (q4, u4) ++ (wv cI (q3, u3) ++ (wa cI (q2, u2) ++ (wt cI (q1, u1) ++ (wr cI cQ q0 u0.1 u0.2.1 u0.2.2.1 u0.2.2.2 ++ ([] : va_W)))))))) := hD
  refine lv_aload_n hx hb dX5_init_68 rfl (lv_at hl 0 rfl) ?_
  refine lv_iconst (v := nI 2) hx hb dX5_init_69 (by decide) ?_
  refine va_newq (N' := 2) hx hb hown (hts _ cl_RX5_30) hAO.2 hK hP hD hS hA (by decide) (by decide) (by decide) (Nat.le_of_ble_eq_true rfl) (Nat.le_of_ble_eq_true rfl) dX5_init_70 (fun qi cA9 H hK9 hP hD hS => ?_)
  have eA9 : cA9 = cO := jn_clO hK9 2 3 rfl rfl
  rw [eA9] at hP hD
  have hP : va_P D classes ((h0, .inr (4, [.ref q0, .ref q1, .ref q2, .ref q3, .ref q4, .ref qb, .null, .int (nI 0), .int (nI 0), .int (nI 0)])) :: ((qb, .inl (cO, 24, .inr (.inr (.inr (.inr (fun _ => none)))))) :: ((qi, .inl (cO, 2, .inr (.inr (.inr (.inr (fun _ => none)))))) :: (wv cI (q4, u4) ++ (wv cI (q3, u3) ++ (wa cI (q2, u2) ++ (wt cI (q1, u1) ++ (wr cI cQ q0 u0.1 u0.2.1 u0.2.2.1 u0.2.2.2 ++ ([] : va_W))))))))) H := jn_Pp hP (List.Perm.cons _ (List.Perm.cons _ (List.perm_append_singleton _ _).symm))
  have hD : va_D A ((h0, .inr (4, [.ref q0, .ref q1, .ref q2, .ref q3, .ref q4, .ref qb, .null, .int (nI 0), .int (nI 0), .int (nI 0)])) :: ((qb, .inl (cO, 24, .inr (.inr (.inr (.inr (fun _ => none)))))) :: ((qi, .inl (cO, 2, .inr (.inr (.inr (.inr (fun _ => none)))))) :: (wv cI (q4, u4) ++ (wv cI (q3, u3) ++ (wa cI (q2, u2) ++ (wt cI (q1, u1) ++ (wr cI cQ q0 u0.1 u0.2.1 u0.2.2.1 u0.2.2.2 ++ ([] : va_W))))))))) := jn_Dp hD (List.Perm.cons _ (List.Perm.cons _ (List.perm_append_singleton _ _).symm))
  refine va_putF (D := D) (ci := 4) (v := .ref qi) (ty := .array (.object RX2)) (C := RX5) (T := TX5) (N := 10) (ref := RX5) hx hb hts fin_4 tyX5 tyX5_ok nmX5 hown hK hP hD hS 0 rfl rfl 6 (by decide) (hts _ fl_RX5_44) (fun _ h9 => h9) rfl hin rfl (by decide +kernel) rfl rfl (Nat.le_of_ble_eq_true rfl) dX5_init_73 (fun H locs hP hD hS => ?_)
  have hP : va_P D classes ((h0, .inr (4, [.ref q0, .ref q1, .ref q2, .ref q3, .ref q4, .ref qb, .ref qi, .int (nI 0), .int (nI 0), .int (nI 0)])) :: ((qb, .inl (cO, 24, .inr (.inr (.inr (.inr (fun _ => none)))))) :: ((qi, .inl (cO, 2, .inr (.inr (.inr (.inr (fun _ => none)))))) :: (wv cI (q4, u4) ++ (wv cI (q3, u3) ++ (wa cI (q2, u2) ++ (wt cI (q1, u1) ++ (wr cI cQ q0 u0.1 u0.2.1 u0.2.2.1 u0.2.2.2 ++ ([] : va_W))))))))) H := hP
  have hD : va_D A ((h0, .inr (4, [.ref q0, .ref q1, .ref q2, .ref q3, .ref q4, .ref qb, .ref qi, .int (nI 0), .int (nI 0), .int (nI 0)])) :: ((qb, .inl (cO, 24, .inr (.inr (.inr (.inr (fun _ => none)))))) :: ((qi, .inl (cO, 2, .inr (.inr (.inr (.inr (fun _ => none)))))) :: (wv cI (q4, u4) ++ (wv cI (q3, u3) ++ (wa cI (q2, u2) ++ (wt cI (q1, u1) ++ (wr cI cQ q0 u0.1 u0.2.1 u0.2.2.1 u0.2.2.2 ++ ([] : va_W))))))))) := hD
  refine lv_aload_n hx hb dX5_init_76 rfl (lv_at hl 0 rfl) ?_
  refine lv_iconst (v := nI 0) hx hb dX5_init_77 (by decide) ?_
  refine va_put (D := D) (ci := 4) (v := .int (nI 0)) (ty := .int) (C := RX5) (T := TX5) (N := 10) (ref := RX5) hx hb hts fin_4 tyX5 tyX5_ok nmX5 hown hK hP hD hS 0 rfl rfl 7 (by decide) (hts _ fl_RX5_47) (fun _ h9 => h9) rfl (by decide +kernel) rfl rfl (Nat.le_of_ble_eq_true rfl) dX5_init_78 (fun H locs hP hD hS => ?_)
  have hP : va_P D classes ((h0, .inr (4, [.ref q0, .ref q1, .ref q2, .ref q3, .ref q4, .ref qb, .ref qi, .int (nI 0), .int (nI 0), .int (nI 0)])) :: ((qb, .inl (cO, 24, .inr (.inr (.inr (.inr (fun _ => none)))))) :: ((qi, .inl (cO, 2, .inr (.inr (.inr (.inr (fun _ => none)))))) :: (wv cI (q4, u4) ++ (wv cI (q3, u3) ++ (wa cI (q2, u2) ++ (wt cI (q1, u1) ++ (wr cI cQ q0 u0.1 u0.2.1 u0.2.2.1 u0.2.2.2 ++ ([] : va_W))))))))) H := hP
  have hD : va_D A ((h0, .inr (4, [.ref q0, .ref q1, .ref q2, .ref q3, .ref q4, .ref qb, .ref qi, .int (nI 0), .int (nI 0), .int (nI 0)])) :: ((qb, .inl (cO, 24, .inr (.inr (.inr (.inr (fun _ => none)))))) :: ((qi, .inl (cO, 2, .inr (.inr (.inr (.inr (fun _ => none)))))) :: (wv cI (q4, u4) ++ (wv cI (q3, u3) ++ (wa cI (q2, u2) ++ (wt cI (q1, u1) ++ (wr cI cQ q0 u0.1 u0.2.1 u0.2.2.1 u0.2.2.2 ++ ([] : va_W))))))))) := hD
  refine lv_aload_n hx hb dX5_init_81 rfl (lv_at hl 0 rfl) ?_
  refine lv_iconst (v := nI 0) hx hb dX5_init_82 (by decide) ?_
  refine va_put (D := D) (ci := 4) (v := .int (nI 0)) (ty := .int) (C := RX5) (T := TX5) (N := 10) (ref := RX5) hx hb hts fin_4 tyX5 tyX5_ok nmX5 hown hK hP hD hS 0 rfl rfl 8 (by decide) (hts _ fl_RX5_51) (fun _ h9 => h9) rfl (by decide +kernel) rfl rfl (Nat.le_of_ble_eq_true rfl) dX5_init_83 (fun H locs hP hD hS => ?_)
  have hP : va_P D classes ((h0, .inr (4, [.ref q0, .ref q1, .ref q2, .ref q3, .ref q4, .ref qb, .ref qi, .int (nI 0), .int (nI 0), .int (nI 0)])) :: ((qb, .inl (cO, 24, .inr (.inr (.inr (.inr (fun _ => none)))))) :: ((qi, .inl (cO, 2, .inr (.inr (.inr (.inr (fun _ => none)))))) :: (wv cI (q4, u4) ++ (wv cI (q3, u3) ++ (wa cI (q2, u2) ++ (wt cI (q1, u1) ++ (wr cI cQ q0 u0.1 u0.2.1 u0.2.2.1 u0.2.2.2 ++ ([] : va_W))))))))) H := hP
  have hD : va_D A ((h0, .inr (4, [.ref q0, .ref q1, .ref q2, .ref q3, .ref q4, .ref qb, .ref qi, .int (nI 0), .int (nI 0), .int (nI 0)])) :: ((qb, .inl (cO, 24, .inr (.inr (.inr (.inr (fun _ => none)))))) :: ((qi, .inl (cO, 2, .inr (.inr (.inr (.inr (fun _ => none)))))) :: (wv cI (q4, u4) ++ (wv cI (q3, u3) ++ (wa cI (q2, u2) ++ (wt cI (q1, u1) ++ (wr cI cQ q0 u0.1 u0.2.1 u0.2.2.1 u0.2.2.2 ++ ([] : va_W))))))))) := hD
  refine lv_aload_n hx hb dX5_init_86 rfl (lv_at hl 0 rfl) ?_
  refine lv_iconst (v := nI 0) hx hb dX5_init_87 (by decide) ?_
  refine va_put (D := D) (ci := 4) (v := .int (nI 0)) (ty := .int) (C := RX5) (T := TX5) (N := 10) (ref := RX5) hx hb hts fin_4 tyX5 tyX5_ok nmX5 hown hK hP hD hS 0 rfl rfl 9 (by decide) (hts _ fl_RX5_54) (fun _ h9 => h9) rfl (by decide +kernel) rfl rfl (Nat.le_of_ble_eq_true rfl) dX5_init_88 (fun H locs hP hD hS => ?_)
  have hP : va_P D classes ((h0, .inr (4, [.ref q0, .ref q1, .ref q2, .ref q3, .ref q4, .ref qb, .ref qi, .int (nI 0), .int (nI 0), .int (nI 0)])) :: ((qb, .inl (cO, 24, .inr (.inr (.inr (.inr (fun _ => none)))))) :: ((qi, .inl (cO, 2, .inr (.inr (.inr (.inr (fun _ => none)))))) :: (wv cI (q4, u4) ++ (wv cI (q3, u3) ++ (wa cI (q2, u2) ++ (wt cI (q1, u1) ++ (wr cI cQ q0 u0.1 u0.2.1 u0.2.2.1 u0.2.2.2 ++ ([] : va_W))))))))) H := hP
  have hD : va_D A ((h0, .inr (4, [.ref q0, .ref q1, .ref q2, .ref q3, .ref q4, .ref qb, .ref qi, .int (nI 0), .int (nI 0), .int (nI 0)])) :: ((qb, .inl (cO, 24, .inr (.inr (.inr (.inr (fun _ => none)))))) :: ((qi, .inl (cO, 2, .inr (.inr (.inr (.inr (fun _ => none)))))) :: (wv cI (q4, u4) ++ (wv cI (q3, u3) ++ (wa cI (q2, u2) ++ (wt cI (q1, u1) ++ (wr cI cQ q0 u0.1 u0.2.1 u0.2.2.1 u0.2.2.2 ++ ([] : va_W))))))))) := hD
  refine lv_iconst (v := nI 0) hx hb dX5_init_91 (by decide) ?_
  refine lv_istore_n (lv' := [(1, .int (nI 0)), (0, .ref h0)]) hx hb dX5_init_92 rfl hl (by decide) rfl (fun ls hl => ?_)
  have hP : va_P D classes ((h0, .inr (4, [.ref q0, .ref q1, .ref q2, .ref q3, .ref q4, .ref qb, .ref qi, .int (nI 0), .int (nI 0), .int (nI 0)])) :: (qb, .inl (cO, 24, .inr (.inr (.inr (.inr (fun _ => none)))))) :: (qi, .inl (cO, 2, .inr (.inr (.inr (.inr (fun _ => none)))))) :: (wrv cI (fun k => if k = 0 then (q3, u3) else (q4, u4)) (2 + 0) ++ (wa cI (q2, u2) ++ (wt cI (q1, u1) ++ (wr cI cQ q0 u0.1 u0.2.1 u0.2.2.1 u0.2.2.2 ++ []))))) H := hP
  have hD : va_D A ((h0, .inr (4, [.ref q0, .ref q1, .ref q2, .ref q3, .ref q4, .ref qb, .ref qi, .int (nI 0), .int (nI 0), .int (nI 0)])) :: (qb, .inl (cO, 24, .inr (.inr (.inr (.inr (fun _ => none)))))) :: (qi, .inl (cO, 2, .inr (.inr (.inr (.inr (fun _ => none)))))) :: (wrv cI (fun k => if k = 0 then (q3, u3) else (q4, u4)) (2 + 0) ++ (wa cI (q2, u2) ++ (wt cI (q1, u1) ++ (wr cI cQ q0 u0.1 u0.2.1 u0.2.2.1 u0.2.2.2 ++ []))))) := hD
  refine W.widen (k := 26 + 4 * 0) (n := 577 + 34 * 0) (Nat.le_of_ble_eq_true rfl) (Nat.le_of_ble_eq_true rfl) ?_
  refine n_X5_b (ce := 26) (sl := 577) (fs := [.ref q0, .ref q1, .ref q2, .ref q3, .ref q4, .ref qb, .ref qi, .int (nI 0), .int (nI 0), .int (nI 0)]) (g9 := fun _ => none) (R9 := (wa cI (q2, u2) ++ (wt cI (q1, u1) ++ (wr cI cQ q0 u0.1 u0.2.1 u0.2.2.1 u0.2.2.2 ++ [])))) hx hb hml hts hown hK hAO hA rfl (Nat.le_of_ble_eq_true rfl) (Nat.le_of_ble_eq_true rfl) ⟨Nat.le_of_ble_eq_true rfl, Nat.le_of_ble_eq_true rfl⟩ (fun k => if k = 0 then (q3, u3) else (q4, u4)) (fun v H locs ls hv hP hD hS hl => ?_) 25 0 (fun k => if k = 0 then (q3, u3) else (q4, u4)) H locs ls (by decide) (by decide) (fun _ _ => rfl) (by rw [wf_0]; exact hP) (by rw [wf_0]; exact hD) hS hl
  refine lv_iconst (v := nI 0) hx hb dX5_init_118 (by decide) ?_
  refine lv_istore_n (lv' := [(1, .int (nI 0)), (0, .ref h0)]) hx hb dX5_init_119 rfl (lv_sub hl [1] rfl) (by decide) rfl (fun ls hl => ?_)
  have hP : va_P D classes ((h0, .inr (4, [.ref q0, .ref q1, .ref q2, .ref q3, .ref q4, .ref qb, .ref qi, .int (nI 0), .int (nI 0), .int (nI 0)])) :: (qb, .inl (cO, 24, .inr (.inr (.inr (.inr (wf v 2 24)))))) :: (qi, .inl (cO, 2, .inr (.inr (.inr (.inr (fun _ => none)))))) :: (wrv cI v (26 + 0) ++ (wa cI (q2, u2) ++ (wt cI (q1, u1) ++ (wr cI cQ q0 u0.1 u0.2.1 u0.2.2.1 u0.2.2.2 ++ []))))) H := hP
  have hD : va_D A ((h0, .inr (4, [.ref q0, .ref q1, .ref q2, .ref q3, .ref q4, .ref qb, .ref qi, .int (nI 0), .int (nI 0), .int (nI 0)])) :: (qb, .inl (cO, 24, .inr (.inr (.inr (.inr (wf v 2 24)))))) :: (qi, .inl (cO, 2, .inr (.inr (.inr (.inr (fun _ => none)))))) :: (wrv cI v (26 + 0) ++ (wa cI (q2, u2) ++ (wt cI (q1, u1) ++ (wr cI cQ q0 u0.1 u0.2.1 u0.2.2.1 u0.2.2.2 ++ []))))) := hD
  refine W.widen (k := 122 + 4 * 0) (n := 1393 + 34 * 0) (Nat.le_of_ble_eq_true rfl) (Nat.le_of_ble_eq_true rfl) ?_
  refine n_X5_i (ce := 122) (sl := 1393) (fs := [.ref q0, .ref q1, .ref q2, .ref q3, .ref q4, .ref qb, .ref qi, .int (nI 0), .int (nI 0), .int (nI 0)]) (g9 := wf v 2 24) (R9 := (wa cI (q2, u2) ++ (wt cI (q1, u1) ++ (wr cI cQ q0 u0.1 u0.2.1 u0.2.2.1 u0.2.2.2 ++ [])))) hx hb hml hts hown hK hAO hA rfl (Nat.le_of_ble_eq_true rfl) (Nat.le_of_ble_eq_true rfl) ⟨Nat.le_of_ble_eq_true rfl, Nat.le_of_ble_eq_true rfl⟩ v (fun v' H locs ls hv' hP hD hS hl => ?_) 3 0 v H locs ls (by decide) (by decide) (fun _ _ => rfl) (by rw [wf_0]; exact hP) (by rw [wf_0]; exact hD) hS hl
  have e0 : v' 0 = (q3, u3) := (hv' 0 (by decide)).trans (hv 0 (by decide))
  have e1 : v' 1 = (q4, u4) := (hv' 1 (by decide)).trans (hv 1 (by decide))
  have eg : wf v' 2 24 = wf v 2 24 := wf_c (fun k hk => hv' k (by omega))
  have eW : wx cI cQ cO h0 ((q0, u0), (q1, u1), (q2, u2), (qb, qi), v') = ((h0, .inr (4, [.ref q0, .ref q1, .ref q2, .ref q3, .ref q4, .ref qb, .ref qi, .int (nI 0), .int (nI 0), .int (nI 0)])) :: (qb, .inl (cO, 24, .inr (.inr (.inr (.inr (wf v 2 24)))))) :: (qi, .inl (cO, 2, .inr (.inr (.inr (.inr (wf v' 26 2)))))) :: (wrv cI v' (26 + 2) ++ (wa cI (q2, u2) ++ (wt cI (q1, u1) ++ (wr cI cQ q0 u0.1 u0.2.1 u0.2.2.1 u0.2.2.2 ++ []))))) := by
    show ((h0, .inr (4, [.ref q0, .ref q1, .ref q2, .ref (v' 0).1, .ref (v' 1).1, .ref qb, .ref qi, .int (nI 0), .int (nI 0), .int (nI 0)])) :: (qb, .inl (cO, 24, .inr (.inr (.inr (.inr (wf v' 2 24)))))) :: (qi, .inl (cO, 2, .inr (.inr (.inr (.inr (wf v' 26 2)))))) :: (wrv cI v' (26 + 2) ++ (wa cI (q2, u2) ++ (wt cI (q1, u1) ++ (wr cI cQ q0 u0.1 u0.2.1 u0.2.2.1 u0.2.2.2 ++ [])))) : va_W) = _
    rw [e0, e1, eg]
  rw [← eW] at hP hD
  refine W.widen (k := 130) (n := 1461) (Nat.le_of_ble_eq_true rfl) (Nat.le_of_ble_eq_true rfl) ?_
  exact W.vret hx hb hr (fun t ht hW => ⟨⟨((q0, u0), (q1, u1), (q2, u2), (qb, qi), v'), rfl, trivial, by rw [ht]; exact hP, hD⟩, hS.F ht⟩) hS.2.2 dX5_init_144
