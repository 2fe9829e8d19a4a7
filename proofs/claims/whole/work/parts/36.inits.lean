theorem ctN (w : Int32) : ∃ n : Nat, 16 ≤ n ∧ n ≤ 2063 ∧ 16 + (w &&& 2047) = nI n := by
  obtain ⟨j, hj, e⟩ := pk_andE w (m := 2047) 11 (by decide)
  exact ⟨16 + j, by omega, by omega, by rw [e, show (16 : Int32) = nI 16 from rfl, nI_add]⟩
set_option maxHeartbeats 4000000 in
set_option maxRecDepth 100000 in
theorem ctX0_init (l : Launch) (dC : Nat → ClassId) (dI : Nat → Nat → Nat) (ha : Nat) (n : Nat) (iw : Int32) (sz : Nat) (hN : 16 + (iw &&& 2047) = nI n) (hnb : n ≤ 2063) : Met l yX0_init (kX0_init :: gT) ({ frames := 1, cells := 1, slots := 2063, locals := 12 }) (va_Pc [.ref ha, .int iw] (pM (dC, dI) [(ha, .inr (0, [.null, .int 0, .int 0]))] [] sz)) (va_Qv (fun v : Nat × ClassId => True) (fun v t => va_P (dC, dI) vwCl [(ha, .inr (0, [.ref v.1, .int 0, .int 0])), (v.1, .inl (v.2, n, .inl (fun _ => 0)))] t.heap ∧ va_K (dC, dI) vwCl [(v.2, .int)] t ∧ va_D (va_A [(ha, .inr (0, [.null, .int 0, .int 0]))] sz) [(ha, .inr (0, [.ref v.1, .int 0, .int 0])), (v.1, .inl (v.2, n, .inl (fun _ => 0)))]) (va_A [(ha, .inr (0, [.null, .int 0, .int 0]))] sz)) 1 2063 (va_A [(ha, .inr (0, [.null, .int 0, .int 0]))] sz) := by
  refine Met.ofW (cc := cX0_init) (maxL := 2) (ret := none) (by decide) rfl ?_
  intro p e s m args below meth c s₁ B hml hv
  obtain ⟨rfl, hsz, hP, hK, hD0, hE⟩ := hv
  have hx := B.exec
  have hb := B.bytes
  have hr := B.returns
  have ht : ∀ w ∈ gT, w.before ([.ref ha, .int iw] : List Value).toArray s = true := fun w h => atoms_spec (ws := kX0_init :: gT) B.pre w (List.mem_cons_of_mem _ h)
  have hown : s.vm.findClass RX0 = some m.cls := findClass_of_methodNamed B.named
  have hlocks := B.notSynchronized
  have hin : meth.name = "<init>" := (name_of_methodNamed B.named B.method).1
  subst hsz
  have hD := hD0.self (sz := s.heap.size)
  generalize hAe : va_A [(ha, .inr (0, [.null, .int 0, .int 0]))] s.heap.size = A at hD ⊢
  have hA : ∀ q : Nat, s.heap.size ≤ q → A q := fun q h => by rw [← hAe]; exact Or.inr h
  have hS : va_S A s.heap s.heap [] := va_S.rf
  have hl := lv_entry ([.ref ha, .int iw]) (n := 2) (Nat.le_of_ble_eq_true rfl)
  rw [lg_entry_eq]
  generalize (lg_sl ([.ref ha, .int iw]) ++ List.replicate (2 - (lg_sl ([.ref ha, .int iw])).length) Slot.unset).toArray = ls at hl ⊢
  have hl : lv_has ls 2 [(0, .ref ha), (1, .int iw)] := hl
  refine lv_aload_n hx hb dX0_init_0 rfl (lv_at hl 0 rfl) ?_
  refine W.objInit hx hb hown (ht _ g_23) (ht _ g_16) (ht _ g_17) rfl (by rw [hml]; exact hl.1) rfl dX0_init_1 (Nat.le_of_ble_eq_true rfl) (Nat.le_of_ble_eq_true rfl) ?_
  refine W.eq (g2 := F0 m 4 ls []) rfl ?_
  refine lv_aload_n hx hb dX0_init_4 rfl (lv_at hl 0 rfl) ?_
  refine lv_bipush (v := 16) hx hb dX0_init_5 (by decide) ?_
  refine lv_iload_n hx hb dX0_init_7 rfl (lv_at hl 1 rfl) ?_
  refine lv_sipush (v := 2047) hx hb dX0_init_8 (by decide) ?_
  refine lv_iand hx hb dX0_init_11 ?_
  refine lv_iadd hx hb dX0_init_12 ?_
  rw [hN]
  refine va_newa (atype := .int) (ty := .int) (a0 := (n, .inl (fun _ => 0))) hx hb (ht _ g_37) rfl hK hP hD hS hA (fun cA => rfl) (nI_pos (by omega)) (nI_clamp (by omega)) (show n * 4 ≤ 536870912 by omega) (Nat.le_of_ble_eq_true rfl) (show _ ≤ 2063 by omega) dX0_init_13 (fun q13 cI H hK hP hD hS => ?_)
  have hK : va_K (dC, dI) vwCl [(cI, .int)] s := hK
  refine W.widen (k := 1) (n := 2063) (by omega) (by omega) ?_
  have hP : va_P (dC, dI) vwCl [(ha, .inr (0, [.null, .int 0, .int 0])), (q13, .inl (cI, n, .inl (fun _ => 0)))] H := hP
  have hD : va_D A [(ha, .inr (0, [.null, .int 0, .int 0])), (q13, .inl (cI, n, .inl (fun _ => 0)))] := hD
  refine va_putF (D := (dC, dI)) (ci := 0) (v := .ref q13) (ty := .array .int) (C := RX0) (T := TX0) (N := 3) hx hb ht iX0 tyX0 tkX0 nmX0 hown hK hP hD hS 0 rfl rfl 0 (by decide) (ht _ g_24) (fun _ h9 => h9) rfl hin rfl (by decide +kernel) rfl rfl (Nat.le_of_ble_eq_true rfl) dX0_init_15 (fun H locs hP hD hS => ?_)
  have hP : va_P (dC, dI) vwCl [(ha, .inr (0, [.ref q13, .int 0, .int 0])), (q13, .inl (cI, n, .inl (fun _ => 0)))] H := hP
  have hD : va_D A [(ha, .inr (0, [.ref q13, .int 0, .int 0])), (q13, .inl (cI, n, .inl (fun _ => 0)))] := hD
  refine W.widen (k := 1) (n := 2063) (by omega) (by omega) ?_
  have hP9 := hP.sub (ws' := [(ha, .inr (0, [.ref q13, .int 0, .int 0])), (q13, .inl (cI, n, .inl (fun _ => 0)))]) [0, 1] rfl
  have hD9 := hD.sub (ws' := [(ha, .inr (0, [.ref q13, .int 0, .int 0])), (q13, .inl (cI, n, .inl (fun _ => 0)))]) [0, 1] (by decide) rfl
  exact W.vret hx hb hr (fun t ht hW => ⟨⟨(q13, cI), rfl, trivial, by rw [ht]; exact hP9, va_K.moved hW.alike hK, hD9⟩, hS.F ht⟩) hS.2.2 dX0_init_18
set_option maxHeartbeats 4000000 in
set_option maxRecDepth 100000 in
theorem ctX1_init (l : Launch) (dC : Nat → ClassId) (dI : Nat → Nat → Nat) (cx : Nat) (n : Nat) (iw : Int32) (sz : Nat) (hN : 16 + (iw &&& 2047) = nI n) (hnb : n ≤ 2063) : Met l yX1_init (kX1_init :: gT) ({ frames := 2, cells := 5, slots := 4140, locals := 40 }) (va_Pc [.ref cx, .int iw] (pM (dC, dI) [(cx, .inr (1, [.null, .null, .null, .int 0, .int 0]))] [] sz)) (va_Qv (fun v : (Nat × Nat × Nat × Nat × Nat) × ClassId => True) (fun v t => va_P (dC, dI) vwCl [(cx, .inr (1, [.ref v.1.1, .ref v.1.2.1, .ref v.1.2.2.2.1, .int 0, .int 0])), (v.1.1, .inl (v.2, 8, .inl (fun _ => 0))), (v.1.2.1, .inr (0, [.ref v.1.2.2.1, .int 0, .int 0])), (v.1.2.2.1, .inl (v.2, n, .inl (fun _ => 0))), (v.1.2.2.2.1, .inr (0, [.ref v.1.2.2.2.2, .int 0, .int 0])), (v.1.2.2.2.2, .inl (v.2, n, .inl (fun _ => 0)))] t.heap ∧ va_K (dC, dI) vwCl [(v.2, .int)] t ∧ va_D (va_A [(cx, .inr (1, [.null, .null, .null, .int 0, .int 0]))] sz) [(cx, .inr (1, [.ref v.1.1, .ref v.1.2.1, .ref v.1.2.2.2.1, .int 0, .int 0])), (v.1.1, .inl (v.2, 8, .inl (fun _ => 0))), (v.1.2.1, .inr (0, [.ref v.1.2.2.1, .int 0, .int 0])), (v.1.2.2.1, .inl (v.2, n, .inl (fun _ => 0))), (v.1.2.2.2.1, .inr (0, [.ref v.1.2.2.2.2, .int 0, .int 0])), (v.1.2.2.2.2, .inl (v.2, n, .inl (fun _ => 0)))]) (va_A [(cx, .inr (1, [.null, .null, .null, .int 0, .int 0]))] sz)) 5 4140 (va_A [(cx, .inr (1, [.null, .null, .null, .int 0, .int 0]))] sz) := by
  refine Met.ofW (cc := cX1_init) (maxL := 2) (ret := none) (by decide) rfl ?_
  intro p e s m args below meth c s₁ B hml hv
  obtain ⟨rfl, hsz, hP, hK, hD0, hE⟩ := hv
  have hx := B.exec
  have hb := B.bytes
  have hr := B.returns
  have ht : ∀ w ∈ gT, w.before ([.ref cx, .int iw] : List Value).toArray s = true := fun w h => atoms_spec (ws := kX1_init :: gT) B.pre w (List.mem_cons_of_mem _ h)
  have hown : s.vm.findClass RX1 = some m.cls := findClass_of_methodNamed B.named
  have hlocks := B.notSynchronized
  have hin : meth.name = "<init>" := (name_of_methodNamed B.named B.method).1
  subst hsz
  have hD := hD0.self (sz := s.heap.size)
  generalize hAe : va_A [(cx, .inr (1, [.null, .null, .null, .int 0, .int 0]))] s.heap.size = A at hD ⊢
  have hA : ∀ q : Nat, s.heap.size ≤ q → A q := fun q h => by rw [← hAe]; exact Or.inr h
  have hS : va_S A s.heap s.heap [] := va_S.rf
  have hl := lv_entry ([.ref cx, .int iw]) (n := 2) (Nat.le_of_ble_eq_true rfl)
  rw [lg_entry_eq]
  generalize (lg_sl ([.ref cx, .int iw]) ++ List.replicate (2 - (lg_sl ([.ref cx, .int iw])).length) Slot.unset).toArray = ls at hl ⊢
  have hl : lv_has ls 2 [(0, .ref cx), (1, .int iw)] := hl
  refine lv_aload_n hx hb dX1_init_0 rfl (lv_at hl 0 rfl) ?_
  refine W.objInit hx hb hown (ht _ g_15) (ht _ g_16) (ht _ g_17) rfl (by rw [hml]; exact hl.1) rfl dX1_init_1 (Nat.le_of_ble_eq_true rfl) (Nat.le_of_ble_eq_true rfl) ?_
  refine W.eq (g2 := F0 m 4 ls []) rfl ?_
  refine lv_aload_n hx hb dX1_init_4 rfl (lv_at hl 0 rfl) ?_
  refine lv_bipush (v := 8) hx hb dX1_init_5 (by decide) ?_
  refine va_newa (atype := .int) (ty := .int) (a0 := (8, .inl (fun _ => 0))) hx hb (ht _ g_37) rfl hK hP hD hS hA (fun cA => rfl) (by decide) (by decide) (show 8 * 4 ≤ 536870912 by omega) (Nat.le_of_ble_eq_true rfl) (show _ ≤ 4140 by omega) dX1_init_7 (fun q7 cI H hK hP hD hS => ?_)
  have hK : va_K (dC, dI) vwCl [(cI, .int)] s := hK
  refine W.widen (k := 1) (n := 8) (by omega) (by omega) ?_
  have hP : va_P (dC, dI) vwCl [(cx, .inr (1, [.null, .null, .null, .int 0, .int 0])), (q7, .inl (cI, 8, .inl (fun _ => 0)))] H := hP
  have hD : va_D A [(cx, .inr (1, [.null, .null, .null, .int 0, .int 0])), (q7, .inl (cI, 8, .inl (fun _ => 0)))] := hD
  refine va_putF (D := (dC, dI)) (ci := 1) (v := .ref q7) (ty := .array .int) (C := RX1) (T := TX1) (N := 5) hx hb ht iX1 tyX1 tkX1 nmX1 hown hK hP hD hS 0 rfl rfl 0 (by decide) (ht _ g_38) (fun _ h9 => h9) rfl hin rfl (by decide +kernel) rfl rfl (Nat.le_of_ble_eq_true rfl) dX1_init_9 (fun H locs hP hD hS => ?_)
  have hP : va_P (dC, dI) vwCl [(cx, .inr (1, [.ref q7, .null, .null, .int 0, .int 0])), (q7, .inl (cI, 8, .inl (fun _ => 0)))] H := hP
  have hD : va_D A [(cx, .inr (1, [.ref q7, .null, .null, .int 0, .int 0])), (q7, .inl (cI, 8, .inl (fun _ => 0)))] := hD
  refine lv_aload_n hx hb dX1_init_12 rfl (lv_at hl 0 rfl) ?_
  refine va_new (ci := 0) (fs := [.null, .int 0, .int 0]) (C := RX0) (T := TX0) (N := 3) hx hb ht iX0 tyX0 tkX0 hown (ht _ g_18) (ht _ g_19) (ht _ g_2) hK hP hD hS hA rfl (fun j hj => by rcases (show j = 0 ∨ j = 1 ∨ j = 2 by omega) with rfl | rfl | rfl <;> rfl) (Nat.le_of_ble_eq_true rfl) (Nat.le_of_ble_eq_true rfl) dX1_init_13 (fun q13 H hP hD hS => ?_)
  refine W.widen (k := 2) (n := 11) (by omega) (by omega) ?_
  have hP : va_P (dC, dI) vwCl [(cx, .inr (1, [.ref q7, .null, .null, .int 0, .int 0])), (q7, .inl (cI, 8, .inl (fun _ => 0))), (q13, .inr (0, [.null, .int 0, .int 0]))] H := hP
  have hD : va_D A [(cx, .inr (1, [.ref q7, .null, .null, .int 0, .int 0])), (q7, .inl (cI, 8, .inl (fun _ => 0))), (q13, .inr (0, [.null, .int 0, .int 0]))] := hD
  refine lv_dup hx hb dX1_init_16 rfl ?_
  refine lv_iload_n hx hb dX1_init_17 rfl (lv_at hl 1 rfl) ?_
  have hPc := hP.sub (ws' := [(q13, .inr (0, [.null, .int 0, .int 0]))]) [2] rfl
  have hKc := hK.sub (tys' := []) [] rfl
  have hDc := hD.sub (ws' := [(q13, .inr (0, [.null, .int 0, .int 0]))]) [2] (by decide) rfl
  have hFc := va_free (wc := [(q13, .inr (0, [.null, .int 0, .int 0]))]) hD hS hA [2] rfl
  refine va_callv (va_runI (As := [.int iw]) (rest := [.ref q13, .ref cx]) ⟨hx, hb, hml, hown, ht⟩ (ctX0_init l dC dI q13 n iw _ hN hnb) (cwI 1 ht gcX1_15 rfl rfl rfl (ht _ g_2) (ht _ g_20) (ht _ g_21) rfl (by decide +kernel) ⟨Nat.le_of_ble_eq_true rfl, Nat.le_of_ble_eq_true rfl⟩) ⟨pM.blind, pM.call hPc hKc hDc hE⟩ rfl rfl hl.1 rfl (lv_room (Nat.le_of_ble_eq_true rfl)) dX1_init_18 ⟨Nat.le_of_ble_eq_true rfl, Nat.le_of_ble_eq_true rfl⟩) hS (fun q _ h => hFc q h) hFc (fun v_1 t H1 locs ht9 hvm hw hB hz1 hk1 hS => ?_)
  obtain ⟨wa18, c9⟩ := v_1
  obtain ⟨hP1, hK1, hD1⟩ := hB
  rw [ht9] at hP1
  have hK1 := va_K.moved hvm.symm hK1
  have hK := hK.app hK1
  obtain rfl : cI = c9 := cAeq hK (i := 0) (j := 1) rfl rfl
  have hK := hK.sub (tys' := [(cI, .int)]) [0] rfl
  obtain ⟨hP, hD⟩ := va_join (wr := [(cx, .inr (1, [.ref q7, .null, .null, .int 0, .int 0])), (q7, .inl (cI, 8, .inl (fun _ => 0)))]) (w1 := [(q13, .inr (0, [.ref wa18, .int 0, .int 0])), (wa18, .inl (cI, n, .inl (fun _ => 0)))]) hP hD [2] [0, 1] rfl rfl (by decide) (by decide) hk1 hFc hP1 hD1
  generalize H1 = H at hP hS ⊢
  have hP : va_P (dC, dI) vwCl [(cx, .inr (1, [.ref q7, .null, .null, .int 0, .int 0])), (q7, .inl (cI, 8, .inl (fun _ => 0))), (q13, .inr (0, [.ref wa18, .int 0, .int 0])), (wa18, .inl (cI, n, .inl (fun _ => 0)))] H := hP
  have hD : va_D A [(cx, .inr (1, [.ref q7, .null, .null, .int 0, .int 0])), (q7, .inl (cI, 8, .inl (fun _ => 0))), (q13, .inr (0, [.ref wa18, .int 0, .int 0])), (wa18, .inl (cI, n, .inl (fun _ => 0)))] := hD
  refine W.widen (k := 3) (n := 2074) (by omega) (by omega) ?_
  refine va_put (D := (dC, dI)) (ci := 1) (v := .ref q13) (ty := .object "CopyHeap$Half") (C := RX1) (T := TX1) (N := 5) hx hb ht iX1 tyX1 tkX1 nmX1 hown hK hP hD hS 0 rfl rfl 1 (by decide) (ht _ g_39) (fun _ h9 => h9) rfl (by decide +kernel) rfl rfl (Nat.le_of_ble_eq_true rfl) dX1_init_21 (fun H locs hP hD hS => ?_)
  have hP : va_P (dC, dI) vwCl [(cx, .inr (1, [.ref q7, .ref q13, .null, .int 0, .int 0])), (q7, .inl (cI, 8, .inl (fun _ => 0))), (q13, .inr (0, [.ref wa18, .int 0, .int 0])), (wa18, .inl (cI, n, .inl (fun _ => 0)))] H := hP
  have hD : va_D A [(cx, .inr (1, [.ref q7, .ref q13, .null, .int 0, .int 0])), (q7, .inl (cI, 8, .inl (fun _ => 0))), (q13, .inr (0, [.ref wa18, .int 0, .int 0])), (wa18, .inl (cI, n, .inl (fun _ => 0)))] := hD
  refine lv_aload_n hx hb dX1_init_24 rfl (lv_at hl 0 rfl) ?_
  refine va_new (ci := 0) (fs := [.null, .int 0, .int 0]) (C := RX0) (T := TX0) (N := 3) hx hb ht iX0 tyX0 tkX0 hown (ht _ g_18) (ht _ g_19) (ht _ g_2) hK hP hD hS hA rfl (fun j hj => by rcases (show j = 0 ∨ j = 1 ∨ j = 2 by omega) with rfl | rfl | rfl <;> rfl) (Nat.le_of_ble_eq_true rfl) (Nat.le_of_ble_eq_true rfl) dX1_init_25 (fun q25 H hP hD hS => ?_)
  refine W.widen (k := 4) (n := 2077) (by omega) (by omega) ?_
  have hP : va_P (dC, dI) vwCl [(cx, .inr (1, [.ref q7, .ref q13, .null, .int 0, .int 0])), (q7, .inl (cI, 8, .inl (fun _ => 0))), (q13, .inr (0, [.ref wa18, .int 0, .int 0])), (wa18, .inl (cI, n, .inl (fun _ => 0))), (q25, .inr (0, [.null, .int 0, .int 0]))] H := hP
  have hD : va_D A [(cx, .inr (1, [.ref q7, .ref q13, .null, .int 0, .int 0])), (q7, .inl (cI, 8, .inl (fun _ => 0))), (q13, .inr (0, [.ref wa18, .int 0, .int 0])), (wa18, .inl (cI, n, .inl (fun _ => 0))), (q25, .inr (0, [.null, .int 0, .int 0]))] := hD
  refine lv_dup hx hb dX1_init_28 rfl ?_
  refine lv_iload_n hx hb dX1_init_29 rfl (lv_at hl 1 rfl) ?_
  have hPc := hP.sub (ws' := [(q25, .inr (0, [.null, .int 0, .int 0]))]) [4] rfl
  have hKc := hK.sub (tys' := []) [] rfl
  have hDc := hD.sub (ws' := [(q25, .inr (0, [.null, .int 0, .int 0]))]) [4] (by decide) rfl
  have hFc := va_free (wc := [(q25, .inr (0, [.null, .int 0, .int 0]))]) hD hS hA [4] rfl
  refine va_callv (va_runI (As := [.int iw]) (rest := [.ref q25, .ref cx]) ⟨hx, hb, hml, hown, ht⟩ (ctX0_init l dC dI q25 n iw _ hN hnb) (cwI 1 ht gcX1_15 rfl rfl rfl (ht _ g_2) (ht _ g_20) (ht _ g_21) rfl (by decide +kernel) ⟨Nat.le_of_ble_eq_true rfl, Nat.le_of_ble_eq_true rfl⟩) ⟨pM.blind, pM.call hPc hKc hDc hE⟩ rfl rfl hl.1 rfl (lv_room (Nat.le_of_ble_eq_true rfl)) dX1_init_30 ⟨Nat.le_of_ble_eq_true rfl, Nat.le_of_ble_eq_true rfl⟩) hS (fun q _ h => hFc q h) hFc (fun v_2 t H1 locs ht9 hvm hw hB hz1 hk1 hS => ?_)
  obtain ⟨wa30, c9⟩ := v_2
  obtain ⟨hP1, hK1, hD1⟩ := hB
  rw [ht9] at hP1
  have hK1 := va_K.moved hvm.symm hK1
  have hK := hK.app hK1
  obtain rfl : cI = c9 := cAeq hK (i := 0) (j := 1) rfl rfl
  have hK := hK.sub (tys' := [(cI, .int)]) [0] rfl
  obtain ⟨hP, hD⟩ := va_join (wr := [(cx, .inr (1, [.ref q7, .ref q13, .null, .int 0, .int 0])), (q7, .inl (cI, 8, .inl (fun _ => 0))), (q13, .inr (0, [.ref wa18, .int 0, .int 0])), (wa18, .inl (cI, n, .inl (fun _ => 0)))]) (w1 := [(q25, .inr (0, [.ref wa30, .int 0, .int 0])), (wa30, .inl (cI, n, .inl (fun _ => 0)))]) hP hD [4] [0, 1, 2, 3] rfl rfl (by decide) (by decide) hk1 hFc hP1 hD1
  generalize H1 = H at hP hS ⊢
  have hP : va_P (dC, dI) vwCl [(cx, .inr (1, [.ref q7, .ref q13, .null, .int 0, .int 0])), (q7, .inl (cI, 8, .inl (fun _ => 0))), (q13, .inr (0, [.ref wa18, .int 0, .int 0])), (wa18, .inl (cI, n, .inl (fun _ => 0))), (q25, .inr (0, [.ref wa30, .int 0, .int 0])), (wa30, .inl (cI, n, .inl (fun _ => 0)))] H := hP
  have hD : va_D A [(cx, .inr (1, [.ref q7, .ref q13, .null, .int 0, .int 0])), (q7, .inl (cI, 8, .inl (fun _ => 0))), (q13, .inr (0, [.ref wa18, .int 0, .int 0])), (wa18, .inl (cI, n, .inl (fun _ => 0))), (q25, .inr (0, [.ref wa30, .int 0, .int 0])), (wa30, .inl (cI, n, .inl (fun _ => 0)))] := hD
  refine W.widen (k := 5) (n := 4140) (by omega) (by omega) ?_
  refine va_put (D := (dC, dI)) (ci := 1) (v := .ref q25) (ty := .object "CopyHeap$Half") (C := RX1) (T := TX1) (N := 5) hx hb ht iX1 tyX1 tkX1 nmX1 hown hK hP hD hS 0 rfl rfl 2 (by decide) (ht _ g_40) (fun _ h9 => h9) rfl (by decide +kernel) rfl rfl (Nat.le_of_ble_eq_true rfl) dX1_init_33 (fun H locs hP hD hS => ?_)
  have hP : va_P (dC, dI) vwCl [(cx, .inr (1, [.ref q7, .ref q13, .ref q25, .int 0, .int 0])), (q7, .inl (cI, 8, .inl (fun _ => 0))), (q13, .inr (0, [.ref wa18, .int 0, .int 0])), (wa18, .inl (cI, n, .inl (fun _ => 0))), (q25, .inr (0, [.ref wa30, .int 0, .int 0])), (wa30, .inl (cI, n, .inl (fun _ => 0)))] H := hP
  have hD : va_D A [(cx, .inr (1, [.ref q7, .ref q13, .ref q25, .int 0, .int 0])), (q7, .inl (cI, 8, .inl (fun _ => 0))), (q13, .inr (0, [.ref wa18, .int 0, .int 0])), (wa18, .inl (cI, n, .inl (fun _ => 0))), (q25, .inr (0, [.ref wa30, .int 0, .int 0])), (wa30, .inl (cI, n, .inl (fun _ => 0)))] := hD
  refine W.widen (k := 5) (n := 4140) (by omega) (by omega) ?_
  have hP9 := hP.sub (ws' := [(cx, .inr (1, [.ref q7, .ref q13, .ref q25, .int 0, .int 0])), (q7, .inl (cI, 8, .inl (fun _ => 0))), (q13, .inr (0, [.ref wa18, .int 0, .int 0])), (wa18, .inl (cI, n, .inl (fun _ => 0))), (q25, .inr (0, [.ref wa30, .int 0, .int 0])), (wa30, .inl (cI, n, .inl (fun _ => 0)))]) [0, 1, 2, 3, 4, 5] rfl
  have hD9 := hD.sub (ws' := [(cx, .inr (1, [.ref q7, .ref q13, .ref q25, .int 0, .int 0])), (q7, .inl (cI, 8, .inl (fun _ => 0))), (q13, .inr (0, [.ref wa18, .int 0, .int 0])), (wa18, .inl (cI, n, .inl (fun _ => 0))), (q25, .inr (0, [.ref wa30, .int 0, .int 0])), (wa30, .inl (cI, n, .inl (fun _ => 0)))]) [0, 1, 2, 3, 4, 5] (by decide) rfl
  exact W.vret hx hb hr (fun t ht hW => ⟨⟨((q7, q13, wa18, q25, wa30), cI), rfl, trivial, by rw [ht]; exact hP9, va_K.moved hW.alike hK, hD9⟩, hS.F ht⟩) hS.2.2 dX1_init_36
set_option maxHeartbeats 4000000 in
set_option maxRecDepth 100000 in
theorem ctX2_init (l : Launch) (dC : Nat → ClassId) (dI : Nat → Nat → Nat) (mx : Nat) (n : Nat) (iw : Int32) (sz : Nat) (hN : 16 + (iw &&& 2047) = nI n) (hnb : n ≤ 2063) : Met l yX2_init (kX2_init :: gT) ({ frames := 1, cells := 8, slots := 12616, locals := 12 }) (va_Pc [.ref mx, .int iw] (pM (dC, dI) [(mx, .inr (2, [.int 0, .int 0, .int 0, .int 0, .int 0, .null, .null, .null, .null, .null, .null, .int 0, .null, .null]))] [] sz)) (va_Qv (fun v : (Nat × Nat × Nat × Nat × Nat × Nat × Nat × Nat) × ClassId => True) (fun v t => va_P (dC, dI) vwCl [(mx, .inr (2, [.int 0, .int (nI n), .int 0, .int 0, .int 0, .ref v.1.1, .ref v.1.2.1, .ref v.1.2.2.1, .ref v.1.2.2.2.1, .ref v.1.2.2.2.2.1, .ref v.1.2.2.2.2.2.1, .int 0, .ref v.1.2.2.2.2.2.2.1, .ref v.1.2.2.2.2.2.2.2])), (v.1.1, .inl (v.2, 2100, .inl (fun _ => 0))), (v.1.2.1, .inl (v.2, 2100, .inl (fun _ => 0))), (v.1.2.2.1, .inl (v.2, 2100, .inl (fun _ => 0))), (v.1.2.2.2.1, .inl (v.2, 2100, .inl (fun _ => 0))), (v.1.2.2.2.2.1, .inl (v.2, 8, .inl (va_cpy (fun _ => 1) (fun _ => 0) 0 0 8))), (v.1.2.2.2.2.2.1, .inl (v.2, 8, .inl (fun _ => 0))), (v.1.2.2.2.2.2.2.1, .inl (v.2, 2100, .inl (fun _ => 0))), (v.1.2.2.2.2.2.2.2, .inl (v.2, 2100, .inl (fun _ => 0)))] t.heap ∧ va_K (dC, dI) vwCl [(v.2, .int)] t ∧ va_D (va_A [(mx, .inr (2, [.int 0, .int 0, .int 0, .int 0, .int 0, .null, .null, .null, .null, .null, .null, .int 0, .null, .null]))] sz) [(mx, .inr (2, [.int 0, .int (nI n), .int 0, .int 0, .int 0, .ref v.1.1, .ref v.1.2.1, .ref v.1.2.2.1, .ref v.1.2.2.2.1, .ref v.1.2.2.2.2.1, .ref v.1.2.2.2.2.2.1, .int 0, .ref v.1.2.2.2.2.2.2.1, .ref v.1.2.2.2.2.2.2.2])), (v.1.1, .inl (v.2, 2100, .inl (fun _ => 0))), (v.1.2.1, .inl (v.2, 2100, .inl (fun _ => 0))), (v.1.2.2.1, .inl (v.2, 2100, .inl (fun _ => 0))), (v.1.2.2.2.1, .inl (v.2, 2100, .inl (fun _ => 0))), (v.1.2.2.2.2.1, .inl (v.2, 8, .inl (va_cpy (fun _ => 1) (fun _ => 0) 0 0 8))), (v.1.2.2.2.2.2.1, .inl (v.2, 8, .inl (fun _ => 0))), (v.1.2.2.2.2.2.2.1, .inl (v.2, 2100, .inl (fun _ => 0))), (v.1.2.2.2.2.2.2.2, .inl (v.2, 2100, .inl (fun _ => 0)))]) (va_A [(mx, .inr (2, [.int 0, .int 0, .int 0, .int 0, .int 0, .null, .null, .null, .null, .null, .null, .int 0, .null, .null]))] sz)) 8 12616 (va_A [(mx, .inr (2, [.int 0, .int 0, .int 0, .int 0, .int 0, .null, .null, .null, .null, .null, .null, .int 0, .null, .null]))] sz) := by
  refine Met.ofW (cc := cX2_init) (maxL := 3) (ret := none) (by decide) rfl ?_
  intro p e s m args below meth c s₁ B hml hv
  obtain ⟨rfl, hsz, hP, hK, hD0, hE⟩ := hv
  have hx := B.exec
  have hb := B.bytes
  have hr := B.returns
  have ht : ∀ w ∈ gT, w.before ([.ref mx, .int iw] : List Value).toArray s = true := fun w h => atoms_spec (ws := kX2_init :: gT) B.pre w (List.mem_cons_of_mem _ h)
  have hown : s.vm.findClass RX2 = some m.cls := findClass_of_methodNamed B.named
  have hlocks := B.notSynchronized
  have hin : meth.name = "<init>" := (name_of_methodNamed B.named B.method).1
  subst hsz
  have hD := hD0.self (sz := s.heap.size)
  generalize hAe : va_A [(mx, .inr (2, [.int 0, .int 0, .int 0, .int 0, .int 0, .null, .null, .null, .null, .null, .null, .int 0, .null, .null]))] s.heap.size = A at hD ⊢
  have hA : ∀ q : Nat, s.heap.size ≤ q → A q := fun q h => by rw [← hAe]; exact Or.inr h
  have hS : va_S A s.heap s.heap [] := va_S.rf
  have hl := lv_entry ([.ref mx, .int iw]) (n := 3) (Nat.le_of_ble_eq_true rfl)
  rw [lg_entry_eq]
  generalize (lg_sl ([.ref mx, .int iw]) ++ List.replicate (3 - (lg_sl ([.ref mx, .int iw])).length) Slot.unset).toArray = ls at hl ⊢
  have hl : lv_has ls 3 [(0, .ref mx), (1, .int iw)] := hl
  refine lv_aload_n hx hb dX2_init_0 rfl (lv_at hl 0 rfl) ?_
  refine W.objInit hx hb hown (ht _ g_325) (ht _ g_16) (ht _ g_17) rfl (by rw [hml]; exact hl.1) rfl dX2_init_1 (Nat.le_of_ble_eq_true rfl) (Nat.le_of_ble_eq_true rfl) ?_
  refine W.eq (g2 := F0 m 4 ls []) rfl ?_
  refine lv_aload_n hx hb dX2_init_4 rfl (lv_at hl 0 rfl) ?_
  refine lv_sipush (v := 2100) hx hb dX2_init_5 (by decide) ?_
  refine va_newa (atype := .int) (ty := .int) (a0 := (2100, .inl (fun _ => 0))) hx hb (ht _ g_37) rfl hK hP hD hS hA (fun cA => rfl) (by decide) (by decide) (show 2100 * 4 ≤ 536870912 by omega) (Nat.le_of_ble_eq_true rfl) (show _ ≤ 12616 by omega) dX2_init_8 (fun q8 cI H hK hP hD hS => ?_)
  have hK : va_K (dC, dI) vwCl [(cI, .int)] s := hK
  refine W.widen (k := 1) (n := 2100) (by omega) (by omega) ?_
  have hP : va_P (dC, dI) vwCl [(mx, .inr (2, [.int 0, .int 0, .int 0, .int 0, .int 0, .null, .null, .null, .null, .null, .null, .int 0, .null, .null])), (q8, .inl (cI, 2100, .inl (fun _ => 0)))] H := hP
  have hD : va_D A [(mx, .inr (2, [.int 0, .int 0, .int 0, .int 0, .int 0, .null, .null, .null, .null, .null, .null, .int 0, .null, .null])), (q8, .inl (cI, 2100, .inl (fun _ => 0)))] := hD
  refine va_putF (D := (dC, dI)) (ci := 2) (v := .ref q8) (ty := .array .int) (C := RX2) (T := TX2) (N := 14) hx hb ht iX2 tyX2 tkX2 nmX2 hown hK hP hD hS 0 rfl rfl 5 (by decide) (ht _ g_331) (fun _ h9 => h9) rfl hin rfl (by decide +kernel) rfl rfl (Nat.le_of_ble_eq_true rfl) dX2_init_10 (fun H locs hP hD hS => ?_)
  have hP : va_P (dC, dI) vwCl [(mx, .inr (2, [.int 0, .int 0, .int 0, .int 0, .int 0, .ref q8, .null, .null, .null, .null, .null, .int 0, .null, .null])), (q8, .inl (cI, 2100, .inl (fun _ => 0)))] H := hP
  have hD : va_D A [(mx, .inr (2, [.int 0, .int 0, .int 0, .int 0, .int 0, .ref q8, .null, .null, .null, .null, .null, .int 0, .null, .null])), (q8, .inl (cI, 2100, .inl (fun _ => 0)))] := hD
  refine lv_aload_n hx hb dX2_init_13 rfl (lv_at hl 0 rfl) ?_
  refine lv_sipush (v := 2100) hx hb dX2_init_14 (by decide) ?_
  refine va_newa (atype := .int) (ty := .int) (a0 := (2100, .inl (fun _ => 0))) hx hb (ht _ g_37) rfl hK hP hD hS hA (fun cA => rfl) (by decide) (by decide) (show 2100 * 4 ≤ 536870912 by omega) (Nat.le_of_ble_eq_true rfl) (show _ ≤ 12616 by omega) dX2_init_17 (fun q17 c17 H hK hP hD hS => ?_)
  obtain rfl : cI = c17 := cAeq hK (i := 0) (j := 1) rfl rfl
  have hK := hK.sub (tys' := [(cI, .int)]) [0] rfl
  refine W.widen (k := 2) (n := 4200) (by omega) (by omega) ?_
  have hP : va_P (dC, dI) vwCl [(mx, .inr (2, [.int 0, .int 0, .int 0, .int 0, .int 0, .ref q8, .null, .null, .null, .null, .null, .int 0, .null, .null])), (q8, .inl (cI, 2100, .inl (fun _ => 0))), (q17, .inl (cI, 2100, .inl (fun _ => 0)))] H := hP
  have hD : va_D A [(mx, .inr (2, [.int 0, .int 0, .int 0, .int 0, .int 0, .ref q8, .null, .null, .null, .null, .null, .int 0, .null, .null])), (q8, .inl (cI, 2100, .inl (fun _ => 0))), (q17, .inl (cI, 2100, .inl (fun _ => 0)))] := hD
  refine va_putF (D := (dC, dI)) (ci := 2) (v := .ref q17) (ty := .array .int) (C := RX2) (T := TX2) (N := 14) hx hb ht iX2 tyX2 tkX2 nmX2 hown hK hP hD hS 0 rfl rfl 6 (by decide) (ht _ g_332) (fun _ h9 => h9) rfl hin rfl (by decide +kernel) rfl rfl (Nat.le_of_ble_eq_true rfl) dX2_init_19 (fun H locs hP hD hS => ?_)
  have hP : va_P (dC, dI) vwCl [(mx, .inr (2, [.int 0, .int 0, .int 0, .int 0, .int 0, .ref q8, .ref q17, .null, .null, .null, .null, .int 0, .null, .null])), (q8, .inl (cI, 2100, .inl (fun _ => 0))), (q17, .inl (cI, 2100, .inl (fun _ => 0)))] H := hP
  have hD : va_D A [(mx, .inr (2, [.int 0, .int 0, .int 0, .int 0, .int 0, .ref q8, .ref q17, .null, .null, .null, .null, .int 0, .null, .null])), (q8, .inl (cI, 2100, .inl (fun _ => 0))), (q17, .inl (cI, 2100, .inl (fun _ => 0)))] := hD
  refine lv_aload_n hx hb dX2_init_22 rfl (lv_at hl 0 rfl) ?_
  refine lv_sipush (v := 2100) hx hb dX2_init_23 (by decide) ?_
  refine va_newa (atype := .int) (ty := .int) (a0 := (2100, .inl (fun _ => 0))) hx hb (ht _ g_37) rfl hK hP hD hS hA (fun cA => rfl) (by decide) (by decide) (show 2100 * 4 ≤ 536870912 by omega) (Nat.le_of_ble_eq_true rfl) (show _ ≤ 12616 by omega) dX2_init_26 (fun q26 c26 H hK hP hD hS => ?_)
  obtain rfl : cI = c26 := cAeq hK (i := 0) (j := 1) rfl rfl
  have hK := hK.sub (tys' := [(cI, .int)]) [0] rfl
  refine W.widen (k := 3) (n := 6300) (by omega) (by omega) ?_
  have hP : va_P (dC, dI) vwCl [(mx, .inr (2, [.int 0, .int 0, .int 0, .int 0, .int 0, .ref q8, .ref q17, .null, .null, .null, .null, .int 0, .null, .null])), (q8, .inl (cI, 2100, .inl (fun _ => 0))), (q17, .inl (cI, 2100, .inl (fun _ => 0))), (q26, .inl (cI, 2100, .inl (fun _ => 0)))] H := hP
  have hD : va_D A [(mx, .inr (2, [.int 0, .int 0, .int 0, .int 0, .int 0, .ref q8, .ref q17, .null, .null, .null, .null, .int 0, .null, .null])), (q8, .inl (cI, 2100, .inl (fun _ => 0))), (q17, .inl (cI, 2100, .inl (fun _ => 0))), (q26, .inl (cI, 2100, .inl (fun _ => 0)))] := hD
  refine va_putF (D := (dC, dI)) (ci := 2) (v := .ref q26) (ty := .array .int) (C := RX2) (T := TX2) (N := 14) hx hb ht iX2 tyX2 tkX2 nmX2 hown hK hP hD hS 0 rfl rfl 7 (by decide) (ht _ g_333) (fun _ h9 => h9) rfl hin rfl (by decide +kernel) rfl rfl (Nat.le_of_ble_eq_true rfl) dX2_init_28 (fun H locs hP hD hS => ?_)
  have hP : va_P (dC, dI) vwCl [(mx, .inr (2, [.int 0, .int 0, .int 0, .int 0, .int 0, .ref q8, .ref q17, .ref q26, .null, .null, .null, .int 0, .null, .null])), (q8, .inl (cI, 2100, .inl (fun _ => 0))), (q17, .inl (cI, 2100, .inl (fun _ => 0))), (q26, .inl (cI, 2100, .inl (fun _ => 0)))] H := hP
  have hD : va_D A [(mx, .inr (2, [.int 0, .int 0, .int 0, .int 0, .int 0, .ref q8, .ref q17, .ref q26, .null, .null, .null, .int 0, .null, .null])), (q8, .inl (cI, 2100, .inl (fun _ => 0))), (q17, .inl (cI, 2100, .inl (fun _ => 0))), (q26, .inl (cI, 2100, .inl (fun _ => 0)))] := hD
  refine lv_aload_n hx hb dX2_init_31 rfl (lv_at hl 0 rfl) ?_
  refine lv_sipush (v := 2100) hx hb dX2_init_32 (by decide) ?_
  refine va_newa (atype := .int) (ty := .int) (a0 := (2100, .inl (fun _ => 0))) hx hb (ht _ g_37) rfl hK hP hD hS hA (fun cA => rfl) (by decide) (by decide) (show 2100 * 4 ≤ 536870912 by omega) (Nat.le_of_ble_eq_true rfl) (show _ ≤ 12616 by omega) dX2_init_35 (fun q35 c35 H hK hP hD hS => ?_)
  obtain rfl : cI = c35 := cAeq hK (i := 0) (j := 1) rfl rfl
  have hK := hK.sub (tys' := [(cI, .int)]) [0] rfl
  refine W.widen (k := 4) (n := 8400) (by omega) (by omega) ?_
  have hP : va_P (dC, dI) vwCl [(mx, .inr (2, [.int 0, .int 0, .int 0, .int 0, .int 0, .ref q8, .ref q17, .ref q26, .null, .null, .null, .int 0, .null, .null])), (q8, .inl (cI, 2100, .inl (fun _ => 0))), (q17, .inl (cI, 2100, .inl (fun _ => 0))), (q26, .inl (cI, 2100, .inl (fun _ => 0))), (q35, .inl (cI, 2100, .inl (fun _ => 0)))] H := hP
  have hD : va_D A [(mx, .inr (2, [.int 0, .int 0, .int 0, .int 0, .int 0, .ref q8, .ref q17, .ref q26, .null, .null, .null, .int 0, .null, .null])), (q8, .inl (cI, 2100, .inl (fun _ => 0))), (q17, .inl (cI, 2100, .inl (fun _ => 0))), (q26, .inl (cI, 2100, .inl (fun _ => 0))), (q35, .inl (cI, 2100, .inl (fun _ => 0)))] := hD
  refine va_putF (D := (dC, dI)) (ci := 2) (v := .ref q35) (ty := .array .int) (C := RX2) (T := TX2) (N := 14) hx hb ht iX2 tyX2 tkX2 nmX2 hown hK hP hD hS 0 rfl rfl 8 (by decide) (ht _ g_334) (fun _ h9 => h9) rfl hin rfl (by decide +kernel) rfl rfl (Nat.le_of_ble_eq_true rfl) dX2_init_37 (fun H locs hP hD hS => ?_)
  have hP : va_P (dC, dI) vwCl [(mx, .inr (2, [.int 0, .int 0, .int 0, .int 0, .int 0, .ref q8, .ref q17, .ref q26, .ref q35, .null, .null, .int 0, .null, .null])), (q8, .inl (cI, 2100, .inl (fun _ => 0))), (q17, .inl (cI, 2100, .inl (fun _ => 0))), (q26, .inl (cI, 2100, .inl (fun _ => 0))), (q35, .inl (cI, 2100, .inl (fun _ => 0)))] H := hP
  have hD : va_D A [(mx, .inr (2, [.int 0, .int 0, .int 0, .int 0, .int 0, .ref q8, .ref q17, .ref q26, .ref q35, .null, .null, .int 0, .null, .null])), (q8, .inl (cI, 2100, .inl (fun _ => 0))), (q17, .inl (cI, 2100, .inl (fun _ => 0))), (q26, .inl (cI, 2100, .inl (fun _ => 0))), (q35, .inl (cI, 2100, .inl (fun _ => 0)))] := hD
  refine lv_aload_n hx hb dX2_init_40 rfl (lv_at hl 0 rfl) ?_
  refine lv_bipush (v := 8) hx hb dX2_init_41 (by decide) ?_
  refine va_newa (atype := .int) (ty := .int) (a0 := (8, .inl (fun _ => 0))) hx hb (ht _ g_37) rfl hK hP hD hS hA (fun cA => rfl) (by decide) (by decide) (show 8 * 4 ≤ 536870912 by omega) (Nat.le_of_ble_eq_true rfl) (show _ ≤ 12616 by omega) dX2_init_43 (fun q43 c43 H hK hP hD hS => ?_)
  obtain rfl : cI = c43 := cAeq hK (i := 0) (j := 1) rfl rfl
  have hK := hK.sub (tys' := [(cI, .int)]) [0] rfl
  refine W.widen (k := 5) (n := 8408) (by omega) (by omega) ?_
  have hP : va_P (dC, dI) vwCl [(mx, .inr (2, [.int 0, .int 0, .int 0, .int 0, .int 0, .ref q8, .ref q17, .ref q26, .ref q35, .null, .null, .int 0, .null, .null])), (q8, .inl (cI, 2100, .inl (fun _ => 0))), (q17, .inl (cI, 2100, .inl (fun _ => 0))), (q26, .inl (cI, 2100, .inl (fun _ => 0))), (q35, .inl (cI, 2100, .inl (fun _ => 0))), (q43, .inl (cI, 8, .inl (fun _ => 0)))] H := hP
  have hD : va_D A [(mx, .inr (2, [.int 0, .int 0, .int 0, .int 0, .int 0, .ref q8, .ref q17, .ref q26, .ref q35, .null, .null, .int 0, .null, .null])), (q8, .inl (cI, 2100, .inl (fun _ => 0))), (q17, .inl (cI, 2100, .inl (fun _ => 0))), (q26, .inl (cI, 2100, .inl (fun _ => 0))), (q35, .inl (cI, 2100, .inl (fun _ => 0))), (q43, .inl (cI, 8, .inl (fun _ => 0)))] := hD
  refine va_putF (D := (dC, dI)) (ci := 2) (v := .ref q43) (ty := .array .int) (C := RX2) (T := TX2) (N := 14) hx hb ht iX2 tyX2 tkX2 nmX2 hown hK hP hD hS 0 rfl rfl 9 (by decide) (ht _ g_335) (fun _ h9 => h9) rfl hin rfl (by decide +kernel) rfl rfl (Nat.le_of_ble_eq_true rfl) dX2_init_45 (fun H locs hP hD hS => ?_)
  have hP : va_P (dC, dI) vwCl [(mx, .inr (2, [.int 0, .int 0, .int 0, .int 0, .int 0, .ref q8, .ref q17, .ref q26, .ref q35, .ref q43, .null, .int 0, .null, .null])), (q8, .inl (cI, 2100, .inl (fun _ => 0))), (q17, .inl (cI, 2100, .inl (fun _ => 0))), (q26, .inl (cI, 2100, .inl (fun _ => 0))), (q35, .inl (cI, 2100, .inl (fun _ => 0))), (q43, .inl (cI, 8, .inl (fun _ => 0)))] H := hP
  have hD : va_D A [(mx, .inr (2, [.int 0, .int 0, .int 0, .int 0, .int 0, .ref q8, .ref q17, .ref q26, .ref q35, .ref q43, .null, .int 0, .null, .null])), (q8, .inl (cI, 2100, .inl (fun _ => 0))), (q17, .inl (cI, 2100, .inl (fun _ => 0))), (q26, .inl (cI, 2100, .inl (fun _ => 0))), (q35, .inl (cI, 2100, .inl (fun _ => 0))), (q43, .inl (cI, 8, .inl (fun _ => 0)))] := hD
  refine lv_aload_n hx hb dX2_init_48 rfl (lv_at hl 0 rfl) ?_
  refine lv_bipush (v := 8) hx hb dX2_init_49 (by decide) ?_
  refine va_newa (atype := .int) (ty := .int) (a0 := (8, .inl (fun _ => 0))) hx hb (ht _ g_37) rfl hK hP hD hS hA (fun cA => rfl) (by decide) (by decide) (show 8 * 4 ≤ 536870912 by omega) (Nat.le_of_ble_eq_true rfl) (show _ ≤ 12616 by omega) dX2_init_51 (fun q51 c51 H hK hP hD hS => ?_)
  obtain rfl : cI = c51 := cAeq hK (i := 0) (j := 1) rfl rfl
  have hK := hK.sub (tys' := [(cI, .int)]) [0] rfl
  refine W.widen (k := 6) (n := 8416) (by omega) (by omega) ?_
  have hP : va_P (dC, dI) vwCl [(mx, .inr (2, [.int 0, .int 0, .int 0, .int 0, .int 0, .ref q8, .ref q17, .ref q26, .ref q35, .ref q43, .null, .int 0, .null, .null])), (q8, .inl (cI, 2100, .inl (fun _ => 0))), (q17, .inl (cI, 2100, .inl (fun _ => 0))), (q26, .inl (cI, 2100, .inl (fun _ => 0))), (q35, .inl (cI, 2100, .inl (fun _ => 0))), (q43, .inl (cI, 8, .inl (fun _ => 0))), (q51, .inl (cI, 8, .inl (fun _ => 0)))] H := hP
  have hD : va_D A [(mx, .inr (2, [.int 0, .int 0, .int 0, .int 0, .int 0, .ref q8, .ref q17, .ref q26, .ref q35, .ref q43, .null, .int 0, .null, .null])), (q8, .inl (cI, 2100, .inl (fun _ => 0))), (q17, .inl (cI, 2100, .inl (fun _ => 0))), (q26, .inl (cI, 2100, .inl (fun _ => 0))), (q35, .inl (cI, 2100, .inl (fun _ => 0))), (q43, .inl (cI, 8, .inl (fun _ => 0))), (q51, .inl (cI, 8, .inl (fun _ => 0)))] := hD
  refine va_putF (D := (dC, dI)) (ci := 2) (v := .ref q51) (ty := .array .int) (C := RX2) (T := TX2) (N := 14) hx hb ht iX2 tyX2 tkX2 nmX2 hown hK hP hD hS 0 rfl rfl 10 (by decide) (ht _ g_336) (fun _ h9 => h9) rfl hin rfl (by decide +kernel) rfl rfl (Nat.le_of_ble_eq_true rfl) dX2_init_53 (fun H locs hP hD hS => ?_)
  have hP : va_P (dC, dI) vwCl [(mx, .inr (2, [.int 0, .int 0, .int 0, .int 0, .int 0, .ref q8, .ref q17, .ref q26, .ref q35, .ref q43, .ref q51, .int 0, .null, .null])), (q8, .inl (cI, 2100, .inl (fun _ => 0))), (q17, .inl (cI, 2100, .inl (fun _ => 0))), (q26, .inl (cI, 2100, .inl (fun _ => 0))), (q35, .inl (cI, 2100, .inl (fun _ => 0))), (q43, .inl (cI, 8, .inl (fun _ => 0))), (q51, .inl (cI, 8, .inl (fun _ => 0)))] H := hP
  have hD : va_D A [(mx, .inr (2, [.int 0, .int 0, .int 0, .int 0, .int 0, .ref q8, .ref q17, .ref q26, .ref q35, .ref q43, .ref q51, .int 0, .null, .null])), (q8, .inl (cI, 2100, .inl (fun _ => 0))), (q17, .inl (cI, 2100, .inl (fun _ => 0))), (q26, .inl (cI, 2100, .inl (fun _ => 0))), (q35, .inl (cI, 2100, .inl (fun _ => 0))), (q43, .inl (cI, 8, .inl (fun _ => 0))), (q51, .inl (cI, 8, .inl (fun _ => 0)))] := hD
  refine lv_aload_n hx hb dX2_init_56 rfl (lv_at hl 0 rfl) ?_
  refine lv_sipush (v := 2100) hx hb dX2_init_57 (by decide) ?_
  refine va_newa (atype := .int) (ty := .int) (a0 := (2100, .inl (fun _ => 0))) hx hb (ht _ g_37) rfl hK hP hD hS hA (fun cA => rfl) (by decide) (by decide) (show 2100 * 4 ≤ 536870912 by omega) (Nat.le_of_ble_eq_true rfl) (show _ ≤ 12616 by omega) dX2_init_60 (fun q60 c60 H hK hP hD hS => ?_)
  obtain rfl : cI = c60 := cAeq hK (i := 0) (j := 1) rfl rfl
  have hK := hK.sub (tys' := [(cI, .int)]) [0] rfl
  refine W.widen (k := 7) (n := 10516) (by omega) (by omega) ?_
  have hP : va_P (dC, dI) vwCl [(mx, .inr (2, [.int 0, .int 0, .int 0, .int 0, .int 0, .ref q8, .ref q17, .ref q26, .ref q35, .ref q43, .ref q51, .int 0, .null, .null])), (q8, .inl (cI, 2100, .inl (fun _ => 0))), (q17, .inl (cI, 2100, .inl (fun _ => 0))), (q26, .inl (cI, 2100, .inl (fun _ => 0))), (q35, .inl (cI, 2100, .inl (fun _ => 0))), (q43, .inl (cI, 8, .inl (fun _ => 0))), (q51, .inl (cI, 8, .inl (fun _ => 0))), (q60, .inl (cI, 2100, .inl (fun _ => 0)))] H := hP
  have hD : va_D A [(mx, .inr (2, [.int 0, .int 0, .int 0, .int 0, .int 0, .ref q8, .ref q17, .ref q26, .ref q35, .ref q43, .ref q51, .int 0, .null, .null])), (q8, .inl (cI, 2100, .inl (fun _ => 0))), (q17, .inl (cI, 2100, .inl (fun _ => 0))), (q26, .inl (cI, 2100, .inl (fun _ => 0))), (q35, .inl (cI, 2100, .inl (fun _ => 0))), (q43, .inl (cI, 8, .inl (fun _ => 0))), (q51, .inl (cI, 8, .inl (fun _ => 0))), (q60, .inl (cI, 2100, .inl (fun _ => 0)))] := hD
  refine va_putF (D := (dC, dI)) (ci := 2) (v := .ref q60) (ty := .array .int) (C := RX2) (T := TX2) (N := 14) hx hb ht iX2 tyX2 tkX2 nmX2 hown hK hP hD hS 0 rfl rfl 12 (by decide) (ht _ g_338) (fun _ h9 => h9) rfl hin rfl (by decide +kernel) rfl rfl (Nat.le_of_ble_eq_true rfl) dX2_init_62 (fun H locs hP hD hS => ?_)
  have hP : va_P (dC, dI) vwCl [(mx, .inr (2, [.int 0, .int 0, .int 0, .int 0, .int 0, .ref q8, .ref q17, .ref q26, .ref q35, .ref q43, .ref q51, .int 0, .ref q60, .null])), (q8, .inl (cI, 2100, .inl (fun _ => 0))), (q17, .inl (cI, 2100, .inl (fun _ => 0))), (q26, .inl (cI, 2100, .inl (fun _ => 0))), (q35, .inl (cI, 2100, .inl (fun _ => 0))), (q43, .inl (cI, 8, .inl (fun _ => 0))), (q51, .inl (cI, 8, .inl (fun _ => 0))), (q60, .inl (cI, 2100, .inl (fun _ => 0)))] H := hP
  have hD : va_D A [(mx, .inr (2, [.int 0, .int 0, .int 0, .int 0, .int 0, .ref q8, .ref q17, .ref q26, .ref q35, .ref q43, .ref q51, .int 0, .ref q60, .null])), (q8, .inl (cI, 2100, .inl (fun _ => 0))), (q17, .inl (cI, 2100, .inl (fun _ => 0))), (q26, .inl (cI, 2100, .inl (fun _ => 0))), (q35, .inl (cI, 2100, .inl (fun _ => 0))), (q43, .inl (cI, 8, .inl (fun _ => 0))), (q51, .inl (cI, 8, .inl (fun _ => 0))), (q60, .inl (cI, 2100, .inl (fun _ => 0)))] := hD
  refine lv_aload_n hx hb dX2_init_65 rfl (lv_at hl 0 rfl) ?_
  refine lv_sipush (v := 2100) hx hb dX2_init_66 (by decide) ?_
  refine va_newa (atype := .int) (ty := .int) (a0 := (2100, .inl (fun _ => 0))) hx hb (ht _ g_37) rfl hK hP hD hS hA (fun cA => rfl) (by decide) (by decide) (show 2100 * 4 ≤ 536870912 by omega) (Nat.le_of_ble_eq_true rfl) (show _ ≤ 12616 by omega) dX2_init_69 (fun q69 c69 H hK hP hD hS => ?_)
  obtain rfl : cI = c69 := cAeq hK (i := 0) (j := 1) rfl rfl
  have hK := hK.sub (tys' := [(cI, .int)]) [0] rfl
  refine W.widen (k := 8) (n := 12616) (by omega) (by omega) ?_
  have hP : va_P (dC, dI) vwCl [(mx, .inr (2, [.int 0, .int 0, .int 0, .int 0, .int 0, .ref q8, .ref q17, .ref q26, .ref q35, .ref q43, .ref q51, .int 0, .ref q60, .null])), (q8, .inl (cI, 2100, .inl (fun _ => 0))), (q17, .inl (cI, 2100, .inl (fun _ => 0))), (q26, .inl (cI, 2100, .inl (fun _ => 0))), (q35, .inl (cI, 2100, .inl (fun _ => 0))), (q43, .inl (cI, 8, .inl (fun _ => 0))), (q51, .inl (cI, 8, .inl (fun _ => 0))), (q60, .inl (cI, 2100, .inl (fun _ => 0))), (q69, .inl (cI, 2100, .inl (fun _ => 0)))] H := hP
  have hD : va_D A [(mx, .inr (2, [.int 0, .int 0, .int 0, .int 0, .int 0, .ref q8, .ref q17, .ref q26, .ref q35, .ref q43, .ref q51, .int 0, .ref q60, .null])), (q8, .inl (cI, 2100, .inl (fun _ => 0))), (q17, .inl (cI, 2100, .inl (fun _ => 0))), (q26, .inl (cI, 2100, .inl (fun _ => 0))), (q35, .inl (cI, 2100, .inl (fun _ => 0))), (q43, .inl (cI, 8, .inl (fun _ => 0))), (q51, .inl (cI, 8, .inl (fun _ => 0))), (q60, .inl (cI, 2100, .inl (fun _ => 0))), (q69, .inl (cI, 2100, .inl (fun _ => 0)))] := hD
  refine va_putF (D := (dC, dI)) (ci := 2) (v := .ref q69) (ty := .array .int) (C := RX2) (T := TX2) (N := 14) hx hb ht iX2 tyX2 tkX2 nmX2 hown hK hP hD hS 0 rfl rfl 13 (by decide) (ht _ g_339) (fun _ h9 => h9) rfl hin rfl (by decide +kernel) rfl rfl (Nat.le_of_ble_eq_true rfl) dX2_init_71 (fun H locs hP hD hS => ?_)
  have hP : va_P (dC, dI) vwCl [(mx, .inr (2, [.int 0, .int 0, .int 0, .int 0, .int 0, .ref q8, .ref q17, .ref q26, .ref q35, .ref q43, .ref q51, .int 0, .ref q60, .ref q69])), (q8, .inl (cI, 2100, .inl (fun _ => 0))), (q17, .inl (cI, 2100, .inl (fun _ => 0))), (q26, .inl (cI, 2100, .inl (fun _ => 0))), (q35, .inl (cI, 2100, .inl (fun _ => 0))), (q43, .inl (cI, 8, .inl (fun _ => 0))), (q51, .inl (cI, 8, .inl (fun _ => 0))), (q60, .inl (cI, 2100, .inl (fun _ => 0))), (q69, .inl (cI, 2100, .inl (fun _ => 0)))] H := hP
  have hD : va_D A [(mx, .inr (2, [.int 0, .int 0, .int 0, .int 0, .int 0, .ref q8, .ref q17, .ref q26, .ref q35, .ref q43, .ref q51, .int 0, .ref q60, .ref q69])), (q8, .inl (cI, 2100, .inl (fun _ => 0))), (q17, .inl (cI, 2100, .inl (fun _ => 0))), (q26, .inl (cI, 2100, .inl (fun _ => 0))), (q35, .inl (cI, 2100, .inl (fun _ => 0))), (q43, .inl (cI, 8, .inl (fun _ => 0))), (q51, .inl (cI, 8, .inl (fun _ => 0))), (q60, .inl (cI, 2100, .inl (fun _ => 0))), (q69, .inl (cI, 2100, .inl (fun _ => 0)))] := hD
  refine lv_aload_n hx hb dX2_init_74 rfl (lv_at hl 0 rfl) ?_
  refine lv_bipush (v := 16) hx hb dX2_init_75 (by decide) ?_
  refine lv_iload_n hx hb dX2_init_77 rfl (lv_at hl 1 rfl) ?_
  refine lv_sipush (v := 2047) hx hb dX2_init_78 (by decide) ?_
  refine lv_iand hx hb dX2_init_81 ?_
  refine lv_iadd hx hb dX2_init_82 ?_
  rw [hN]
  refine va_putF (D := (dC, dI)) (ci := 2) (v := .int (nI n)) (ty := .int) (C := RX2) (T := TX2) (N := 14) hx hb ht iX2 tyX2 tkX2 nmX2 hown hK hP hD hS 0 rfl rfl 1 (by decide) (ht _ g_327) (fun _ h9 => h9) rfl hin rfl (by decide +kernel) rfl rfl (Nat.le_of_ble_eq_true rfl) dX2_init_83 (fun H locs hP hD hS => ?_)
  have hP : va_P (dC, dI) vwCl [(mx, .inr (2, [.int 0, .int (nI n), .int 0, .int 0, .int 0, .ref q8, .ref q17, .ref q26, .ref q35, .ref q43, .ref q51, .int 0, .ref q60, .ref q69])), (q8, .inl (cI, 2100, .inl (fun _ => 0))), (q17, .inl (cI, 2100, .inl (fun _ => 0))), (q26, .inl (cI, 2100, .inl (fun _ => 0))), (q35, .inl (cI, 2100, .inl (fun _ => 0))), (q43, .inl (cI, 8, .inl (fun _ => 0))), (q51, .inl (cI, 8, .inl (fun _ => 0))), (q60, .inl (cI, 2100, .inl (fun _ => 0))), (q69, .inl (cI, 2100, .inl (fun _ => 0)))] H := hP
  have hD : va_D A [(mx, .inr (2, [.int 0, .int (nI n), .int 0, .int 0, .int 0, .ref q8, .ref q17, .ref q26, .ref q35, .ref q43, .ref q51, .int 0, .ref q60, .ref q69])), (q8, .inl (cI, 2100, .inl (fun _ => 0))), (q17, .inl (cI, 2100, .inl (fun _ => 0))), (q26, .inl (cI, 2100, .inl (fun _ => 0))), (q35, .inl (cI, 2100, .inl (fun _ => 0))), (q43, .inl (cI, 8, .inl (fun _ => 0))), (q51, .inl (cI, 8, .inl (fun _ => 0))), (q60, .inl (cI, 2100, .inl (fun _ => 0))), (q69, .inl (cI, 2100, .inl (fun _ => 0)))] := hD
  refine lv_iconst (v := 0) hx hb dX2_init_86 (by decide) ?_
  refine lv_istore_n (lv' := [(2, .int 0), (0, .ref mx), (1, .int iw)]) hx hb dX2_init_87 rfl hl (by decide) rfl (fun ls hl => ?_)
  have hloop : ∀ (d : Nat) (j : Nat) (g : Nat → Int32), (hd : j + d = 8) → (hg : g = va_cpy (fun _ => 1) (fun _ => 0) 0 0 j) → ∀ (H : Heap) (locs : List Loc) (ls : Array Slot), va_P (dC, dI) vwCl [(mx, .inr (2, [.int 0, .int (nI n), .int 0, .int 0, .int 0, .ref q8, .ref q17, .ref q26, .ref q35, .ref q43, .ref q51, .int 0, .ref q60, .ref q69])), (q8, .inl (cI, 2100, .inl (fun _ => 0))), (q17, .inl (cI, 2100, .inl (fun _ => 0))), (q26, .inl (cI, 2100, .inl (fun _ => 0))), (q35, .inl (cI, 2100, .inl (fun _ => 0))), (q43, .inl (cI, 8, .inl g)), (q51, .inl (cI, 8, .inl (fun _ => 0))), (q60, .inl (cI, 2100, .inl (fun _ => 0))), (q69, .inl (cI, 2100, .inl (fun _ => 0)))] H → va_D A [(mx, .inr (2, [.int 0, .int (nI n), .int 0, .int 0, .int 0, .ref q8, .ref q17, .ref q26, .ref q35, .ref q43, .ref q51, .int 0, .ref q60, .ref q69])), (q8, .inl (cI, 2100, .inl (fun _ => 0))), (q17, .inl (cI, 2100, .inl (fun _ => 0))), (q26, .inl (cI, 2100, .inl (fun _ => 0))), (q35, .inl (cI, 2100, .inl (fun _ => 0))), (q43, .inl (cI, 8, .inl g)), (q51, .inl (cI, 8, .inl (fun _ => 0))), (q60, .inl (cI, 2100, .inl (fun _ => 0))), (q69, .inl (cI, 2100, .inl (fun _ => 0)))] → va_S A s.heap H locs → lv_has ls 3 [(0, .ref mx), (1, .int iw), (2, .int (nI j))] → W p l e (headSpec (kX2_init :: gT) ({ frames := 1, cells := 8, slots := 12616, locals := 12 })).room s m ([.ref mx, .int iw] : List Value).toArray below meth c H locs 8 12616 (MQ below (va_Qv (fun v : (Nat × Nat × Nat × Nat × Nat × Nat × Nat × Nat) × ClassId => True) (fun v t => va_P (dC, dI) vwCl [(mx, .inr (2, [.int 0, .int (nI n), .int 0, .int 0, .int 0, .ref v.1.1, .ref v.1.2.1, .ref v.1.2.2.1, .ref v.1.2.2.2.1, .ref v.1.2.2.2.2.1, .ref v.1.2.2.2.2.2.1, .int 0, .ref v.1.2.2.2.2.2.2.1, .ref v.1.2.2.2.2.2.2.2])), (v.1.1, .inl (v.2, 2100, .inl (fun _ => 0))), (v.1.2.1, .inl (v.2, 2100, .inl (fun _ => 0))), (v.1.2.2.1, .inl (v.2, 2100, .inl (fun _ => 0))), (v.1.2.2.2.1, .inl (v.2, 2100, .inl (fun _ => 0))), (v.1.2.2.2.2.1, .inl (v.2, 8, .inl (va_cpy (fun _ => 1) (fun _ => 0) 0 0 8))), (v.1.2.2.2.2.2.1, .inl (v.2, 8, .inl (fun _ => 0))), (v.1.2.2.2.2.2.2.1, .inl (v.2, 2100, .inl (fun _ => 0))), (v.1.2.2.2.2.2.2.2, .inl (v.2, 2100, .inl (fun _ => 0)))] t.heap ∧ va_K (dC, dI) vwCl [(v.2, .int)] t ∧ va_D A [(mx, .inr (2, [.int 0, .int (nI n), .int 0, .int 0, .int 0, .ref v.1.1, .ref v.1.2.1, .ref v.1.2.2.1, .ref v.1.2.2.2.1, .ref v.1.2.2.2.2.1, .ref v.1.2.2.2.2.2.1, .int 0, .ref v.1.2.2.2.2.2.2.1, .ref v.1.2.2.2.2.2.2.2])), (v.1.1, .inl (v.2, 2100, .inl (fun _ => 0))), (v.1.2.1, .inl (v.2, 2100, .inl (fun _ => 0))), (v.1.2.2.1, .inl (v.2, 2100, .inl (fun _ => 0))), (v.1.2.2.2.1, .inl (v.2, 2100, .inl (fun _ => 0))), (v.1.2.2.2.2.1, .inl (v.2, 8, .inl (va_cpy (fun _ => 1) (fun _ => 0) 0 0 8))), (v.1.2.2.2.2.2.1, .inl (v.2, 8, .inl (fun _ => 0))), (v.1.2.2.2.2.2.2.1, .inl (v.2, 2100, .inl (fun _ => 0))), (v.1.2.2.2.2.2.2.2, .inl (v.2, 2100, .inl (fun _ => 0)))]) A) ([.ref mx, .int iw] : List Value).toArray s 8 12616 A) (F0 m 88 ls []) := by
    intro d
    induction d with
    | zero =>
      intro j g hd hg H locs ls hP hD hS hl
      have hj8 : j = 8 := by omega
      subst hj8
      subst hg
      refine lv_iload_n hx hb dX2_init_88 rfl (lv_at hl 2 rfl) ?_
      refine lv_bipush (v := 8) hx hb dX2_init_89 (by decide) ?_
      refine lv_icmp_ge (tgt := 107) hx hb dX2_init_91 (by decide) (fun _ => ?_) (fun h => absurd (by decide) h)
      refine W.widen (k := 8) (n := 12616) (by omega) (by omega) ?_
      have hP9 := hP.sub (ws' := [(mx, .inr (2, [.int 0, .int (nI n), .int 0, .int 0, .int 0, .ref q8, .ref q17, .ref q26, .ref q35, .ref q43, .ref q51, .int 0, .ref q60, .ref q69])), (q8, .inl (cI, 2100, .inl (fun _ => 0))), (q17, .inl (cI, 2100, .inl (fun _ => 0))), (q26, .inl (cI, 2100, .inl (fun _ => 0))), (q35, .inl (cI, 2100, .inl (fun _ => 0))), (q43, .inl (cI, 8, .inl (va_cpy (fun _ => 1) (fun _ => 0) 0 0 8))), (q51, .inl (cI, 8, .inl (fun _ => 0))), (q60, .inl (cI, 2100, .inl (fun _ => 0))), (q69, .inl (cI, 2100, .inl (fun _ => 0)))]) [0, 1, 2, 3, 4, 5, 6, 7, 8] rfl
      have hD9 := hD.sub (ws' := [(mx, .inr (2, [.int 0, .int (nI n), .int 0, .int 0, .int 0, .ref q8, .ref q17, .ref q26, .ref q35, .ref q43, .ref q51, .int 0, .ref q60, .ref q69])), (q8, .inl (cI, 2100, .inl (fun _ => 0))), (q17, .inl (cI, 2100, .inl (fun _ => 0))), (q26, .inl (cI, 2100, .inl (fun _ => 0))), (q35, .inl (cI, 2100, .inl (fun _ => 0))), (q43, .inl (cI, 8, .inl (va_cpy (fun _ => 1) (fun _ => 0) 0 0 8))), (q51, .inl (cI, 8, .inl (fun _ => 0))), (q60, .inl (cI, 2100, .inl (fun _ => 0))), (q69, .inl (cI, 2100, .inl (fun _ => 0)))]) [0, 1, 2, 3, 4, 5, 6, 7, 8] (by decide) rfl
      exact W.vret hx hb hr (fun t ht hW => ⟨⟨((q8, q17, q26, q35, q43, q51, q60, q69), cI), rfl, trivial, by rw [ht]; exact hP9, va_K.moved hW.alike hK, hD9⟩, hS.F ht⟩) hS.2.2 dX2_init_107
    | succ d ih =>
      intro j g hd hg H locs ls hP hD hS hl
      have er : (nI j).toNatClampNeg = j := nI_clamp (by omega)
      refine lv_iload_n hx hb dX2_init_88 rfl (lv_at hl 2 rfl) ?_
      refine lv_bipush (v := 8) hx hb dX2_init_89 (by decide) ?_
      refine lv_icmp_ge (tgt := 107) hx hb dX2_init_91 (by decide) (fun h => absurd h (by rw [show (8 : Int32) = nI 8 from rfl]; exact nI_ge (by omega) (by decide))) (fun _ => ?_)
      refine lv_aload_n hx hb dX2_init_94 rfl (lv_at hl 0 rfl) ?_
      refine va_get (D := (dC, dI)) (ci := 2) (v := .ref q43) (C := RX2) (T := TX2) (N := 14) hx hb ht iX2 hown hK hP 0 rfl rfl 9 (by decide) (ht _ g_335) (fun _ h9 => h9) rfl dX2_init_95 ?_
      refine lv_iload_n hx hb dX2_init_98 rfl (lv_at hl 2 rfl) ?_
      refine lv_iconst (v := 1) hx hb dX2_init_99 (by decide) ?_
      refine va_iast hx hb hK hP hD hS 5 0 rfl rfl (vp_in_nI (by omega) (by decide)) dX2_init_100 (fun H locs hP hD hS => ?_)
      have hP : va_P (dC, dI) vwCl [(mx, .inr (2, [.int 0, .int (nI n), .int 0, .int 0, .int 0, .ref q8, .ref q17, .ref q26, .ref q35, .ref q43, .ref q51, .int 0, .ref q60, .ref q69])), (q8, .inl (cI, 2100, .inl (fun _ => 0))), (q17, .inl (cI, 2100, .inl (fun _ => 0))), (q26, .inl (cI, 2100, .inl (fun _ => 0))), (q35, .inl (cI, 2100, .inl (fun _ => 0))), (q43, .inl (cI, 8, .inl (upd g (nI j).toNatClampNeg 1))), (q51, .inl (cI, 8, .inl (fun _ => 0))), (q60, .inl (cI, 2100, .inl (fun _ => 0))), (q69, .inl (cI, 2100, .inl (fun _ => 0)))] H := hP
      have hD : va_D A [(mx, .inr (2, [.int 0, .int (nI n), .int 0, .int 0, .int 0, .ref q8, .ref q17, .ref q26, .ref q35, .ref q43, .ref q51, .int 0, .ref q60, .ref q69])), (q8, .inl (cI, 2100, .inl (fun _ => 0))), (q17, .inl (cI, 2100, .inl (fun _ => 0))), (q26, .inl (cI, 2100, .inl (fun _ => 0))), (q35, .inl (cI, 2100, .inl (fun _ => 0))), (q43, .inl (cI, 8, .inl (upd g (nI j).toNatClampNeg 1))), (q51, .inl (cI, 8, .inl (fun _ => 0))), (q60, .inl (cI, 2100, .inl (fun _ => 0))), (q69, .inl (cI, 2100, .inl (fun _ => 0)))] := hD
      obtain ⟨x_1, ex_1⟩ : ∃ y : Int32, y = nI j + 1 := ⟨_, rfl⟩
      refine lv_iinc (v := x_1) (lv' := [(2, .int x_1), (0, .ref mx), (1, .int iw)]) hx hb dX2_init_101 hl (k := 2) rfl (by rw [ex_1]; rfl) (by decide) rfl (fun ls hl => ?_)
      refine lv_goto (tgt := 88) hx hb dX2_init_104 (by decide) ?_
      rw [er] at hP hD
      have e1 : upd g j 1 = va_cpy (fun _ => 1) (fun _ => 0) 0 0 (j + 1) := by rw [hg, ← cpy_s, Nat.zero_add]
      rw [e1] at hP hD
      rw [ex_1, nI_1] at hl
      exact ih (j + 1) _ (by omega) rfl _ _ ls hP hD hS (lv_sub hl [1, 2, 0] rfl)
  exact hloop 8 0 (fun _ => 0) (by omega) (cpy_0 _ _ _ _).symm _ _ ls hP hD hS (lv_sub hl [1, 2, 0] rfl)
