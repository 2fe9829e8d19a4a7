theorem rrIn {i : Int32} (h : (fX1_requireRegister i).1 = 0) : vp_in i 8 := by
  unfold fX1_requireRegister at h
  by_cases h0 : i < 0
  · rw [if_pos h0] at h; exact absurd h (by decide)
  · rw [if_neg h0] at h
    by_cases h1 : i < 8
    · exact in2 (n := 8) (by decide) h0 (by rw [Int32.not_le]; exact h1)
    · rw [if_neg h1] at h; exact absurd h (by decide)
theorem isRef01 (x : Int32) : fX1_isReference x = 0 ∨ fX1_isReference x = 1 := by
  unfold fX1_isReference
  by_cases h : x &&& 1 = 0
  · exact Or.inl (if_pos h)
  · exact Or.inr (if_neg h)
theorem rKeep {D : va_G} {ws : va_W} {H H1 : Heap} (hP : va_P D vwCl ws H) (hk : ∀ q : Nat, q < H.size → ¬ va_A [] H.size q → H1[q]? = H[q]?) : va_P D vwCl ws H1 := hP.kept (fun k q hq => hk q.1 (hP k q hq).lt (fun h => h.elim (fun ⟨i, e, h⟩ => by simp at h) (fun h => absurd (hP k q hq).lt (Nat.not_lt.mpr h))))
theorem tiNe {x : Int32} {k : Int32} (h : ¬ x = k) : x.toInt ≠ k.toInt := fun e => h (Int32.toInt_inj.mp e)
theorem sw_out4 {x : Int32} (h0 : ¬ x = 0) (h1 : ¬ x = 1) (h2 : ¬ x = 2) (h3 : ¬ x = 3) : x.toInt < 0 ∨ 3 < x.toInt := by
  have a0 : x.toInt ≠ 0 := tiNe h0
  have a1 : x.toInt ≠ 1 := tiNe h1
  have a2 : x.toInt ≠ 2 := tiNe h2
  have a3 : x.toInt ≠ 3 := tiNe h3
  omega
theorem sw_out5 {x : Int32} (h0 : ¬ x = 0) (h1 : ¬ x = 1) (h2 : ¬ x = 2) (h3 : ¬ x = 3) (h4 : ¬ x = 4) : x.toInt < 0 ∨ 4 < x.toInt := by
  have a0 : x.toInt ≠ 0 := tiNe h0
  have a1 : x.toInt ≠ 1 := tiNe h1
  have a2 : x.toInt ≠ 2 := tiNe h2
  have a3 : x.toInt ≠ 3 := tiNe h3
  have a4 : x.toInt ≠ 4 := tiNe h4
  omega
def fX1_objectOf (rg : Nat → Int32) (ip : Int32) : Nat × Int32 × Unit := (if fX1_isReference (rg ip.toNatClampNeg) = 0 then (2, 0, ()) else (0, fX1_content (rg ip.toNatClampNeg), ()))
set_option maxHeartbeats 4000000 in
set_option maxRecDepth 100000 in
theorem ctX1_objectOf (l : Launch) (hl9 : l.stackTraces = false) (dC : Nat → ClassId) (dI : Nat → Nat → Nat) (cI : ClassId) (sa : Nat → Nat) (cx : Nat) (ar : Nat) (ha : Nat) (hz : Nat) (col : Int32) (mov : Int32) (rg : Nat → Int32) (ip : Int32) (sz : Nat) (hi : vp_in ip 8) : vx_Met l yX1_objectOf (kX1_objectOf :: gT) ({ frames := 6, cells := 1, slots := 6, locals := 90 }) (va_Pc [.ref cx, .int ip] (pR (dC, dI) [(cx, .inr (1, [.ref ar, .ref ha, .ref hz, .int col, .int mov])), (ar, .inl (cI, 8, .inl rg))] [(cI, .int)] sa sz)) (va_Qi (fun (r : Int32) (u : Unit) => fX1_objectOf rg ip = (0, r, u)) (fun _ _ => True) (va_A [] sz)) (vx_X (fun v : Nat × Unit => fX1_objectOf rg ip = (v.1, 0, v.2) ∧ v.1 ≠ 0) (fun E v _ => E = exN v.1) (va_A [] sz)) 1 6 (va_A [] sz) := by
  refine vx_ofW (cc := cX1_objectOf) (maxL := 3) (ret := (some .int)) (by decide) rfl ?_
  intro p e s m args below meth c s₁ B hml hEx hv
  obtain ⟨rfl, hsz, hP, hK, hE, hX⟩ := hv
  have hx := B.exec
  have hb := B.bytes
  have hr := B.returns
  have ht : ∀ w ∈ gT, w.before ([.ref cx, .int ip] : List Value).toArray s = true := fun w h => atoms_spec (ws := kX1_objectOf :: gT) B.pre w (List.mem_cons_of_mem _ h)
  have hown : s.vm.findClass RX1 = some m.cls := findClass_of_methodNamed B.named
  have hlocks := B.notSynchronized
  subst hsz
  generalize hAe : va_A [] s.heap.size = A at hX ⊢
  have hA : ∀ q : Nat, s.heap.size ≤ q → A q := fun q h => by rw [← hAe]; exact Or.inr h
  have hS : va_S A s.heap s.heap [] := va_S.rf
  have hl := lv_entry ([.ref cx, .int ip]) (n := 3) (Nat.le_of_ble_eq_true rfl)
  rw [lg_entry_eq]
  generalize (lg_sl ([.ref cx, .int ip]) ++ List.replicate (3 - (lg_sl ([.ref cx, .int ip])).length) Slot.unset).toArray = ls at hl ⊢
  have hl : lv_has ls 3 [(0, .ref cx), (1, .int ip)] := hl
  refine lv_aload_n hx hb dX1_objectOf_0 rfl (lv_at hl 0 rfl) ?_
  refine va_get (D := (dC, dI)) (ci := 1) (v := .ref ar) (C := RX1) (T := TX1) (N := 5) hx hb ht iX1 hown hK hP 0 rfl rfl 0 (by decide) (ht _ g_38) (fun _ h9 => h9) rfl dX1_objectOf_1 ?_
  refine lv_iload_n hx hb dX1_objectOf_4 rfl (lv_at hl 1 rfl) ?_
  refine va_iald hx hb hK hP 1 0 rfl rfl hi dX1_objectOf_5 ?_
  refine lv_istore_n (lv' := [(2, .int (rg ip.toNatClampNeg)), (0, .ref cx), (1, .int ip)]) hx hb dX1_objectOf_6 rfl hl (by decide) rfl (fun ls hl => ?_)
  refine lv_iload_n hx hb dX1_objectOf_7 rfl (lv_at hl 0 rfl) ?_
  refine vp_callSi (va_runS (As := [.int (rg ip.toNatClampNeg)]) (rest := []) ⟨hx, hb, hml, hown, ht⟩ (ctX1_isReference l (rg ip.toNatClampNeg)) (cwS 1 ht gcX1_61 rfl rfl rfl (by decide +kernel) ⟨Nat.le_of_ble_eq_true rfl, Nat.le_of_ble_eq_true rfl⟩) ⟨pT.blind, pT.call⟩ rfl rfl hl.1 rfl (lv_room (Nat.le_of_ble_eq_true rfl)) dX1_objectOf_8 ⟨Nat.le_of_ble_eq_true rfl, Nat.le_of_ble_eq_true rfl⟩).run (fun r_1 hr_1 => ?_)
  subst hr_1
  refine lv_if_ne (tgt := 24) hx hb dX1_objectOf_11 (by decide) (fun c_2 => ?_) (fun c_2 => ?_)
  · refine lv_iload_n hx hb dX1_objectOf_24 rfl (lv_at hl 0 rfl) ?_
    refine vp_callSi (va_runS (As := [.int (rg ip.toNatClampNeg)]) (rest := []) ⟨hx, hb, hml, hown, ht⟩ (ctX1_content l (rg ip.toNatClampNeg)) (cwS 1 ht gcX1_58 rfl rfl rfl (by decide +kernel) ⟨Nat.le_of_ble_eq_true rfl, Nat.le_of_ble_eq_true rfl⟩) ⟨pT.blind, pT.call⟩ rfl rfl hl.1 rfl (lv_room (Nat.le_of_ble_eq_true rfl)) dX1_objectOf_25 ⟨Nat.le_of_ble_eq_true rfl, Nat.le_of_ble_eq_true rfl⟩).run (fun r_3 hr_3 => ?_)
    subst hr_3
    refine vx_ret ?_
    refine W.widen (k := 1) (n := 6) (Nat.le_of_ble_eq_true rfl) (Nat.le_of_ble_eq_true rfl) ?_
    exact W.iret (v := fX1_content (rg ip.toNatClampNeg)) hx hb hr (fun t ht hW => ⟨⟨_, (), rfl, (by simp only [fX1_objectOf, if_neg c_2]), trivial⟩, hS.F ht⟩) hS.2.2 dX1_objectOf_28
  · exact vx_throwS (own := RX1) (cls := "java/lang/IllegalStateException") (names := ["java/lang/RuntimeException", "java/lang/Exception"]) hx hb hl9 hown (by decide +kernel) (by decide +kernel) (ht _ g_197) (ht _ g_8) hX.s124 (thS ht hE) toS hX.zU hX.zN hS (hl.1.trans hml.symm) dX1_objectOf_14 dX1_objectOf_17 dX1_objectOf_18 dX1_objectOf_20 dX1_objectOf_23 (fun x hx => (hEx x hx).elim) (Nat.le_of_ble_eq_true rfl) (Nat.le_of_ble_eq_true rfl) (Nat.le_of_ble_eq_true rfl) (Nat.le_of_ble_eq_true rfl) hlocks (fun t ha hsz hk => ⟨(2, ()), ⟨(by simp only [fX1_objectOf, if_pos c_2]), Nat.succ_ne_zero _⟩, rfl, Nat.le_trans hS.1 hsz, fun q h1 h2 => (hk q (Nat.lt_of_lt_of_le h1 hS.1)).trans (hS.2.1 q h1 h2)⟩) hS.2.2 (Nat.le_of_ble_eq_true rfl) (Nat.le_of_ble_eq_true rfl)
def fX1_requireField (n : Nat) (f : Nat → Int32) (ip : Int32) (iq : Int32) : Nat × Int32 × Unit := (if iq < 0 then (3, 0, ()) else (if iq < fX0_fieldsAt n f ip then (0, 0, ()) else (3, 0, ())))
set_option maxHeartbeats 4000000 in
set_option maxRecDepth 100000 in
theorem ctX1_requireField (l : Launch) (hl9 : l.stackTraces = false) (dC : Nat → ClassId) (dI : Nat → Nat → Nat) (cI : ClassId) (sa : Nat → Nat) (cx : Nat) (ar : Nat) (ha : Nat) (wa : Nat) (hz : Nat) (n : Nat) (col : Int32) (mov : Int32) (us : Int32) (ob : Int32) (f : Nat → Int32) (ip : Int32) (iq : Int32) (sz : Nat) (hn : n < 2 ^ 31) : vx_Met l yX1_requireField (kX1_requireField :: gT) ({ frames := 6, cells := 1, slots := 6, locals := 90 }) (va_Pc [.ref cx, .int ip, .int iq] (pR (dC, dI) [(cx, .inr (1, [.ref ar, .ref ha, .ref hz, .int col, .int mov])), (ha, .inr (0, [.ref wa, .int us, .int ob])), (wa, .inl (cI, n, .inl f))] [(cI, .int)] sa sz)) (va_Qv (fun u : Unit => fX1_requireField n f ip iq = (0, 0, u)) (fun _ _ => True) (va_A [] sz)) (vx_X (fun v : Nat × Unit => fX1_requireField n f ip iq = (v.1, 0, v.2) ∧ v.1 ≠ 0) (fun E v _ => E = exN v.1) (va_A [] sz)) 1 6 (va_A [] sz) := by
  refine vx_ofW (cc := cX1_requireField) (maxL := 3) (ret := none) (by decide) rfl ?_
  intro p e s m args below meth c s₁ B hml hEx hv
  obtain ⟨rfl, hsz, hP, hK, hE, hX⟩ := hv
  have hx := B.exec
  have hb := B.bytes
  have hr := B.returns
  have ht : ∀ w ∈ gT, w.before ([.ref cx, .int ip, .int iq] : List Value).toArray s = true := fun w h => atoms_spec (ws := kX1_requireField :: gT) B.pre w (List.mem_cons_of_mem _ h)
  have hown : s.vm.findClass RX1 = some m.cls := findClass_of_methodNamed B.named
  have hlocks := B.notSynchronized
  subst hsz
  generalize hAe : va_A [] s.heap.size = A at hX ⊢
  have hA : ∀ q : Nat, s.heap.size ≤ q → A q := fun q h => by rw [← hAe]; exact Or.inr h
  have hS : va_S A s.heap s.heap [] := va_S.rf
  have hl := lv_entry ([.ref cx, .int ip, .int iq]) (n := 3) (Nat.le_of_ble_eq_true rfl)
  rw [lg_entry_eq]
  generalize (lg_sl ([.ref cx, .int ip, .int iq]) ++ List.replicate (3 - (lg_sl ([.ref cx, .int ip, .int iq])).length) Slot.unset).toArray = ls at hl ⊢
  have hl : lv_has ls 3 [(0, .ref cx), (1, .int ip), (2, .int iq)] := hl
  refine lv_iload_n hx hb dX1_requireField_0 rfl (lv_at hl 2 rfl) ?_
  refine lv_if_lt (tgt := 16) hx hb dX1_requireField_1 (by decide) (fun c_1 => ?_) (fun c_1 => ?_)
  · exact vx_throwS (own := RX1) (cls := "java/lang/IndexOutOfBoundsException") (names := ["java/lang/RuntimeException", "java/lang/Exception"]) hx hb hl9 hown (by decide +kernel) (by decide +kernel) (ht _ g_255) (ht _ g_9) hX.s122 (thI ht hE) toI hX.zU hX.zN hS (hl.1.trans hml.symm) dX1_requireField_16 dX1_requireField_19 dX1_requireField_20 dX1_requireField_22 dX1_requireField_25 (fun x hx => (hEx x hx).elim) (Nat.le_of_ble_eq_true rfl) (Nat.le_of_ble_eq_true rfl) (Nat.le_of_ble_eq_true rfl) (Nat.le_of_ble_eq_true rfl) hlocks (fun t ha hsz hk => ⟨(3, ()), ⟨(by simp only [fX1_requireField, if_pos c_1]), Nat.succ_ne_zero _⟩, rfl, Nat.le_trans hS.1 hsz, fun q h1 h2 => (hk q (Nat.lt_of_lt_of_le h1 hS.1)).trans (hS.2.1 q h1 h2)⟩) hS.2.2 (Nat.le_of_ble_eq_true rfl) (Nat.le_of_ble_eq_true rfl)
  · refine lv_iload_n hx hb dX1_requireField_4 rfl (lv_at hl 2 rfl) ?_
    refine lv_aload_n hx hb dX1_requireField_5 rfl (lv_at hl 0 rfl) ?_
    refine va_get (D := (dC, dI)) (ci := 1) (v := .ref ha) (C := RX1) (T := TX1) (N := 5) hx hb ht iX1 hown hK hP 0 rfl rfl 1 (by decide) (ht _ g_39) (fun _ h9 => h9) rfl dX1_requireField_6 ?_
    refine lv_iload_n hx hb dX1_requireField_9 rfl (lv_at hl 1 rfl) ?_
    have hPc := hP.sub (ws' := [(ha, .inr (0, [.ref wa, .int us, .int ob])), (wa, .inl (cI, n, .inl f))]) [1, 2] rfl
    have hKc := hK.sub (tys' := [(cI, .int)]) [0] rfl
    refine vp_callSi (va_runV (As := [.int ip]) (rest := [.int iq]) ⟨hx, hb, hml, hown, ht⟩ (ctX0_fieldsAt l dC dI cI ha wa n us ob f ip hn) (cwV 1 ht gcX1_88 rfl rfl rfl (by decide +kernel) ⟨Nat.le_of_ble_eq_true rfl, Nat.le_of_ble_eq_true rfl⟩) ⟨pS.blind, va_recv hKc hPc (ci := 0) (q0 := 0) rfl rfl, pS.call hPc hKc hE⟩ rfl rfl hl.1 rfl (lv_room (Nat.le_of_ble_eq_true rfl)) dX1_requireField_10 ⟨Nat.le_of_ble_eq_true rfl, Nat.le_of_ble_eq_true rfl⟩).run (fun r_2 hr_2 => ?_)
    subst hr_2
    refine lv_icmp_lt (tgt := 26) hx hb dX1_requireField_13 (by decide) (fun c_3 => ?_) (fun c_3 => ?_)
    · refine vx_ret ?_
      refine W.widen (k := 1) (n := 6) (Nat.le_of_ble_eq_true rfl) (Nat.le_of_ble_eq_true rfl) ?_
      exact W.vret hx hb hr (fun t ht hW => ⟨⟨(), rfl, (by simp only [fX1_requireField, if_neg c_1, if_pos c_3]), trivial⟩, hS.F ht⟩) hS.2.2 dX1_requireField_26
    · exact vx_throwS (own := RX1) (cls := "java/lang/IndexOutOfBoundsException") (names := ["java/lang/RuntimeException", "java/lang/Exception"]) hx hb hl9 hown (by decide +kernel) (by decide +kernel) (ht _ g_255) (ht _ g_9) hX.s122 (thI ht hE) toI hX.zU hX.zN hS (hl.1.trans hml.symm) dX1_requireField_16 dX1_requireField_19 dX1_requireField_20 dX1_requireField_22 dX1_requireField_25 (fun x hx => (hEx x hx).elim) (Nat.le_of_ble_eq_true rfl) (Nat.le_of_ble_eq_true rfl) (Nat.le_of_ble_eq_true rfl) (Nat.le_of_ble_eq_true rfl) hlocks (fun t ha hsz hk => ⟨(3, ()), ⟨(by simp only [fX1_requireField, if_neg c_1, if_neg c_3]), Nat.succ_ne_zero _⟩, rfl, Nat.le_trans hS.1 hsz, fun q h1 h2 => (hk q (Nat.lt_of_lt_of_le h1 hS.1)).trans (hS.2.1 q h1 h2)⟩) hS.2.2 (Nat.le_of_ble_eq_true rfl) (Nat.le_of_ble_eq_true rfl)
def fX1_number (rg : Nat → Int32) (us : Int32) (ob : Int32) (f : Nat → Int32) (us2 : Int32) (ob2 : Int32) (f2 : Nat → Int32) (col : Int32) (mov : Int32) (ip : Int32) (iq : Int32) : Nat × Int32 × (Nat → Int32) × Int32 × Int32 × (Nat → Int32) × Int32 × Int32 × (Nat → Int32) × Int32 × Int32 := (if (fX1_requireRegister ip).1 = 0 then (0, fX1_content ((upd rg ip.toNatClampNeg (fX1_asNumber iq)) ip.toNatClampNeg), (upd rg ip.toNatClampNeg (fX1_asNumber iq), us, ob, f, us2, ob2, f2, col, mov)) else ((fX1_requireRegister ip).1, 0, (rg, us, ob, f, us2, ob2, f2, col, mov)))
abbrev atX1_number (dC : Nat → ClassId) (dI : Nat → Nat → Nat) (cI : ClassId) (A : Nat → Prop) (cx : Nat) (ar : Nat) (ha : Nat) (wa : Nat) (hz : Nat) (wz : Nat) (n : Nat) (u : (Nat → Int32) × Int32 × Int32 × (Nat → Int32) × Int32 × Int32 × (Nat → Int32) × Int32 × Int32) (t : State) : Prop := va_P (dC, dI) vwCl [(cx, .inr (1, [.ref ar, .ref ha, .ref hz, .int u.2.2.2.2.2.2.2.1, .int u.2.2.2.2.2.2.2.2])), (ar, .inl (cI, 8, .inl u.1)), (ha, .inr (0, [.ref wa, .int u.2.1, .int u.2.2.1])), (wa, .inl (cI, n, .inl u.2.2.2.1)), (hz, .inr (0, [.ref wz, .int u.2.2.2.2.1, .int u.2.2.2.2.2.1])), (wz, .inl (cI, n, .inl u.2.2.2.2.2.2.1))] t.heap ∧ va_K (dC, dI) vwCl [(cI, .int)] t ∧ va_D A [(cx, .inr (1, [.ref ar, .ref ha, .ref hz, .int u.2.2.2.2.2.2.2.1, .int u.2.2.2.2.2.2.2.2])), (ar, .inl (cI, 8, .inl u.1)), (ha, .inr (0, [.ref wa, .int u.2.1, .int u.2.2.1])), (wa, .inl (cI, n, .inl u.2.2.2.1)), (hz, .inr (0, [.ref wz, .int u.2.2.2.2.1, .int u.2.2.2.2.2.1])), (wz, .inl (cI, n, .inl u.2.2.2.2.2.2.1))]
set_option maxHeartbeats 4000000 in
set_option maxRecDepth 100000 in
theorem ctX1_number (l : Launch) (hl9 : l.stackTraces = false) (dC : Nat → ClassId) (dI : Nat → Nat → Nat) (cI : ClassId) (sa : Nat → Nat) (cx : Nat) (ar : Nat) (ha : Nat) (wa : Nat) (hz : Nat) (wz : Nat) (n : Nat) (col : Int32) (mov : Int32) (rg : Nat → Int32) (us : Int32) (ob : Int32) (f : Nat → Int32) (us2 : Int32) (ob2 : Int32) (f2 : Nat → Int32) (ip : Int32) (iq : Int32) (sz : Nat) (hn : n < 2 ^ 31) : vx_Met l yX1_number (kX1_number :: gT) ({ frames := 7, cells := 5, slots := 30, locals := 120 }) (va_Pc [.ref cx, .int ip, .int iq] (pY (dC, dI) [(cx, .inr (1, [.ref ar, .ref ha, .ref hz, .int col, .int mov])), (ar, .inl (cI, 8, .inl rg)), (ha, .inr (0, [.ref wa, .int us, .int ob])), (wa, .inl (cI, n, .inl f)), (hz, .inr (0, [.ref wz, .int us2, .int ob2])), (wz, .inl (cI, n, .inl f2))] [(cI, .int)] sa sz)) (va_Qi (fun (r : Int32) (u : (Nat → Int32) × Int32 × Int32 × (Nat → Int32) × Int32 × Int32 × (Nat → Int32) × Int32 × Int32) => fX1_number rg us ob f us2 ob2 f2 col mov ip iq = (0, r, u)) (atX1_number dC dI cI (va_A [(cx, .inr (1, [.ref ar, .ref ha, .ref hz, .int col, .int mov])), (ar, .inl (cI, 8, .inl rg)), (ha, .inr (0, [.ref wa, .int us, .int ob])), (wa, .inl (cI, n, .inl f)), (hz, .inr (0, [.ref wz, .int us2, .int ob2])), (wz, .inl (cI, n, .inl f2))] sz) cx ar ha wa hz wz n) (va_A [(cx, .inr (1, [.ref ar, .ref ha, .ref hz, .int col, .int mov])), (ar, .inl (cI, 8, .inl rg)), (ha, .inr (0, [.ref wa, .int us, .int ob])), (wa, .inl (cI, n, .inl f)), (hz, .inr (0, [.ref wz, .int us2, .int ob2])), (wz, .inl (cI, n, .inl f2))] sz)) (vx_X (fun v : Nat × ((Nat → Int32) × Int32 × Int32 × (Nat → Int32) × Int32 × Int32 × (Nat → Int32) × Int32 × Int32) => fX1_number rg us ob f us2 ob2 f2 col mov ip iq = (v.1, 0, v.2) ∧ v.1 ≠ 0) (fun E v t => E = exN v.1 ∧ atX1_number dC dI cI (va_A [(cx, .inr (1, [.ref ar, .ref ha, .ref hz, .int col, .int mov])), (ar, .inl (cI, 8, .inl rg)), (ha, .inr (0, [.ref wa, .int us, .int ob])), (wa, .inl (cI, n, .inl f)), (hz, .inr (0, [.ref wz, .int us2, .int ob2])), (wz, .inl (cI, n, .inl f2))] sz) cx ar ha wa hz wz n v.2 t) (va_A [(cx, .inr (1, [.ref ar, .ref ha, .ref hz, .int col, .int mov])), (ar, .inl (cI, 8, .inl rg)), (ha, .inr (0, [.ref wa, .int us, .int ob])), (wa, .inl (cI, n, .inl f)), (hz, .inr (0, [.ref wz, .int us2, .int ob2])), (wz, .inl (cI, n, .inl f2))] sz)) 5 30 (va_A [(cx, .inr (1, [.ref ar, .ref ha, .ref hz, .int col, .int mov])), (ar, .inl (cI, 8, .inl rg)), (ha, .inr (0, [.ref wa, .int us, .int ob])), (wa, .inl (cI, n, .inl f)), (hz, .inr (0, [.ref wz, .int us2, .int ob2])), (wz, .inl (cI, n, .inl f2))] sz) := by
  refine vx_ofW (cc := cX1_number) (maxL := 3) (ret := (some .int)) (by decide) rfl ?_
  intro p e s m args below meth c s₁ B hml hEx hv
  obtain ⟨rfl, hsz, hP, hK, hD0, hE, hX⟩ := hv
  have hx := B.exec
  have hb := B.bytes
  have hr := B.returns
  have ht : ∀ w ∈ gT, w.before ([.ref cx, .int ip, .int iq] : List Value).toArray s = true := fun w h => atoms_spec (ws := kX1_number :: gT) B.pre w (List.mem_cons_of_mem _ h)
  have hown : s.vm.findClass RX1 = some m.cls := findClass_of_methodNamed B.named
  have hlocks := B.notSynchronized
  subst hsz
  have hD := hD0.self (sz := s.heap.size)
  generalize hAe : va_A [(cx, .inr (1, [.ref ar, .ref ha, .ref hz, .int col, .int mov])), (ar, .inl (cI, 8, .inl rg)), (ha, .inr (0, [.ref wa, .int us, .int ob])), (wa, .inl (cI, n, .inl f)), (hz, .inr (0, [.ref wz, .int us2, .int ob2])), (wz, .inl (cI, n, .inl f2))] s.heap.size = A at hD hX ⊢
  have hA : ∀ q : Nat, s.heap.size ≤ q → A q := fun q h => by rw [← hAe]; exact Or.inr h
  have hS : va_S A s.heap s.heap [] := va_S.rf
  have hl := lv_entry ([.ref cx, .int ip, .int iq]) (n := 3) (Nat.le_of_ble_eq_true rfl)
  rw [lg_entry_eq]
  generalize (lg_sl ([.ref cx, .int ip, .int iq]) ++ List.replicate (3 - (lg_sl ([.ref cx, .int ip, .int iq])).length) Slot.unset).toArray = ls at hl ⊢
  have hl : lv_has ls 3 [(0, .ref cx), (1, .int ip), (2, .int iq)] := hl
  refine lv_iload_n hx hb dX1_number_0 rfl (lv_at hl 1 rfl) ?_
  have hPc := hP.sub (ws' := []) [] rfl
  have hKc := hK.sub (tys' := []) [] rfl
  have hFc := nilF hS hA
  refine vx_callv (vx_runS (As := [.int ip]) (rest := []) ⟨hx, hb, hml, hown, ht⟩ (ctX1_requireRegister l hl9 dC dI cI sa ip _ ) (cwS 1 ht gcX1_25 rfl rfl rfl (by decide +kernel) ⟨Nat.le_of_ble_eq_true rfl, Nat.le_of_ble_eq_true rfl⟩) ⟨pR.blind, pR.call hPc hKc hE hX hS hFc⟩ rfl rfl hl.1 rfl (lv_room (Nat.le_of_ble_eq_true rfl)) dX1_number_1 ⟨Nat.le_of_ble_eq_true rfl, Nat.le_of_ble_eq_true rfl⟩) hS (fun q _ h => hFc q h) hFc (fun q _ h => hFc q h) (fun E ce q9 u_1 t H1 locs ht9 hvm hp hB hz1 hk1 hS hce hcv hcl => ?_) (fun u_1 t H1 locs ht9 hvm hw hB hz1 hk1 hS => ?_)
  · obtain ⟨hpe, hpk⟩ := hp
    have hB := hB
    obtain rfl : u_1 = ((fX1_requireRegister ip).1, (fX1_requireRegister ip).2.2) := by rw [hpe]
    have c_3 : ¬ (fX1_requireRegister ip).1 = 0 := hpk
    subst hB
    have hP1 := nilP (D := (dC, dI)) (H := H1)
    have hP := rKeep hP hk1
    generalize H1 = H at hP hS hce ⊢
    have hP9 := hP.sub (ws' := [(cx, .inr (1, [.ref ar, .ref ha, .ref hz, .int col, .int mov])), (ar, .inl (cI, 8, .inl rg)), (ha, .inr (0, [.ref wa, .int us, .int ob])), (wa, .inl (cI, n, .inl f)), (hz, .inr (0, [.ref wz, .int us2, .int ob2])), (wz, .inl (cI, n, .inl f2))]) [0, 1, 2, 3, 4, 5] rfl
    have hD9 := hD.sub (ws' := [(cx, .inr (1, [.ref ar, .ref ha, .ref hz, .int col, .int mov])), (ar, .inl (cI, 8, .inl rg)), (ha, .inr (0, [.ref wa, .int us, .int ob])), (wa, .inl (cI, n, .inl f)), (hz, .inr (0, [.ref wz, .int us2, .int ob2])), (wz, .inl (cI, n, .inl f2))]) [0, 1, 2, 3, 4, 5] (by decide) rfl
    have hK9 := hK.sub (tys' := [(cI, .int)]) [0] rfl
    exact vx_out (fun x hx => (hEx x hx).elim) hlocks hce hcv hcl (fun t ht ha => ⟨((fX1_requireRegister ip).1, (rg, us, ob, f, us2, ob2, f2, col, mov)), ⟨(by simp only [fX1_number, if_neg c_3]), hpk⟩, ⟨rfl, by rw [ht]; exact hP9, va_K.moved ha hK9, hD9⟩, hS.F ht⟩) hS.2.2 (Nat.le_of_ble_eq_true rfl) (Nat.le_of_ble_eq_true rfl)
  · have c_3 : (fX1_requireRegister ip).1 = 0 := by rw [hw]
    have hP := rKeep hP hk1
    generalize H1 = H at hP hS ⊢
    refine lv_aload_n hx hb dX1_number_4 rfl (lv_at hl 0 rfl) ?_
    refine va_get (D := (dC, dI)) (ci := 1) (v := .ref ar) (C := RX1) (T := TX1) (N := 5) hx hb ht iX1 hown hK hP 0 rfl rfl 0 (by decide) (ht _ g_38) (fun _ h9 => h9) rfl dX1_number_5 ?_
    refine lv_iload_n hx hb dX1_number_8 rfl (lv_at hl 1 rfl) ?_
    refine lv_iload_n hx hb dX1_number_9 rfl (lv_at hl 2 rfl) ?_
    refine vp_callSi (va_runS (As := [.int iq]) (rest := [.int ip, .ref ar]) ⟨hx, hb, hml, hown, ht⟩ (ctX1_asNumber l iq) (cwS 1 ht gcX1_55 rfl rfl rfl (by decide +kernel) ⟨Nat.le_of_ble_eq_true rfl, Nat.le_of_ble_eq_true rfl⟩) ⟨pT.blind, pT.call⟩ rfl rfl hl.1 rfl (lv_room (Nat.le_of_ble_eq_true rfl)) dX1_number_10 ⟨Nat.le_of_ble_eq_true rfl, Nat.le_of_ble_eq_true rfl⟩).run (fun r_4 hr_4 => ?_)
    subst hr_4
    refine va_iast hx hb hK hP hD hS 1 0 rfl rfl (rrIn c_3) dX1_number_13 (fun H locs hP hD hS => ?_)
    have hP : va_P (dC, dI) vwCl [(cx, .inr (1, [.ref ar, .ref ha, .ref hz, .int col, .int mov])), (ar, .inl (cI, 8, .inl (upd rg ip.toNatClampNeg (fX1_asNumber iq)))), (ha, .inr (0, [.ref wa, .int us, .int ob])), (wa, .inl (cI, n, .inl f)), (hz, .inr (0, [.ref wz, .int us2, .int ob2])), (wz, .inl (cI, n, .inl f2))] H := hP
    have hD : va_D A [(cx, .inr (1, [.ref ar, .ref ha, .ref hz, .int col, .int mov])), (ar, .inl (cI, 8, .inl (upd rg ip.toNatClampNeg (fX1_asNumber iq)))), (ha, .inr (0, [.ref wa, .int us, .int ob])), (wa, .inl (cI, n, .inl f)), (hz, .inr (0, [.ref wz, .int us2, .int ob2])), (wz, .inl (cI, n, .inl f2))] := hD
    refine lv_aload_n hx hb dX1_number_14 rfl (lv_at hl 0 rfl) ?_
    refine va_get (D := (dC, dI)) (ci := 1) (v := .ref ar) (C := RX1) (T := TX1) (N := 5) hx hb ht iX1 hown hK hP 0 rfl rfl 0 (by decide) (ht _ g_38) (fun _ h9 => h9) rfl dX1_number_15 ?_
    refine lv_iload_n hx hb dX1_number_18 rfl (lv_at hl 1 rfl) ?_
    refine va_iald hx hb hK hP 1 0 rfl rfl (rrIn c_3) dX1_number_19 ?_
    refine vp_callSi (va_runS (As := [.int ((upd rg ip.toNatClampNeg (fX1_asNumber iq)) ip.toNatClampNeg)]) (rest := []) ⟨hx, hb, hml, hown, ht⟩ (ctX1_content l ((upd rg ip.toNatClampNeg (fX1_asNumber iq)) ip.toNatClampNeg)) (cwS 1 ht gcX1_58 rfl rfl rfl (by decide +kernel) ⟨Nat.le_of_ble_eq_true rfl, Nat.le_of_ble_eq_true rfl⟩) ⟨pT.blind, pT.call⟩ rfl rfl hl.1 rfl (lv_room (Nat.le_of_ble_eq_true rfl)) dX1_number_20 ⟨Nat.le_of_ble_eq_true rfl, Nat.le_of_ble_eq_true rfl⟩).run (fun r_5 hr_5 => ?_)
    subst hr_5
    refine vx_ret ?_
    refine W.widen (k := 5) (n := 30) (Nat.le_of_ble_eq_true rfl) (Nat.le_of_ble_eq_true rfl) ?_
    have hP9 := hP.sub (ws' := [(cx, .inr (1, [.ref ar, .ref ha, .ref hz, .int col, .int mov])), (ar, .inl (cI, 8, .inl (upd rg ip.toNatClampNeg (fX1_asNumber iq)))), (ha, .inr (0, [.ref wa, .int us, .int ob])), (wa, .inl (cI, n, .inl f)), (hz, .inr (0, [.ref wz, .int us2, .int ob2])), (wz, .inl (cI, n, .inl f2))]) [0, 1, 2, 3, 4, 5] rfl
    have hD9 := hD.sub (ws' := [(cx, .inr (1, [.ref ar, .ref ha, .ref hz, .int col, .int mov])), (ar, .inl (cI, 8, .inl (upd rg ip.toNatClampNeg (fX1_asNumber iq)))), (ha, .inr (0, [.ref wa, .int us, .int ob])), (wa, .inl (cI, n, .inl f)), (hz, .inr (0, [.ref wz, .int us2, .int ob2])), (wz, .inl (cI, n, .inl f2))]) [0, 1, 2, 3, 4, 5] (by decide) rfl
    have hK9 := hK.sub (tys' := [(cI, .int)]) [0] rfl
    exact W.iret (v := fX1_content ((upd rg ip.toNatClampNeg (fX1_asNumber iq)) ip.toNatClampNeg)) hx hb hr (fun t ht hW => ⟨⟨_, (upd rg ip.toNatClampNeg (fX1_asNumber iq), us, ob, f, us2, ob2, f2, col, mov), rfl, (by simp only [fX1_number, if_pos c_3]), by rw [ht]; exact hP9, va_K.moved hW.alike hK9, hD9⟩, hS.F ht⟩) hS.2.2 dX1_number_23
def fX1_copy (rg : Nat → Int32) (us : Int32) (ob : Int32) (f : Nat → Int32) (us2 : Int32) (ob2 : Int32) (f2 : Nat → Int32) (col : Int32) (mov : Int32) (ip : Int32) (iq : Int32) : Nat × Int32 × (Nat → Int32) × Int32 × Int32 × (Nat → Int32) × Int32 × Int32 × (Nat → Int32) × Int32 × Int32 := (if (fX1_requireRegister ip).1 = 0 then (if (fX1_requireRegister iq).1 = 0 then (0, fX1_isReference ((upd rg ip.toNatClampNeg (rg iq.toNatClampNeg)) ip.toNatClampNeg), (upd rg ip.toNatClampNeg (rg iq.toNatClampNeg), us, ob, f, us2, ob2, f2, col, mov)) else ((fX1_requireRegister iq).1, 0, (rg, us, ob, f, us2, ob2, f2, col, mov))) else ((fX1_requireRegister ip).1, 0, (rg, us, ob, f, us2, ob2, f2, col, mov)))
abbrev atX1_copy (dC : Nat → ClassId) (dI : Nat → Nat → Nat) (cI : ClassId) (A : Nat → Prop) (cx : Nat) (ar : Nat) (ha : Nat) (wa : Nat) (hz : Nat) (wz : Nat) (n : Nat) (u : (Nat → Int32) × Int32 × Int32 × (Nat → Int32) × Int32 × Int32 × (Nat → Int32) × Int32 × Int32) (t : State) : Prop := va_P (dC, dI) vwCl [(cx, .inr (1, [.ref ar, .ref ha, .ref hz, .int u.2.2.2.2.2.2.2.1, .int u.2.2.2.2.2.2.2.2])), (ar, .inl (cI, 8, .inl u.1)), (ha, .inr (0, [.ref wa, .int u.2.1, .int u.2.2.1])), (wa, .inl (cI, n, .inl u.2.2.2.1)), (hz, .inr (0, [.ref wz, .int u.2.2.2.2.1, .int u.2.2.2.2.2.1])), (wz, .inl (cI, n, .inl u.2.2.2.2.2.2.1))] t.heap ∧ va_K (dC, dI) vwCl [(cI, .int)] t ∧ va_D A [(cx, .inr (1, [.ref ar, .ref ha, .ref hz, .int u.2.2.2.2.2.2.2.1, .int u.2.2.2.2.2.2.2.2])), (ar, .inl (cI, 8, .inl u.1)), (ha, .inr (0, [.ref wa, .int u.2.1, .int u.2.2.1])), (wa, .inl (cI, n, .inl u.2.2.2.1)), (hz, .inr (0, [.ref wz, .int u.2.2.2.2.1, .int u.2.2.2.2.2.1])), (wz, .inl (cI, n, .inl u.2.2.2.2.2.2.1))]
set_option maxHeartbeats 4000000 in
set_option maxRecDepth 100000 in
theorem ctX1_copy (l : Launch) (hl9 : l.stackTraces = false) (dC : Nat → ClassId) (dI : Nat → Nat → Nat) (cI : ClassId) (sa : Nat → Nat) (cx : Nat) (ar : Nat) (ha : Nat) (wa : Nat) (hz : Nat) (wz : Nat) (n : Nat) (col : Int32) (mov : Int32) (rg : Nat → Int32) (us : Int32) (ob : Int32) (f : Nat → Int32) (us2 : Int32) (ob2 : Int32) (f2 : Nat → Int32) (ip : Int32) (iq : Int32) (sz : Nat) (hn : n < 2 ^ 31) : vx_Met l yX1_copy (kX1_copy :: gT) ({ frames := 7, cells := 5, slots := 30, locals := 120 }) (va_Pc [.ref cx, .int ip, .int iq] (pY (dC, dI) [(cx, .inr (1, [.ref ar, .ref ha, .ref hz, .int col, .int mov])), (ar, .inl (cI, 8, .inl rg)), (ha, .inr (0, [.ref wa, .int us, .int ob])), (wa, .inl (cI, n, .inl f)), (hz, .inr (0, [.ref wz, .int us2, .int ob2])), (wz, .inl (cI, n, .inl f2))] [(cI, .int)] sa sz)) (va_Qi (fun (r : Int32) (u : (Nat → Int32) × Int32 × Int32 × (Nat → Int32) × Int32 × Int32 × (Nat → Int32) × Int32 × Int32) => fX1_copy rg us ob f us2 ob2 f2 col mov ip iq = (0, r, u)) (atX1_copy dC dI cI (va_A [(cx, .inr (1, [.ref ar, .ref ha, .ref hz, .int col, .int mov])), (ar, .inl (cI, 8, .inl rg)), (ha, .inr (0, [.ref wa, .int us, .int ob])), (wa, .inl (cI, n, .inl f)), (hz, .inr (0, [.ref wz, .int us2, .int ob2])), (wz, .inl (cI, n, .inl f2))] sz) cx ar ha wa hz wz n) (va_A [(cx, .inr (1, [.ref ar, .ref ha, .ref hz, .int col, .int mov])), (ar, .inl (cI, 8, .inl rg)), (ha, .inr (0, [.ref wa, .int us, .int ob])), (wa, .inl (cI, n, .inl f)), (hz, .inr (0, [.ref wz, .int us2, .int ob2])), (wz, .inl (cI, n, .inl f2))] sz)) (vx_X (fun v : Nat × ((Nat → Int32) × Int32 × Int32 × (Nat → Int32) × Int32 × Int32 × (Nat → Int32) × Int32 × Int32) => fX1_copy rg us ob f us2 ob2 f2 col mov ip iq = (v.1, 0, v.2) ∧ v.1 ≠ 0) (fun E v t => E = exN v.1 ∧ atX1_copy dC dI cI (va_A [(cx, .inr (1, [.ref ar, .ref ha, .ref hz, .int col, .int mov])), (ar, .inl (cI, 8, .inl rg)), (ha, .inr (0, [.ref wa, .int us, .int ob])), (wa, .inl (cI, n, .inl f)), (hz, .inr (0, [.ref wz, .int us2, .int ob2])), (wz, .inl (cI, n, .inl f2))] sz) cx ar ha wa hz wz n v.2 t) (va_A [(cx, .inr (1, [.ref ar, .ref ha, .ref hz, .int col, .int mov])), (ar, .inl (cI, 8, .inl rg)), (ha, .inr (0, [.ref wa, .int us, .int ob])), (wa, .inl (cI, n, .inl f)), (hz, .inr (0, [.ref wz, .int us2, .int ob2])), (wz, .inl (cI, n, .inl f2))] sz)) 5 30 (va_A [(cx, .inr (1, [.ref ar, .ref ha, .ref hz, .int col, .int mov])), (ar, .inl (cI, 8, .inl rg)), (ha, .inr (0, [.ref wa, .int us, .int ob])), (wa, .inl (cI, n, .inl f)), (hz, .inr (0, [.ref wz, .int us2, .int ob2])), (wz, .inl (cI, n, .inl f2))] sz) := by
  refine vx_ofW (cc := cX1_copy) (maxL := 3) (ret := (some .boolean)) (by decide) rfl ?_
  intro p e s m args below meth c s₁ B hml hEx hv
  obtain ⟨rfl, hsz, hP, hK, hD0, hE, hX⟩ := hv
  have hx := B.exec
  have hb := B.bytes
  have hr := B.returns
  have ht : ∀ w ∈ gT, w.before ([.ref cx, .int ip, .int iq] : List Value).toArray s = true := fun w h => atoms_spec (ws := kX1_copy :: gT) B.pre w (List.mem_cons_of_mem _ h)
  have hown : s.vm.findClass RX1 = some m.cls := findClass_of_methodNamed B.named
  have hlocks := B.notSynchronized
  subst hsz
  have hD := hD0.self (sz := s.heap.size)
  generalize hAe : va_A [(cx, .inr (1, [.ref ar, .ref ha, .ref hz, .int col, .int mov])), (ar, .inl (cI, 8, .inl rg)), (ha, .inr (0, [.ref wa, .int us, .int ob])), (wa, .inl (cI, n, .inl f)), (hz, .inr (0, [.ref wz, .int us2, .int ob2])), (wz, .inl (cI, n, .inl f2))] s.heap.size = A at hD hX ⊢
  have hA : ∀ q : Nat, s.heap.size ≤ q → A q := fun q h => by rw [← hAe]; exact Or.inr h
  have hS : va_S A s.heap s.heap [] := va_S.rf
  have hl := lv_entry ([.ref cx, .int ip, .int iq]) (n := 3) (Nat.le_of_ble_eq_true rfl)
  rw [lg_entry_eq]
  generalize (lg_sl ([.ref cx, .int ip, .int iq]) ++ List.replicate (3 - (lg_sl ([.ref cx, .int ip, .int iq])).length) Slot.unset).toArray = ls at hl ⊢
  have hl : lv_has ls 3 [(0, .ref cx), (1, .int ip), (2, .int iq)] := hl
  refine lv_iload_n hx hb dX1_copy_0 rfl (lv_at hl 1 rfl) ?_
  have hPc := hP.sub (ws' := []) [] rfl
  have hKc := hK.sub (tys' := []) [] rfl
  have hFc := nilF hS hA
  refine vx_callv (vx_runS (As := [.int ip]) (rest := []) ⟨hx, hb, hml, hown, ht⟩ (ctX1_requireRegister l hl9 dC dI cI sa ip _ ) (cwS 1 ht gcX1_25 rfl rfl rfl (by decide +kernel) ⟨Nat.le_of_ble_eq_true rfl, Nat.le_of_ble_eq_true rfl⟩) ⟨pR.blind, pR.call hPc hKc hE hX hS hFc⟩ rfl rfl hl.1 rfl (lv_room (Nat.le_of_ble_eq_true rfl)) dX1_copy_1 ⟨Nat.le_of_ble_eq_true rfl, Nat.le_of_ble_eq_true rfl⟩) hS (fun q _ h => hFc q h) hFc (fun q _ h => hFc q h) (fun E ce q9 u_1 t H1 locs ht9 hvm hp hB hz1 hk1 hS hce hcv hcl => ?_) (fun u_1 t H1 locs ht9 hvm hw hB hz1 hk1 hS => ?_)
  · obtain ⟨hpe, hpk⟩ := hp
    have hB := hB
    obtain rfl : u_1 = ((fX1_requireRegister ip).1, (fX1_requireRegister ip).2.2) := by rw [hpe]
    have c_3 : ¬ (fX1_requireRegister ip).1 = 0 := hpk
    subst hB
    have hP1 := nilP (D := (dC, dI)) (H := H1)
    have hP := rKeep hP hk1
    generalize H1 = H at hP hS hce ⊢
    have hP9 := hP.sub (ws' := [(cx, .inr (1, [.ref ar, .ref ha, .ref hz, .int col, .int mov])), (ar, .inl (cI, 8, .inl rg)), (ha, .inr (0, [.ref wa, .int us, .int ob])), (wa, .inl (cI, n, .inl f)), (hz, .inr (0, [.ref wz, .int us2, .int ob2])), (wz, .inl (cI, n, .inl f2))]) [0, 1, 2, 3, 4, 5] rfl
    have hD9 := hD.sub (ws' := [(cx, .inr (1, [.ref ar, .ref ha, .ref hz, .int col, .int mov])), (ar, .inl (cI, 8, .inl rg)), (ha, .inr (0, [.ref wa, .int us, .int ob])), (wa, .inl (cI, n, .inl f)), (hz, .inr (0, [.ref wz, .int us2, .int ob2])), (wz, .inl (cI, n, .inl f2))]) [0, 1, 2, 3, 4, 5] (by decide) rfl
    have hK9 := hK.sub (tys' := [(cI, .int)]) [0] rfl
    exact vx_out (fun x hx => (hEx x hx).elim) hlocks hce hcv hcl (fun t ht ha => ⟨((fX1_requireRegister ip).1, (rg, us, ob, f, us2, ob2, f2, col, mov)), ⟨(by simp only [fX1_copy, if_neg c_3]), hpk⟩, ⟨rfl, by rw [ht]; exact hP9, va_K.moved ha hK9, hD9⟩, hS.F ht⟩) hS.2.2 (Nat.le_of_ble_eq_true rfl) (Nat.le_of_ble_eq_true rfl)
  · have c_3 : (fX1_requireRegister ip).1 = 0 := by rw [hw]
    have hP := rKeep hP hk1
    generalize H1 = H at hP hS ⊢
    refine lv_iload_n hx hb dX1_copy_4 rfl (lv_at hl 2 rfl) ?_
    have hPc := hP.sub (ws' := []) [] rfl
    have hKc := hK.sub (tys' := []) [] rfl
    have hFc := nilF hS hA
    refine vx_callv (vx_runS (As := [.int iq]) (rest := []) ⟨hx, hb, hml, hown, ht⟩ (ctX1_requireRegister l hl9 dC dI cI sa iq _ ) (cwS 1 ht gcX1_25 rfl rfl rfl (by decide +kernel) ⟨Nat.le_of_ble_eq_true rfl, Nat.le_of_ble_eq_true rfl⟩) ⟨pR.blind, pR.call hPc hKc hE hX hS hFc⟩ rfl rfl hl.1 rfl (lv_room (Nat.le_of_ble_eq_true rfl)) dX1_copy_5 ⟨Nat.le_of_ble_eq_true rfl, Nat.le_of_ble_eq_true rfl⟩) hS (fun q _ h => hFc q h) hFc (fun q _ h => hFc q h) (fun E ce q9 u_4 t H1 locs ht9 hvm hp hB hz1 hk1 hS hce hcv hcl => ?_) (fun u_4 t H1 locs ht9 hvm hw hB hz1 hk1 hS => ?_)
    · obtain ⟨hpe, hpk⟩ := hp
      have hB := hB
      obtain rfl : u_4 = ((fX1_requireRegister iq).1, (fX1_requireRegister iq).2.2) := by rw [hpe]
      have c_6 : ¬ (fX1_requireRegister iq).1 = 0 := hpk
      subst hB
      have hP1 := nilP (D := (dC, dI)) (H := H1)
      have hP := rKeep hP hk1
      generalize H1 = H at hP hS hce ⊢
      have hP9 := hP.sub (ws' := [(cx, .inr (1, [.ref ar, .ref ha, .ref hz, .int col, .int mov])), (ar, .inl (cI, 8, .inl rg)), (ha, .inr (0, [.ref wa, .int us, .int ob])), (wa, .inl (cI, n, .inl f)), (hz, .inr (0, [.ref wz, .int us2, .int ob2])), (wz, .inl (cI, n, .inl f2))]) [0, 1, 2, 3, 4, 5] rfl
      have hD9 := hD.sub (ws' := [(cx, .inr (1, [.ref ar, .ref ha, .ref hz, .int col, .int mov])), (ar, .inl (cI, 8, .inl rg)), (ha, .inr (0, [.ref wa, .int us, .int ob])), (wa, .inl (cI, n, .inl f)), (hz, .inr (0, [.ref wz, .int us2, .int ob2])), (wz, .inl (cI, n, .inl f2))]) [0, 1, 2, 3, 4, 5] (by decide) rfl
      have hK9 := hK.sub (tys' := [(cI, .int)]) [0] rfl
      exact vx_out (fun x hx => (hEx x hx).elim) hlocks hce hcv hcl (fun t ht ha => ⟨((fX1_requireRegister iq).1, (rg, us, ob, f, us2, ob2, f2, col, mov)), ⟨(by simp only [fX1_copy, if_pos c_3, if_neg c_6]), hpk⟩, ⟨rfl, by rw [ht]; exact hP9, va_K.moved ha hK9, hD9⟩, hS.F ht⟩) hS.2.2 (Nat.le_of_ble_eq_true rfl) (Nat.le_of_ble_eq_true rfl)
    · have c_6 : (fX1_requireRegister iq).1 = 0 := by rw [hw]
      have hP := rKeep hP hk1
      generalize H1 = H at hP hS ⊢
      refine lv_aload_n hx hb dX1_copy_8 rfl (lv_at hl 0 rfl) ?_
      refine va_get (D := (dC, dI)) (ci := 1) (v := .ref ar) (C := RX1) (T := TX1) (N := 5) hx hb ht iX1 hown hK hP 0 rfl rfl 0 (by decide) (ht _ g_38) (fun _ h9 => h9) rfl dX1_copy_9 ?_
      refine lv_iload_n hx hb dX1_copy_12 rfl (lv_at hl 1 rfl) ?_
      refine lv_aload_n hx hb dX1_copy_13 rfl (lv_at hl 0 rfl) ?_
      refine va_get (D := (dC, dI)) (ci := 1) (v := .ref ar) (C := RX1) (T := TX1) (N := 5) hx hb ht iX1 hown hK hP 0 rfl rfl 0 (by decide) (ht _ g_38) (fun _ h9 => h9) rfl dX1_copy_14 ?_
      refine lv_iload_n hx hb dX1_copy_17 rfl (lv_at hl 2 rfl) ?_
      refine va_iald hx hb hK hP 1 0 rfl rfl (rrIn c_6) dX1_copy_18 ?_
      refine va_iast hx hb hK hP hD hS 1 0 rfl rfl (rrIn c_3) dX1_copy_19 (fun H locs hP hD hS => ?_)
      have hP : va_P (dC, dI) vwCl [(cx, .inr (1, [.ref ar, .ref ha, .ref hz, .int col, .int mov])), (ar, .inl (cI, 8, .inl (upd rg ip.toNatClampNeg (rg iq.toNatClampNeg)))), (ha, .inr (0, [.ref wa, .int us, .int ob])), (wa, .inl (cI, n, .inl f)), (hz, .inr (0, [.ref wz, .int us2, .int ob2])), (wz, .inl (cI, n, .inl f2))] H := hP
      have hD : va_D A [(cx, .inr (1, [.ref ar, .ref ha, .ref hz, .int col, .int mov])), (ar, .inl (cI, 8, .inl (upd rg ip.toNatClampNeg (rg iq.toNatClampNeg)))), (ha, .inr (0, [.ref wa, .int us, .int ob])), (wa, .inl (cI, n, .inl f)), (hz, .inr (0, [.ref wz, .int us2, .int ob2])), (wz, .inl (cI, n, .inl f2))] := hD
      refine lv_aload_n hx hb dX1_copy_20 rfl (lv_at hl 0 rfl) ?_
      refine va_get (D := (dC, dI)) (ci := 1) (v := .ref ar) (C := RX1) (T := TX1) (N := 5) hx hb ht iX1 hown hK hP 0 rfl rfl 0 (by decide) (ht _ g_38) (fun _ h9 => h9) rfl dX1_copy_21 ?_
      refine lv_iload_n hx hb dX1_copy_24 rfl (lv_at hl 1 rfl) ?_
      refine va_iald hx hb hK hP 1 0 rfl rfl (rrIn c_3) dX1_copy_25 ?_
      refine vp_callSi (va_runS (As := [.int ((upd rg ip.toNatClampNeg (rg iq.toNatClampNeg)) ip.toNatClampNeg)]) (rest := []) ⟨hx, hb, hml, hown, ht⟩ (ctX1_isReference l ((upd rg ip.toNatClampNeg (rg iq.toNatClampNeg)) ip.toNatClampNeg)) (cwS 1 ht gcX1_61 rfl rfl rfl (by decide +kernel) ⟨Nat.le_of_ble_eq_true rfl, Nat.le_of_ble_eq_true rfl⟩) ⟨pT.blind, pT.call⟩ rfl rfl hl.1 rfl (lv_room (Nat.le_of_ble_eq_true rfl)) dX1_copy_26 ⟨Nat.le_of_ble_eq_true rfl, Nat.le_of_ble_eq_true rfl⟩).run (fun r_7 hr_7 => ?_)
      subst hr_7
      refine vx_ret ?_
      refine W.widen (k := 5) (n := 30) (Nat.le_of_ble_eq_true rfl) (Nat.le_of_ble_eq_true rfl) ?_
      have hP9 := hP.sub (ws' := [(cx, .inr (1, [.ref ar, .ref ha, .ref hz, .int col, .int mov])), (ar, .inl (cI, 8, .inl (upd rg ip.toNatClampNeg (rg iq.toNatClampNeg)))), (ha, .inr (0, [.ref wa, .int us, .int ob])), (wa, .inl (cI, n, .inl f)), (hz, .inr (0, [.ref wz, .int us2, .int ob2])), (wz, .inl (cI, n, .inl f2))]) [0, 1, 2, 3, 4, 5] rfl
      have hD9 := hD.sub (ws' := [(cx, .inr (1, [.ref ar, .ref ha, .ref hz, .int col, .int mov])), (ar, .inl (cI, 8, .inl (upd rg ip.toNatClampNeg (rg iq.toNatClampNeg)))), (ha, .inr (0, [.ref wa, .int us, .int ob])), (wa, .inl (cI, n, .inl f)), (hz, .inr (0, [.ref wz, .int us2, .int ob2])), (wz, .inl (cI, n, .inl f2))]) [0, 1, 2, 3, 4, 5] (by decide) rfl
      have hK9 := hK.sub (tys' := [(cI, .int)]) [0] rfl
      exact W.zret (v := fX1_isReference ((upd rg ip.toNatClampNeg (rg iq.toNatClampNeg)) ip.toNatClampNeg)) hx hb hr (zb (isRef01 _)) (fun t ht hW => ⟨⟨_, (upd rg ip.toNatClampNeg (rg iq.toNatClampNeg), us, ob, f, us2, ob2, f2, col, mov), rfl, (by simp only [fX1_copy, if_pos c_3, if_pos c_6]), by rw [ht]; exact hP9, va_K.moved hW.alike hK9, hD9⟩, hS.F ht⟩) hS.2.2 dX1_copy_29
def fX1_put (n : Nat) (rg : Nat → Int32) (us : Int32) (ob : Int32) (f : Nat → Int32) (us2 : Int32) (ob2 : Int32) (f2 : Nat → Int32) (col : Int32) (mov : Int32) (ip : Int32) (iq : Int32) (ir : Int32) : Nat × Int32 × (Nat → Int32) × Int32 × Int32 × (Nat → Int32) × Int32 × Int32 × (Nat → Int32) × Int32 × Int32 := (if (fX1_requireRegister ip).1 = 0 then (if (fX1_requireRegister ir).1 = 0 then (if (fX1_objectOf rg ip).1 = 0 then (if fX0_kindAt n f ((fX1_objectOf rg ip).2.1) = 1 then (if fX1_isReference (rg ir.toNatClampNeg) = 0 then (if (fX1_requireField n f ((fX1_objectOf rg ip).2.1) iq).1 = 0 then (0, 0, (rg, (fX0_setWord n us ob f ((((fX1_objectOf rg ip).2.1) + 1) + iq) (fX1_content (rg ir.toNatClampNeg))).1, (fX0_setWord n us ob f ((((fX1_objectOf rg ip).2.1) + 1) + iq) (fX1_content (rg ir.toNatClampNeg))).2.1, (fX0_setWord n us ob f ((((fX1_objectOf rg ip).2.1) + 1) + iq) (fX1_content (rg ir.toNatClampNeg))).2.2, us2, ob2, f2, col, mov)) else ((fX1_requireField n f ((fX1_objectOf rg ip).2.1) iq).1, 0, (rg, us, ob, f, us2, ob2, f2, col, mov))) else (2, 0, (rg, us, ob, f, us2, ob2, f2, col, mov))) else (if (fX1_requireField n f ((fX1_objectOf rg ip).2.1) iq).1 = 0 then (0, 0, (rg, (fX0_setWord n us ob f ((((fX1_objectOf rg ip).2.1) + 1) + iq) (rg ir.toNatClampNeg)).1, (fX0_setWord n us ob f ((((fX1_objectOf rg ip).2.1) + 1) + iq) (rg ir.toNatClampNeg)).2.1, (fX0_setWord n us ob f ((((fX1_objectOf rg ip).2.1) + 1) + iq) (rg ir.toNatClampNeg)).2.2, us2, ob2, f2, col, mov)) else ((fX1_requireField n f ((fX1_objectOf rg ip).2.1) iq).1, 0, (rg, us, ob, f, us2, ob2, f2, col, mov)))) else ((fX1_objectOf rg ip).1, 0, (rg, us, ob, f, us2, ob2, f2, col, mov))) else ((fX1_requireRegister ir).1, 0, (rg, us, ob, f, us2, ob2, f2, col, mov))) else ((fX1_requireRegister ip).1, 0, (rg, us, ob, f, us2, ob2, f2, col, mov)))
abbrev atX1_put (dC : Nat → ClassId) (dI : Nat → Nat → Nat) (cI : ClassId) (A : Nat → Prop) (cx : Nat) (ar : Nat) (ha : Nat) (wa : Nat) (hz : Nat) (wz : Nat) (n : Nat) (u : (Nat → Int32) × Int32 × Int32 × (Nat → Int32) × Int32 × Int32 × (Nat → Int32) × Int32 × Int32) (t : State) : Prop := va_P (dC, dI) vwCl [(cx, .inr (1, [.ref ar, .ref ha, .ref hz, .int u.2.2.2.2.2.2.2.1, .int u.2.2.2.2.2.2.2.2])), (ar, .inl (cI, 8, .inl u.1)), (ha, .inr (0, [.ref wa, .int u.2.1, .int u.2.2.1])), (wa, .inl (cI, n, .inl u.2.2.2.1)), (hz, .inr (0, [.ref wz, .int u.2.2.2.2.1, .int u.2.2.2.2.2.1])), (wz, .inl (cI, n, .inl u.2.2.2.2.2.2.1))] t.heap ∧ va_K (dC, dI) vwCl [(cI, .int)] t ∧ va_D A [(cx, .inr (1, [.ref ar, .ref ha, .ref hz, .int u.2.2.2.2.2.2.2.1, .int u.2.2.2.2.2.2.2.2])), (ar, .inl (cI, 8, .inl u.1)), (ha, .inr (0, [.ref wa, .int u.2.1, .int u.2.2.1])), (wa, .inl (cI, n, .inl u.2.2.2.1)), (hz, .inr (0, [.ref wz, .int u.2.2.2.2.1, .int u.2.2.2.2.2.1])), (wz, .inl (cI, n, .inl u.2.2.2.2.2.2.1))]
set_option maxHeartbeats 4000000 in
set_option maxRecDepth 100000 in
theorem ctX1_put (l : Launch) (hl9 : l.stackTraces = false) (dC : Nat → ClassId) (dI : Nat → Nat → Nat) (cI : ClassId) (sa : Nat → Nat) (cx : Nat) (ar : Nat) (ha : Nat) (wa : Nat) (hz : Nat) (wz : Nat) (n : Nat) (col : Int32) (mov : Int32) (rg : Nat → Int32) (us : Int32) (ob : Int32) (f : Nat → Int32) (us2 : Int32) (ob2 : Int32) (f2 : Nat → Int32) (ip : Int32) (iq : Int32) (ir : Int32) (sz : Nat) (hn : n < 2 ^ 31) : vx_Met l yX1_put (kX1_put :: gT) ({ frames := 7, cells := 5, slots := 30, locals := 120 }) (va_Pc [.ref cx, .int ip, .int iq, .int ir] (pY (dC, dI) [(cx, .inr (1, [.ref ar, .ref ha, .ref hz, .int col, .int mov])), (ar, .inl (cI, 8, .inl rg)), (ha, .inr (0, [.ref wa, .int us, .int ob])), (wa, .inl (cI, n, .inl f)), (hz, .inr (0, [.ref wz, .int us2, .int ob2])), (wz, .inl (cI, n, .inl f2))] [(cI, .int)] sa sz)) (va_Qv (fun u : (Nat → Int32) × Int32 × Int32 × (Nat → Int32) × Int32 × Int32 × (Nat → Int32) × Int32 × Int32 => fX1_put n rg us ob f us2 ob2 f2 col mov ip iq ir = (0, 0, u)) (atX1_put dC dI cI (va_A [(cx, .inr (1, [.ref ar, .ref ha, .ref hz, .int col, .int mov])), (ar, .inl (cI, 8, .inl rg)), (ha, .inr (0, [.ref wa, .int us, .int ob])), (wa, .inl (cI, n, .inl f)), (hz, .inr (0, [.ref wz, .int us2, .int ob2])), (wz, .inl (cI, n, .inl f2))] sz) cx ar ha wa hz wz n) (va_A [(cx, .inr (1, [.ref ar, .ref ha, .ref hz, .int col, .int mov])), (ar, .inl (cI, 8, .inl rg)), (ha, .inr (0, [.ref wa, .int us, .int ob])), (wa, .inl (cI, n, .inl f)), (hz, .inr (0, [.ref wz, .int us2, .int ob2])), (wz, .inl (cI, n, .inl f2))] sz)) (vx_X (fun v : Nat × ((Nat → Int32) × Int32 × Int32 × (Nat → Int32) × Int32 × Int32 × (Nat → Int32) × Int32 × Int32) => fX1_put n rg us ob f us2 ob2 f2 col mov ip iq ir = (v.1, 0, v.2) ∧ v.1 ≠ 0) (fun E v t => E = exN v.1 ∧ atX1_put dC dI cI (va_A [(cx, .inr (1, [.ref ar, .ref ha, .ref hz, .int col, .int mov])), (ar, .inl (cI, 8, .inl rg)), (ha, .inr (0, [.ref wa, .int us, .int ob])), (wa, .inl (cI, n, .inl f)), (hz, .inr (0, [.ref wz, .int us2, .int ob2])), (wz, .inl (cI, n, .inl f2))] sz) cx ar ha wa hz wz n v.2 t) (va_A [(cx, .inr (1, [.ref ar, .ref ha, .ref hz, .int col, .int mov])), (ar, .inl (cI, 8, .inl rg)), (ha, .inr (0, [.ref wa, .int us, .int ob])), (wa, .inl (cI, n, .inl f)), (hz, .inr (0, [.ref wz, .int us2, .int ob2])), (wz, .inl (cI, n, .inl f2))] sz)) 5 30 (va_A [(cx, .inr (1, [.ref ar, .ref ha, .ref hz, .int col, .int mov])), (ar, .inl (cI, 8, .inl rg)), (ha, .inr (0, [.ref wa, .int us, .int ob])), (wa, .inl (cI, n, .inl f)), (hz, .inr (0, [.ref wz, .int us2, .int ob2])), (wz, .inl (cI, n, .inl f2))] sz) := by
  refine vx_ofW (cc := cX1_put) (maxL := 7) (ret := none) (by decide) rfl ?_
  intro p e s m args below meth c s₁ B hml hEx hv
  obtain ⟨rfl, hsz, hP, hK, hD0, hE, hX⟩ := hv
  have hx := B.exec
  have hb := B.bytes
  have hr := B.returns
  have ht : ∀ w ∈ gT, w.before ([.ref cx, .int ip, .int iq, .int ir] : List Value).toArray s = true := fun w h => atoms_spec (ws := kX1_put :: gT) B.pre w (List.mem_cons_of_mem _ h)
  have hown : s.vm.findClass RX1 = some m.cls := findClass_of_methodNamed B.named
  have hlocks := B.notSynchronized
  subst hsz
  have hD := hD0.self (sz := s.heap.size)
  generalize hAe : va_A [(cx, .inr (1, [.ref ar, .ref ha, .ref hz, .int col, .int mov])), (ar, .inl (cI, 8, .inl rg)), (ha, .inr (0, [.ref wa, .int us, .int ob])), (wa, .inl (cI, n, .inl f)), (hz, .inr (0, [.ref wz, .int us2, .int ob2])), (wz, .inl (cI, n, .inl f2))] s.heap.size = A at hD hX ⊢
  have hA : ∀ q : Nat, s.heap.size ≤ q → A q := fun q h => by rw [← hAe]; exact Or.inr h
  have hS : va_S A s.heap s.heap [] := va_S.rf
  have hl := lv_entry ([.ref cx, .int ip, .int iq, .int ir]) (n := 7) (Nat.le_of_ble_eq_true rfl)
  rw [lg_entry_eq]
  generalize (lg_sl ([.ref cx, .int ip, .int iq, .int ir]) ++ List.replicate (7 - (lg_sl ([.ref cx, .int ip, .int iq, .int ir])).length) Slot.unset).toArray = ls at hl ⊢
  have hl : lv_has ls 7 [(0, .ref cx), (1, .int ip), (2, .int iq), (3, .int ir)] := hl
  refine lv_iload_n hx hb dX1_put_0 rfl (lv_at hl 1 rfl) ?_
  have hPc := hP.sub (ws' := []) [] rfl
  have hKc := hK.sub (tys' := []) [] rfl
  have hFc := nilF hS hA
  refine vx_callv (vx_runS (As := [.int ip]) (rest := []) ⟨hx, hb, hml, hown, ht⟩ (ctX1_requireRegister l hl9 dC dI cI sa ip _ ) (cwS 1 ht gcX1_25 rfl rfl rfl (by decide +kernel) ⟨Nat.le_of_ble_eq_true rfl, Nat.le_of_ble_eq_true rfl⟩) ⟨pR.blind, pR.call hPc hKc hE hX hS hFc⟩ rfl rfl hl.1 rfl (lv_room (Nat.le_of_ble_eq_true rfl)) dX1_put_1 ⟨Nat.le_of_ble_eq_true rfl, Nat.le_of_ble_eq_true rfl⟩) hS (fun q _ h => hFc q h) hFc (fun q _ h => hFc q h) (fun E ce q9 u_1 t H1 locs ht9 hvm hp hB hz1 hk1 hS hce hcv hcl => ?_) (fun u_1 t H1 locs ht9 hvm hw hB hz1 hk1 hS => ?_)
  · obtain ⟨hpe, hpk⟩ := hp
    have hB := hB
    obtain rfl : u_1 = ((fX1_requireRegister ip).1, (fX1_requireRegister ip).2.2) := by rw [hpe]
    have c_3 : ¬ (fX1_requireRegister ip).1 = 0 := hpk
    subst hB
    have hP1 := nilP (D := (dC, dI)) (H := H1)
    have hP := rKeep hP hk1
    generalize H1 = H at hP hS hce ⊢
    have hP9 := hP.sub (ws' := [(cx, .inr (1, [.ref ar, .ref ha, .ref hz, .int col, .int mov])), (ar, .inl (cI, 8, .inl rg)), (ha, .inr (0, [.ref wa, .int us, .int ob])), (wa, .inl (cI, n, .inl f)), (hz, .inr (0, [.ref wz, .int us2, .int ob2])), (wz, .inl (cI, n, .inl f2))]) [0, 1, 2, 3, 4, 5] rfl
    have hD9 := hD.sub (ws' := [(cx, .inr (1, [.ref ar, .ref ha, .ref hz, .int col, .int mov])), (ar, .inl (cI, 8, .inl rg)), (ha, .inr (0, [.ref wa, .int us, .int ob])), (wa, .inl (cI, n, .inl f)), (hz, .inr (0, [.ref wz, .int us2, .int ob2])), (wz, .inl (cI, n, .inl f2))]) [0, 1, 2, 3, 4, 5] (by decide) rfl
    have hK9 := hK.sub (tys' := [(cI, .int)]) [0] rfl
    exact vx_out (fun x hx => (hEx x hx).elim) hlocks hce hcv hcl (fun t ht ha => ⟨((fX1_requireRegister ip).1, (rg, us, ob, f, us2, ob2, f2, col, mov)), ⟨(by simp only [fX1_put, if_neg c_3]), hpk⟩, ⟨rfl, by rw [ht]; exact hP9, va_K.moved ha hK9, hD9⟩, hS.F ht⟩) hS.2.2 (Nat.le_of_ble_eq_true rfl) (Nat.le_of_ble_eq_true rfl)
  · have c_3 : (fX1_requireRegister ip).1 = 0 := by rw [hw]
    have hP := rKeep hP hk1
    generalize H1 = H at hP hS ⊢
    refine lv_iload_n hx hb dX1_put_4 rfl (lv_at hl 3 rfl) ?_
    have hPc := hP.sub (ws' := []) [] rfl
    have hKc := hK.sub (tys' := []) [] rfl
    have hFc := nilF hS hA
    refine vx_callv (vx_runS (As := [.int ir]) (rest := []) ⟨hx, hb, hml, hown, ht⟩ (ctX1_requireRegister l hl9 dC dI cI sa ir _ ) (cwS 1 ht gcX1_25 rfl rfl rfl (by decide +kernel) ⟨Nat.le_of_ble_eq_true rfl, Nat.le_of_ble_eq_true rfl⟩) ⟨pR.blind, pR.call hPc hKc hE hX hS hFc⟩ rfl rfl hl.1 rfl (lv_room (Nat.le_of_ble_eq_true rfl)) dX1_put_5 ⟨Nat.le_of_ble_eq_true rfl, Nat.le_of_ble_eq_true rfl⟩) hS (fun q _ h => hFc q h) hFc (fun q _ h => hFc q h) (fun E ce q9 u_4 t H1 locs ht9 hvm hp hB hz1 hk1 hS hce hcv hcl => ?_) (fun u_4 t H1 locs ht9 hvm hw hB hz1 hk1 hS => ?_)
    · obtain ⟨hpe, hpk⟩ := hp
      have hB := hB
      obtain rfl : u_4 = ((fX1_requireRegister ir).1, (fX1_requireRegister ir).2.2) := by rw [hpe]
      have c_6 : ¬ (fX1_requireRegister ir).1 = 0 := hpk
      subst hB
      have hP1 := nilP (D := (dC, dI)) (H := H1)
      have hP := rKeep hP hk1
      generalize H1 = H at hP hS hce ⊢
      have hP9 := hP.sub (ws' := [(cx, .inr (1, [.ref ar, .ref ha, .ref hz, .int col, .int mov])), (ar, .inl (cI, 8, .inl rg)), (ha, .inr (0, [.ref wa, .int us, .int ob])), (wa, .inl (cI, n, .inl f)), (hz, .inr (0, [.ref wz, .int us2, .int ob2])), (wz, .inl (cI, n, .inl f2))]) [0, 1, 2, 3, 4, 5] rfl
      have hD9 := hD.sub (ws' := [(cx, .inr (1, [.ref ar, .ref ha, .ref hz, .int col, .int mov])), (ar, .inl (cI, 8, .inl rg)), (ha, .inr (0, [.ref wa, .int us, .int ob])), (wa, .inl (cI, n, .inl f)), (hz, .inr (0, [.ref wz, .int us2, .int ob2])), (wz, .inl (cI, n, .inl f2))]) [0, 1, 2, 3, 4, 5] (by decide) rfl
      have hK9 := hK.sub (tys' := [(cI, .int)]) [0] rfl
      exact vx_out (fun x hx => (hEx x hx).elim) hlocks hce hcv hcl (fun t ht ha => ⟨((fX1_requireRegister ir).1, (rg, us, ob, f, us2, ob2, f2, col, mov)), ⟨(by simp only [fX1_put, if_pos c_3, if_neg c_6]), hpk⟩, ⟨rfl, by rw [ht]; exact hP9, va_K.moved ha hK9, hD9⟩, hS.F ht⟩) hS.2.2 (Nat.le_of_ble_eq_true rfl) (Nat.le_of_ble_eq_true rfl)
    · have c_6 : (fX1_requireRegister ir).1 = 0 := by rw [hw]
      have hP := rKeep hP hk1
      generalize H1 = H at hP hS ⊢
      refine lv_aload_n hx hb dX1_put_8 rfl (lv_at hl 0 rfl) ?_
      refine lv_iload_n hx hb dX1_put_9 rfl (lv_at hl 1 rfl) ?_
      have hPc := hP.sub (ws' := [(cx, .inr (1, [.ref ar, .ref ha, .ref hz, .int col, .int mov])), (ar, .inl (cI, 8, .inl rg))]) [0, 1] rfl
      have hKc := hK.sub (tys' := [(cI, .int)]) [0] rfl
      have hFc := nilF hS hA
      refine vx_calli (vx_runV (As := [.int ip]) (rest := []) ⟨hx, hb, hml, hown, ht⟩ (ctX1_objectOf l hl9 dC dI cI sa cx ar ha hz col mov rg ip _ (rrIn c_3)) (cwV 1 ht gcX1_64 rfl rfl rfl (by decide +kernel) ⟨Nat.le_of_ble_eq_true rfl, Nat.le_of_ble_eq_true rfl⟩) ⟨pR.blind, va_recv hKc hPc (ci := 1) (q0 := 0) rfl rfl, pR.call hPc hKc hE hX hS hFc⟩ rfl rfl hl.1 rfl (lv_room (Nat.le_of_ble_eq_true rfl)) dX1_put_10 ⟨Nat.le_of_ble_eq_true rfl, Nat.le_of_ble_eq_true rfl⟩) hS (fun q _ h => hFc q h) hFc (fun q _ h => hFc q h) (fun E ce q9 u_7 t H1 locs ht9 hvm hp hB hz1 hk1 hS hce hcv hcl => ?_) (fun r_8 u_7 t H1 locs ht9 hvm hw hB hz1 hk1 hS => ?_)
      · obtain ⟨hpe, hpk⟩ := hp
        have hB := hB
        obtain rfl : u_7 = ((fX1_objectOf rg ip).1, (fX1_objectOf rg ip).2.2) := by rw [hpe]
        have c_9 : ¬ (fX1_objectOf rg ip).1 = 0 := hpk
        subst hB
        have hP1 := nilP (D := (dC, dI)) (H := H1)
        have hP := rKeep hP hk1
        generalize H1 = H at hP hS hce ⊢
        have hP9 := hP.sub (ws' := [(cx, .inr (1, [.ref ar, .ref ha, .ref hz, .int col, .int mov])), (ar, .inl (cI, 8, .inl rg)), (ha, .inr (0, [.ref wa, .int us, .int ob])), (wa, .inl (cI, n, .inl f)), (hz, .inr (0, [.ref wz, .int us2, .int ob2])), (wz, .inl (cI, n, .inl f2))]) [0, 1, 2, 3, 4, 5] rfl
        have hD9 := hD.sub (ws' := [(cx, .inr (1, [.ref ar, .ref ha, .ref hz, .int col, .int mov])), (ar, .inl (cI, 8, .inl rg)), (ha, .inr (0, [.ref wa, .int us, .int ob])), (wa, .inl (cI, n, .inl f)), (hz, .inr (0, [.ref wz, .int us2, .int ob2])), (wz, .inl (cI, n, .inl f2))]) [0, 1, 2, 3, 4, 5] (by decide) rfl
        have hK9 := hK.sub (tys' := [(cI, .int)]) [0] rfl
        exact vx_out (fun x hx => (hEx x hx).elim) hlocks hce hcv hcl (fun t ht ha => ⟨((fX1_objectOf rg ip).1, (rg, us, ob, f, us2, ob2, f2, col, mov)), ⟨(by simp only [fX1_put, if_pos c_3, if_pos c_6, if_neg c_9]), hpk⟩, ⟨rfl, by rw [ht]; exact hP9, va_K.moved ha hK9, hD9⟩, hS.F ht⟩) hS.2.2 (Nat.le_of_ble_eq_true rfl) (Nat.le_of_ble_eq_true rfl)
      · have c_9 : (fX1_objectOf rg ip).1 = 0 := by rw [hw]
        obtain rfl : r_8 = (fX1_objectOf rg ip).2.1 := by rw [hw]
        have hP := rKeep hP hk1
        generalize H1 = H at hP hS ⊢
        refine lv_istore (lv' := [(4, .int ((fX1_objectOf rg ip).2.1)), (0, .ref cx), (1, .int ip), (2, .int iq), (3, .int ir)]) hx hb dX1_put_13 hl (by decide) rfl (fun ls hl => ?_)
        refine lv_aload_n hx hb dX1_put_15 rfl (lv_at hl 1 rfl) ?_
        refine va_get (D := (dC, dI)) (ci := 1) (v := .ref ar) (C := RX1) (T := TX1) (N := 5) hx hb ht iX1 hown hK hP 0 rfl rfl 0 (by decide) (ht _ g_38) (fun _ h9 => h9) rfl dX1_put_16 ?_
        refine lv_iload_n hx hb dX1_put_19 rfl (lv_at hl 4 rfl) ?_
        refine va_iald hx hb hK hP 1 0 rfl rfl (rrIn c_6) dX1_put_20 ?_
        refine lv_istore (lv' := [(5, .int (rg ir.toNatClampNeg)), (4, .int ((fX1_objectOf rg ip).2.1)), (0, .ref cx), (1, .int ip), (2, .int iq), (3, .int ir)]) hx hb dX1_put_21 hl (by decide) rfl (fun ls hl => ?_)
        refine lv_aload_n hx hb dX1_put_23 rfl (lv_at hl 2 rfl) ?_
        refine va_get (D := (dC, dI)) (ci := 1) (v := .ref ha) (C := RX1) (T := TX1) (N := 5) hx hb ht iX1 hown hK hP 0 rfl rfl 1 (by decide) (ht _ g_39) (fun _ h9 => h9) rfl dX1_put_24 ?_
        refine lv_iload hx hb dX1_put_27 (lv_at hl 1 rfl) ?_
        have hPc := hP.sub (ws' := [(ha, .inr (0, [.ref wa, .int us, .int ob])), (wa, .inl (cI, n, .inl f))]) [2, 3] rfl
        have hKc := hK.sub (tys' := [(cI, .int)]) [0] rfl
        refine vp_callSi (va_runV (As := [.int ((fX1_objectOf rg ip).2.1)]) (rest := []) ⟨hx, hb, hml, hown, ht⟩ (ctX0_kindAt l dC dI cI ha wa n us ob f ((fX1_objectOf rg ip).2.1) hn) (cwV 1 ht gcX1_67 rfl rfl rfl (by decide +kernel) ⟨Nat.le_of_ble_eq_true rfl, Nat.le_of_ble_eq_true rfl⟩) ⟨pS.blind, va_recv hKc hPc (ci := 0) (q0 := 0) rfl rfl, pS.call hPc hKc hE⟩ rfl rfl hl.1 rfl (lv_room (Nat.le_of_ble_eq_true rfl)) dX1_put_29 ⟨Nat.le_of_ble_eq_true rfl, Nat.le_of_ble_eq_true rfl⟩).run (fun r_10 hr_10 => ?_)
        subst hr_10
        refine lv_iconst (v := 1) hx hb dX1_put_32 (by decide) ?_
        refine lv_icmp_ne (tgt := 40) hx hb dX1_put_33 (by decide) (fun c_11 => ?_) (fun c_11 => ?_)
        · refine lv_iconst (v := 0) hx hb dX1_put_40 (by decide) ?_
          refine lv_istore (lv' := [(6, .int 0), (5, .int (rg ir.toNatClampNeg)), (4, .int ((fX1_objectOf rg ip).2.1)), (0, .ref cx), (1, .int ip), (2, .int iq), (3, .int ir)]) hx hb dX1_put_41 hl (by decide) rfl (fun ls hl => ?_)
          refine lv_iload hx hb dX1_put_43 (lv_at hl 0 rfl) ?_
          refine lv_if_eq (tgt := 66) hx hb dX1_put_45 (by decide) (fun _ => ?_) (fun h => absurd (by decide) h)
          refine lv_aload_n hx hb dX1_put_66 rfl (lv_at hl 3 rfl) ?_
          refine lv_iload hx hb dX1_put_67 (lv_at hl 2 rfl) ?_
          refine lv_iload_n hx hb dX1_put_69 rfl (lv_at hl 5 rfl) ?_
          have hPc := hP.sub (ws' := [(cx, .inr (1, [.ref ar, .ref ha, .ref hz, .int col, .int mov])), (ha, .inr (0, [.ref wa, .int us, .int ob])), (wa, .inl (cI, n, .inl f))]) [0, 2, 3] rfl
          have hKc := hK.sub (tys' := [(cI, .int)]) [0] rfl
          have hFc := nilF hS hA
          refine vx_callv (vx_runV (As := [.int ((fX1_objectOf rg ip).2.1), .int iq]) (rest := []) ⟨hx, hb, hml, hown, ht⟩ (ctX1_requireField l hl9 dC dI cI sa cx ar ha wa hz n col mov us ob f ((fX1_objectOf rg ip).2.1) iq _ hn) (cwV 2 ht gcX1_72 rfl rfl rfl (by decide +kernel) ⟨Nat.le_of_ble_eq_true rfl, Nat.le_of_ble_eq_true rfl⟩) ⟨pR.blind, va_recv hKc hPc (ci := 1) (q0 := 0) rfl rfl, pR.call hPc hKc hE hX hS hFc⟩ rfl rfl hl.1 rfl (lv_room (Nat.le_of_ble_eq_true rfl)) dX1_put_70 ⟨Nat.le_of_ble_eq_true rfl, Nat.le_of_ble_eq_true rfl⟩) hS (fun q _ h => hFc q h) hFc (fun q _ h => hFc q h) (fun E ce q9 u_12 t H1 locs ht9 hvm hp hB hz1 hk1 hS hce hcv hcl => ?_) (fun u_12 t H1 locs ht9 hvm hw hB hz1 hk1 hS => ?_)
          · obtain ⟨hpe, hpk⟩ := hp
            have hB := hB
            obtain rfl : u_12 = ((fX1_requireField n f ((fX1_objectOf rg ip).2.1) iq).1, (fX1_requireField n f ((fX1_objectOf rg ip).2.1) iq).2.2) := by rw [hpe]
            have c_14 : ¬ (fX1_requireField n f ((fX1_objectOf rg ip).2.1) iq).1 = 0 := hpk
            subst hB
            have hP1 := nilP (D := (dC, dI)) (H := H1)
            have hP := rKeep hP hk1
            generalize H1 = H at hP hS hce ⊢
            have hP9 := hP.sub (ws' := [(cx, .inr (1, [.ref ar, .ref ha, .ref hz, .int col, .int mov])), (ar, .inl (cI, 8, .inl rg)), (ha, .inr (0, [.ref wa, .int us, .int ob])), (wa, .inl (cI, n, .inl f)), (hz, .inr (0, [.ref wz, .int us2, .int ob2])), (wz, .inl (cI, n, .inl f2))]) [0, 1, 2, 3, 4, 5] rfl
            have hD9 := hD.sub (ws' := [(cx, .inr (1, [.ref ar, .ref ha, .ref hz, .int col, .int mov])), (ar, .inl (cI, 8, .inl rg)), (ha, .inr (0, [.ref wa, .int us, .int ob])), (wa, .inl (cI, n, .inl f)), (hz, .inr (0, [.ref wz, .int us2, .int ob2])), (wz, .inl (cI, n, .inl f2))]) [0, 1, 2, 3, 4, 5] (by decide) rfl
            have hK9 := hK.sub (tys' := [(cI, .int)]) [0] rfl
            exact vx_out (fun x hx => (hEx x hx).elim) hlocks hce hcv hcl (fun t ht ha => ⟨((fX1_requireField n f ((fX1_objectOf rg ip).2.1) iq).1, (rg, us, ob, f, us2, ob2, f2, col, mov)), ⟨(by simp only [fX1_put, if_pos c_3, if_pos c_6, if_pos c_9, if_neg c_11, if_neg c_14]), hpk⟩, ⟨rfl, by rw [ht]; exact hP9, va_K.moved ha hK9, hD9⟩, hS.F ht⟩) hS.2.2 (Nat.le_of_ble_eq_true rfl) (Nat.le_of_ble_eq_true rfl)
          · have c_14 : (fX1_requireField n f ((fX1_objectOf rg ip).2.1) iq).1 = 0 := by rw [hw]
            have hP := rKeep hP hk1
            generalize H1 = H at hP hS ⊢
            refine lv_aload_n hx hb dX1_put_73 rfl (lv_at hl 3 rfl) ?_
            refine va_get (D := (dC, dI)) (ci := 1) (v := .ref ha) (C := RX1) (T := TX1) (N := 5) hx hb ht iX1 hown hK hP 0 rfl rfl 1 (by decide) (ht _ g_39) (fun _ h9 => h9) rfl dX1_put_74 ?_
            refine lv_iload hx hb dX1_put_77 (lv_at hl 2 rfl) ?_
            refine lv_iconst (v := 1) hx hb dX1_put_79 (by decide) ?_
            refine lv_iadd hx hb dX1_put_80 ?_
            refine lv_iload_n hx hb dX1_put_81 rfl (lv_at hl 5 rfl) ?_
            refine lv_iadd hx hb dX1_put_82 ?_
            refine lv_iload hx hb dX1_put_83 (lv_at hl 0 rfl) ?_
            refine lv_if_eq (tgt := 96) hx hb dX1_put_85 (by decide) (fun _ => ?_) (fun h => absurd (by decide) h)
            refine lv_iload hx hb dX1_put_96 (lv_at hl 1 rfl) ?_
            have hPc := hP.sub (ws' := [(ha, .inr (0, [.ref wa, .int us, .int ob])), (wa, .inl (cI, n, .inl f))]) [2, 3] rfl
            have hKc := hK.sub (tys' := [(cI, .int)]) [0] rfl
            have hDc := hD.sub (ws' := [(ha, .inr (0, [.ref wa, .int us, .int ob])), (wa, .inl (cI, n, .inl f))]) [2, 3] (by decide) rfl
            have hFc := va_free (wc := [(ha, .inr (0, [.ref wa, .int us, .int ob])), (wa, .inl (cI, n, .inl f))]) hD hS hA [2, 3] rfl
            refine va_callv (va_runV (As := [.int ((((fX1_objectOf rg ip).2.1) + 1) + iq), .int (rg ir.toNatClampNeg)]) (rest := []) ⟨hx, hb, hml, hown, ht⟩ (ctX0_setWord l dC dI cI ha wa n us ob f ((((fX1_objectOf rg ip).2.1) + 1) + iq) (rg ir.toNatClampNeg) _ hn) (cwV 2 ht gcX1_76 rfl rfl rfl (by decide +kernel) ⟨Nat.le_of_ble_eq_true rfl, Nat.le_of_ble_eq_true rfl⟩) ⟨pM.blind, va_recv hKc hPc (ci := 0) (q0 := 0) rfl rfl, pM.call hPc hKc hDc hE⟩ rfl rfl hl.1 rfl (lv_room (Nat.le_of_ble_eq_true rfl)) dX1_put_98 ⟨Nat.le_of_ble_eq_true rfl, Nat.le_of_ble_eq_true rfl⟩) hS (fun q _ h => hFc q h) hFc (fun u_15 t H1 locs ht9 hvm hw hB hz1 hk1 hS => ?_)
            subst hw
            obtain ⟨hP1, hK1, hD1⟩ := hB
            rw [ht9] at hP1
            obtain ⟨hP, hD⟩ := va_join (wr := [(cx, .inr (1, [.ref ar, .ref ha, .ref hz, .int col, .int mov])), (ar, .inl (cI, 8, .inl rg)), (hz, .inr (0, [.ref wz, .int us2, .int ob2])), (wz, .inl (cI, n, .inl f2))]) (w1 := [(ha, .inr (0, [.ref wa, .int ((fX0_setWord n us ob f ((((fX1_objectOf rg ip).2.1) + 1) + iq) (rg ir.toNatClampNeg)).1), .int ((fX0_setWord n us ob f ((((fX1_objectOf rg ip).2.1) + 1) + iq) (rg ir.toNatClampNeg)).2.1)])), (wa, .inl (cI, n, .inl ((fX0_setWord n us ob f ((((fX1_objectOf rg ip).2.1) + 1) + iq) (rg ir.toNatClampNeg)).2.2)))]) hP hD [2, 3] [0, 1, 4, 5] rfl rfl (by decide) (by decide) hk1 hFc hP1 hD1
            generalize H1 = H at hP hS ⊢
            have hP := hP.sub (ws' := [(cx, .inr (1, [.ref ar, .ref ha, .ref hz, .int col, .int mov])), (ar, .inl (cI, 8, .inl rg)), (ha, .inr (0, [.ref wa, .int ((fX0_setWord n us ob f ((((fX1_objectOf rg ip).2.1) + 1) + iq) (rg ir.toNatClampNeg)).1), .int ((fX0_setWord n us ob f ((((fX1_objectOf rg ip).2.1) + 1) + iq) (rg ir.toNatClampNeg)).2.1)])), (wa, .inl (cI, n, .inl ((fX0_setWord n us ob f ((((fX1_objectOf rg ip).2.1) + 1) + iq) (rg ir.toNatClampNeg)).2.2))), (hz, .inr (0, [.ref wz, .int us2, .int ob2])), (wz, .inl (cI, n, .inl f2))]) [0, 1, 4, 5, 2, 3] rfl
            have hD := hD.sub (ws' := [(cx, .inr (1, [.ref ar, .ref ha, .ref hz, .int col, .int mov])), (ar, .inl (cI, 8, .inl rg)), (ha, .inr (0, [.ref wa, .int ((fX0_setWord n us ob f ((((fX1_objectOf rg ip).2.1) + 1) + iq) (rg ir.toNatClampNeg)).1), .int ((fX0_setWord n us ob f ((((fX1_objectOf rg ip).2.1) + 1) + iq) (rg ir.toNatClampNeg)).2.1)])), (wa, .inl (cI, n, .inl ((fX0_setWord n us ob f ((((fX1_objectOf rg ip).2.1) + 1) + iq) (rg ir.toNatClampNeg)).2.2))), (hz, .inr (0, [.ref wz, .int us2, .int ob2])), (wz, .inl (cI, n, .inl f2))]) [0, 1, 4, 5, 2, 3] (by decide) rfl
            refine vx_ret ?_
            refine W.widen (k := 5) (n := 30) (Nat.le_of_ble_eq_true rfl) (Nat.le_of_ble_eq_true rfl) ?_
            have hP9 := hP.sub (ws' := [(cx, .inr (1, [.ref ar, .ref ha, .ref hz, .int col, .int mov])), (ar, .inl (cI, 8, .inl rg)), (ha, .inr (0, [.ref wa, .int ((fX0_setWord n us ob f ((((fX1_objectOf rg ip).2.1) + 1) + iq) (rg ir.toNatClampNeg)).1), .int ((fX0_setWord n us ob f ((((fX1_objectOf rg ip).2.1) + 1) + iq) (rg ir.toNatClampNeg)).2.1)])), (wa, .inl (cI, n, .inl ((fX0_setWord n us ob f ((((fX1_objectOf rg ip).2.1) + 1) + iq) (rg ir.toNatClampNeg)).2.2))), (hz, .inr (0, [.ref wz, .int us2, .int ob2])), (wz, .inl (cI, n, .inl f2))]) [0, 1, 2, 3, 4, 5] rfl
            have hD9 := hD.sub (ws' := [(cx, .inr (1, [.ref ar, .ref ha, .ref hz, .int col, .int mov])), (ar, .inl (cI, 8, .inl rg)), (ha, .inr (0, [.ref wa, .int ((fX0_setWord n us ob f ((((fX1_objectOf rg ip).2.1) + 1) + iq) (rg ir.toNatClampNeg)).1), .int ((fX0_setWord n us ob f ((((fX1_objectOf rg ip).2.1) + 1) + iq) (rg ir.toNatClampNeg)).2.1)])), (wa, .inl (cI, n, .inl ((fX0_setWord n us ob f ((((fX1_objectOf rg ip).2.1) + 1) + iq) (rg ir.toNatClampNeg)).2.2))), (hz, .inr (0, [.ref wz, .int us2, .int ob2])), (wz, .inl (cI, n, .inl f2))]) [0, 1, 2, 3, 4, 5] (by decide) rfl
            have hK9 := hK.sub (tys' := [(cI, .int)]) [0] rfl
            exact W.vret hx hb hr (fun t ht hW => ⟨⟨(rg, (fX0_setWord n us ob f ((((fX1_objectOf rg ip).2.1) + 1) + iq) (rg ir.toNatClampNeg)).1, (fX0_setWord n us ob f ((((fX1_objectOf rg ip).2.1) + 1) + iq) (rg ir.toNatClampNeg)).2.1, (fX0_setWord n us ob f ((((fX1_objectOf rg ip).2.1) + 1) + iq) (rg ir.toNatClampNeg)).2.2, us2, ob2, f2, col, mov), rfl, (by simp only [fX1_put, if_pos c_3, if_pos c_6, if_pos c_9, if_neg c_11, if_pos c_14]), by rw [ht]; exact hP9, va_K.moved hW.alike hK9, hD9⟩, hS.F ht⟩) hS.2.2 dX1_put_101
        · refine lv_iconst (v := 1) hx hb dX1_put_36 (by decide) ?_
          refine lv_goto (tgt := 41) hx hb dX1_put_37 (by decide) ?_
          refine lv_istore (lv' := [(6, .int 1), (5, .int (rg ir.toNatClampNeg)), (4, .int ((fX1_objectOf rg ip).2.1)), (0, .ref cx), (1, .int ip), (2, .int iq), (3, .int ir)]) hx hb dX1_put_41 hl (by decide) rfl (fun ls hl => ?_)
          refine lv_iload hx hb dX1_put_43 (lv_at hl 0 rfl) ?_
          refine lv_if_eq (tgt := 66) hx hb dX1_put_45 (by decide) (fun h => absurd h (by decide)) (fun _ => ?_)
          refine lv_iload hx hb dX1_put_48 (lv_at hl 1 rfl) ?_
          refine vp_callSi (va_runS (As := [.int (rg ir.toNatClampNeg)]) (rest := []) ⟨hx, hb, hml, hown, ht⟩ (ctX1_isReference l (rg ir.toNatClampNeg)) (cwS 1 ht gcX1_61 rfl rfl rfl (by decide +kernel) ⟨Nat.le_of_ble_eq_true rfl, Nat.le_of_ble_eq_true rfl⟩) ⟨pT.blind, pT.call⟩ rfl rfl hl.1 rfl (lv_room (Nat.le_of_ble_eq_true rfl)) dX1_put_50 ⟨Nat.le_of_ble_eq_true rfl, Nat.le_of_ble_eq_true rfl⟩).run (fun r_16 hr_16 => ?_)
          subst hr_16
          refine lv_if_eq (tgt := 66) hx hb dX1_put_53 (by decide) (fun c_17 => ?_) (fun c_17 => ?_)
          · refine lv_aload_n hx hb dX1_put_66 rfl (lv_at hl 3 rfl) ?_
            refine lv_iload hx hb dX1_put_67 (lv_at hl 2 rfl) ?_
            refine lv_iload_n hx hb dX1_put_69 rfl (lv_at hl 5 rfl) ?_
            have hPc := hP.sub (ws' := [(cx, .inr (1, [.ref ar, .ref ha, .ref hz, .int col, .int mov])), (ha, .inr (0, [.ref wa, .int us, .int ob])), (wa, .inl (cI, n, .inl f))]) [0, 2, 3] rfl
            have hKc := hK.sub (tys' := [(cI, .int)]) [0] rfl
            have hFc := nilF hS hA
            refine vx_callv (vx_runV (As := [.int ((fX1_objectOf rg ip).2.1), .int iq]) (rest := []) ⟨hx, hb, hml, hown, ht⟩ (ctX1_requireField l hl9 dC dI cI sa cx ar ha wa hz n col mov us ob f ((fX1_objectOf rg ip).2.1) iq _ hn) (cwV 2 ht gcX1_72 rfl rfl rfl (by decide +kernel) ⟨Nat.le_of_ble_eq_true rfl, Nat.le_of_ble_eq_true rfl⟩) ⟨pR.blind, va_recv hKc hPc (ci := 1) (q0 := 0) rfl rfl, pR.call hPc hKc hE hX hS hFc⟩ rfl rfl hl.1 rfl (lv_room (Nat.le_of_ble_eq_true rfl)) dX1_put_70 ⟨Nat.le_of_ble_eq_true rfl, Nat.le_of_ble_eq_true rfl⟩) hS (fun q _ h => hFc q h) hFc (fun q _ h => hFc q h) (fun E ce q9 u_18 t H1 locs ht9 hvm hp hB hz1 hk1 hS hce hcv hcl => ?_) (fun u_18 t H1 locs ht9 hvm hw hB hz1 hk1 hS => ?_)
            · obtain ⟨hpe, hpk⟩ := hp
              have hB := hB
              obtain rfl : u_18 = ((fX1_requireField n f ((fX1_objectOf rg ip).2.1) iq).1, (fX1_requireField n f ((fX1_objectOf rg ip).2.1) iq).2.2) := by rw [hpe]
              have c_20 : ¬ (fX1_requireField n f ((fX1_objectOf rg ip).2.1) iq).1 = 0 := hpk
              subst hB
              have hP1 := nilP (D := (dC, dI)) (H := H1)
              have hP := rKeep hP hk1
              generalize H1 = H at hP hS hce ⊢
              have hP9 := hP.sub (ws' := [(cx, .inr (1, [.ref ar, .ref ha, .ref hz, .int col, .int mov])), (ar, .inl (cI, 8, .inl rg)), (ha, .inr (0, [.ref wa, .int us, .int ob])), (wa, .inl (cI, n, .inl f)), (hz, .inr (0, [.ref wz, .int us2, .int ob2])), (wz, .inl (cI, n, .inl f2))]) [0, 1, 2, 3, 4, 5] rfl
              have hD9 := hD.sub (ws' := [(cx, .inr (1, [.ref ar, .ref ha, .ref hz, .int col, .int mov])), (ar, .inl (cI, 8, .inl rg)), (ha, .inr (0, [.ref wa, .int us, .int ob])), (wa, .inl (cI, n, .inl f)), (hz, .inr (0, [.ref wz, .int us2, .int ob2])), (wz, .inl (cI, n, .inl f2))]) [0, 1, 2, 3, 4, 5] (by decide) rfl
              have hK9 := hK.sub (tys' := [(cI, .int)]) [0] rfl
              exact vx_out (fun x hx => (hEx x hx).elim) hlocks hce hcv hcl (fun t ht ha => ⟨((fX1_requireField n f ((fX1_objectOf rg ip).2.1) iq).1, (rg, us, ob, f, us2, ob2, f2, col, mov)), ⟨(by simp only [fX1_put, if_pos c_3, if_pos c_6, if_pos c_9, if_pos c_11, if_pos c_17, if_neg c_20]), hpk⟩, ⟨rfl, by rw [ht]; exact hP9, va_K.moved ha hK9, hD9⟩, hS.F ht⟩) hS.2.2 (Nat.le_of_ble_eq_true rfl) (Nat.le_of_ble_eq_true rfl)
            · have c_20 : (fX1_requireField n f ((fX1_objectOf rg ip).2.1) iq).1 = 0 := by rw [hw]
              have hP := rKeep hP hk1
              generalize H1 = H at hP hS ⊢
              refine lv_aload_n hx hb dX1_put_73 rfl (lv_at hl 3 rfl) ?_
              refine va_get (D := (dC, dI)) (ci := 1) (v := .ref ha) (C := RX1) (T := TX1) (N := 5) hx hb ht iX1 hown hK hP 0 rfl rfl 1 (by decide) (ht _ g_39) (fun _ h9 => h9) rfl dX1_put_74 ?_
              refine lv_iload hx hb dX1_put_77 (lv_at hl 2 rfl) ?_
              refine lv_iconst (v := 1) hx hb dX1_put_79 (by decide) ?_
              refine lv_iadd hx hb dX1_put_80 ?_
              refine lv_iload_n hx hb dX1_put_81 rfl (lv_at hl 5 rfl) ?_
              refine lv_iadd hx hb dX1_put_82 ?_
              refine lv_iload hx hb dX1_put_83 (lv_at hl 0 rfl) ?_
              refine lv_if_eq (tgt := 96) hx hb dX1_put_85 (by decide) (fun h => absurd h (by decide)) (fun _ => ?_)
              refine lv_iload hx hb dX1_put_88 (lv_at hl 1 rfl) ?_
              refine vp_callSi (va_runS (As := [.int (rg ir.toNatClampNeg)]) (rest := [.int ((((fX1_objectOf rg ip).2.1) + 1) + iq), .ref ha]) ⟨hx, hb, hml, hown, ht⟩ (ctX1_content l (rg ir.toNatClampNeg)) (cwS 1 ht gcX1_58 rfl rfl rfl (by decide +kernel) ⟨Nat.le_of_ble_eq_true rfl, Nat.le_of_ble_eq_true rfl⟩) ⟨pT.blind, pT.call⟩ rfl rfl hl.1 rfl (lv_room (Nat.le_of_ble_eq_true rfl)) dX1_put_90 ⟨Nat.le_of_ble_eq_true rfl, Nat.le_of_ble_eq_true rfl⟩).run (fun r_21 hr_21 => ?_)
              subst hr_21
              refine lv_goto (tgt := 98) hx hb dX1_put_93 (by decide) ?_
              have hPc := hP.sub (ws' := [(ha, .inr (0, [.ref wa, .int us, .int ob])), (wa, .inl (cI, n, .inl f))]) [2, 3] rfl
              have hKc := hK.sub (tys' := [(cI, .int)]) [0] rfl
              have hDc := hD.sub (ws' := [(ha, .inr (0, [.ref wa, .int us, .int ob])), (wa, .inl (cI, n, .inl f))]) [2, 3] (by decide) rfl
              have hFc := va_free (wc := [(ha, .inr (0, [.ref wa, .int us, .int ob])), (wa, .inl (cI, n, .inl f))]) hD hS hA [2, 3] rfl
              refine va_callv (va_runV (As := [.int ((((fX1_objectOf rg ip).2.1) + 1) + iq), .int (fX1_content (rg ir.toNatClampNeg))]) (rest := []) ⟨hx, hb, hml, hown, ht⟩ (ctX0_setWord l dC dI cI ha wa n us ob f ((((fX1_objectOf rg ip).2.1) + 1) + iq) (fX1_content (rg ir.toNatClampNeg)) _ hn) (cwV 2 ht gcX1_76 rfl rfl rfl (by decide +kernel) ⟨Nat.le_of_ble_eq_true rfl, Nat.le_of_ble_eq_true rfl⟩) ⟨pM.blind, va_recv hKc hPc (ci := 0) (q0 := 0) rfl rfl, pM.call hPc hKc hDc hE⟩ rfl rfl hl.1 rfl (lv_room (Nat.le_of_ble_eq_true rfl)) dX1_put_98 ⟨Nat.le_of_ble_eq_true rfl, Nat.le_of_ble_eq_true rfl⟩) hS (fun q _ h => hFc q h) hFc (fun u_22 t H1 locs ht9 hvm hw hB hz1 hk1 hS => ?_)
              subst hw
              obtain ⟨hP1, hK1, hD1⟩ := hB
              rw [ht9] at hP1
              obtain ⟨hP, hD⟩ := va_join (wr := [(cx, .inr (1, [.ref ar, .ref ha, .ref hz, .int col, .int mov])), (ar, .inl (cI, 8, .inl rg)), (hz, .inr (0, [.ref wz, .int us2, .int ob2])), (wz, .inl (cI, n, .inl f2))]) (w1 := [(ha, .inr (0, [.ref wa, .int ((fX0_setWord n us ob f ((((fX1_objectOf rg ip).2.1) + 1) + iq) (fX1_content (rg ir.toNatClampNeg))).1), .int ((fX0_setWord n us ob f ((((fX1_objectOf rg ip).2.1) + 1) + iq) (fX1_content (rg ir.toNatClampNeg))).2.1)])), (wa, .inl (cI, n, .inl ((fX0_setWord n us ob f ((((fX1_objectOf rg ip).2.1) + 1) + iq) (fX1_content (rg ir.toNatClampNeg))).2.2)))]) hP hD [2, 3] [0, 1, 4, 5] rfl rfl (by decide) (by decide) hk1 hFc hP1 hD1
              generalize H1 = H at hP hS ⊢
              have hP := hP.sub (ws' := [(cx, .inr (1, [.ref ar, .ref ha, .ref hz, .int col, .int mov])), (ar, .inl (cI, 8, .inl rg)), (ha, .inr (0, [.ref wa, .int ((fX0_setWord n us ob f ((((fX1_objectOf rg ip).2.1) + 1) + iq) (fX1_content (rg ir.toNatClampNeg))).1), .int ((fX0_setWord n us ob f ((((fX1_objectOf rg ip).2.1) + 1) + iq) (fX1_content (rg ir.toNatClampNeg))).2.1)])), (wa, .inl (cI, n, .inl ((fX0_setWord n us ob f ((((fX1_objectOf rg ip).2.1) + 1) + iq) (fX1_content (rg ir.toNatClampNeg))).2.2))), (hz, .inr (0, [.ref wz, .int us2, .int ob2])), (wz, .inl (cI, n, .inl f2))]) [0, 1, 4, 5, 2, 3] rfl
              have hD := hD.sub (ws' := [(cx, .inr (1, [.ref ar, .ref ha, .ref hz, .int col, .int mov])), (ar, .inl (cI, 8, .inl rg)), (ha, .inr (0, [.ref wa, .int ((fX0_setWord n us ob f ((((fX1_objectOf rg ip).2.1) + 1) + iq) (fX1_content (rg ir.toNatClampNeg))).1), .int ((fX0_setWord n us ob f ((((fX1_objectOf rg ip).2.1) + 1) + iq) (fX1_content (rg ir.toNatClampNeg))).2.1)])), (wa, .inl (cI, n, .inl ((fX0_setWord n us ob f ((((fX1_objectOf rg ip).2.1) + 1) + iq) (fX1_content (rg ir.toNatClampNeg))).2.2))), (hz, .inr (0, [.ref wz, .int us2, .int ob2])), (wz, .inl (cI, n, .inl f2))]) [0, 1, 4, 5, 2, 3] (by decide) rfl
              refine vx_ret ?_
              refine W.widen (k := 5) (n := 30) (Nat.le_of_ble_eq_true rfl) (Nat.le_of_ble_eq_true rfl) ?_
              have hP9 := hP.sub (ws' := [(cx, .inr (1, [.ref ar, .ref ha, .ref hz, .int col, .int mov])), (ar, .inl (cI, 8, .inl rg)), (ha, .inr (0, [.ref wa, .int ((fX0_setWord n us ob f ((((fX1_objectOf rg ip).2.1) + 1) + iq) (fX1_content (rg ir.toNatClampNeg))).1), .int ((fX0_setWord n us ob f ((((fX1_objectOf rg ip).2.1) + 1) + iq) (fX1_content (rg ir.toNatClampNeg))).2.1)])), (wa, .inl (cI, n, .inl ((fX0_setWord n us ob f ((((fX1_objectOf rg ip).2.1) + 1) + iq) (fX1_content (rg ir.toNatClampNeg))).2.2))), (hz, .inr (0, [.ref wz, .int us2, .int ob2])), (wz, .inl (cI, n, .inl f2))]) [0, 1, 2, 3, 4, 5] rfl
              have hD9 := hD.sub (ws' := [(cx, .inr (1, [.ref ar, .ref ha, .ref hz, .int col, .int mov])), (ar, .inl (cI, 8, .inl rg)), (ha, .inr (0, [.ref wa, .int ((fX0_setWord n us ob f ((((fX1_objectOf rg ip).2.1) + 1) + iq) (fX1_content (rg ir.toNatClampNeg))).1), .int ((fX0_setWord n us ob f ((((fX1_objectOf rg ip).2.1) + 1) + iq) (fX1_content (rg ir.toNatClampNeg))).2.1)])), (wa, .inl (cI, n, .inl ((fX0_setWord n us ob f ((((fX1_objectOf rg ip).2.1) + 1) + iq) (fX1_content (rg ir.toNatClampNeg))).2.2))), (hz, .inr (0, [.ref wz, .int us2, .int ob2])), (wz, .inl (cI, n, .inl f2))]) [0, 1, 2, 3, 4, 5] (by decide) rfl
              have hK9 := hK.sub (tys' := [(cI, .int)]) [0] rfl
              exact W.vret hx hb hr (fun t ht hW => ⟨⟨(rg, (fX0_setWord n us ob f ((((fX1_objectOf rg ip).2.1) + 1) + iq) (fX1_content (rg ir.toNatClampNeg))).1, (fX0_setWord n us ob f ((((fX1_objectOf rg ip).2.1) + 1) + iq) (fX1_content (rg ir.toNatClampNeg))).2.1, (fX0_setWord n us ob f ((((fX1_objectOf rg ip).2.1) + 1) + iq) (fX1_content (rg ir.toNatClampNeg))).2.2, us2, ob2, f2, col, mov), rfl, (by simp only [fX1_put, if_pos c_3, if_pos c_6, if_pos c_9, if_pos c_11, if_pos c_17, if_pos c_20]), by rw [ht]; exact hP9, va_K.moved hW.alike hK9, hD9⟩, hS.F ht⟩) hS.2.2 dX1_put_101
          · have hP9 := hP.sub (ws' := [(cx, .inr (1, [.ref ar, .ref ha, .ref hz, .int col, .int mov])), (ar, .inl (cI, 8, .inl rg)), (ha, .inr (0, [.ref wa, .int us, .int ob])), (wa, .inl (cI, n, .inl f)), (hz, .inr (0, [.ref wz, .int us2, .int ob2])), (wz, .inl (cI, n, .inl f2))]) [0, 1, 2, 3, 4, 5] rfl
            have hD9 := hD.sub (ws' := [(cx, .inr (1, [.ref ar, .ref ha, .ref hz, .int col, .int mov])), (ar, .inl (cI, 8, .inl rg)), (ha, .inr (0, [.ref wa, .int us, .int ob])), (wa, .inl (cI, n, .inl f)), (hz, .inr (0, [.ref wz, .int us2, .int ob2])), (wz, .inl (cI, n, .inl f2))]) [0, 1, 2, 3, 4, 5] (by decide) rfl
            have hK9 := hK.sub (tys' := [(cI, .int)]) [0] rfl
            exact vx_throwS (own := RX1) (cls := "java/lang/IllegalStateException") (names := ["java/lang/RuntimeException", "java/lang/Exception"]) hx hb hl9 hown (by decide +kernel) (by decide +kernel) (ht _ g_197) (ht _ g_8) hX.s70 (thS ht hE) toS hX.zU hX.zN hS (hl.1.trans hml.symm) dX1_put_56 dX1_put_59 dX1_put_60 dX1_put_62 dX1_put_65 (fun x hx => (hEx x hx).elim) (Nat.le_of_ble_eq_true rfl) (Nat.le_of_ble_eq_true rfl) (Nat.le_of_ble_eq_true rfl) (Nat.le_of_ble_eq_true rfl) hlocks (fun t ha hsz hk => ⟨(2, (rg, us, ob, f, us2, ob2, f2, col, mov)), ⟨(by simp only [fX1_put, if_pos c_3, if_pos c_6, if_pos c_9, if_pos c_11, if_neg c_17]), Nat.succ_ne_zero _⟩, ⟨rfl, hP9.kept (fun k q hq => hk q.1 (hP9 k q hq).lt), va_K.moved ha hK9, hD9⟩, Nat.le_trans hS.1 hsz, fun q h1 h2 => (hk q (Nat.lt_of_lt_of_le h1 hS.1)).trans (hS.2.1 q h1 h2)⟩) hS.2.2 (Nat.le_of_ble_eq_true rfl) (Nat.le_of_ble_eq_true rfl)
def fX1_raw (n : Nat) (rg : Nat → Int32) (us : Int32) (ob : Int32) (f : Nat → Int32) (us2 : Int32) (ob2 : Int32) (f2 : Nat → Int32) (col : Int32) (mov : Int32) (ip : Int32) (iq : Int32) (ir : Int32) : Nat × Int32 × (Nat → Int32) × Int32 × Int32 × (Nat → Int32) × Int32 × Int32 × (Nat → Int32) × Int32 × Int32 := (if (fX1_requireRegister ip).1 = 0 then (if (fX1_objectOf rg ip).1 = 0 then (if fX0_kindAt n f ((fX1_objectOf rg ip).2.1) = 1 then (if (fX1_requireField n f ((fX1_objectOf rg ip).2.1) iq).1 = 0 then (0, fX0_wordAt n f ((((fX1_objectOf rg ip).2.1) + 1) + iq), (rg, (fX0_setWord n us ob f ((((fX1_objectOf rg ip).2.1) + 1) + iq) ir).1, (fX0_setWord n us ob f ((((fX1_objectOf rg ip).2.1) + 1) + iq) ir).2.1, (fX0_setWord n us ob f ((((fX1_objectOf rg ip).2.1) + 1) + iq) ir).2.2, us2, ob2, f2, col, mov)) else ((fX1_requireField n f ((fX1_objectOf rg ip).2.1) iq).1, 0, (rg, us, ob, f, us2, ob2, f2, col, mov))) else (2, 0, (rg, us, ob, f, us2, ob2, f2, col, mov))) else ((fX1_objectOf rg ip).1, 0, (rg, us, ob, f, us2, ob2, f2, col, mov))) else ((fX1_requireRegister ip).1, 0, (rg, us, ob, f, us2, ob2, f2, col, mov)))
abbrev atX1_raw (dC : Nat → ClassId) (dI : Nat → Nat → Nat) (cI : ClassId) (A : Nat → Prop) (cx : Nat) (ar : Nat) (ha : Nat) (wa : Nat) (hz : Nat) (wz : Nat) (n : Nat) (u : (Nat → Int32) × Int32 × Int32 × (Nat → Int32) × Int32 × Int32 × (Nat → Int32) × Int32 × Int32) (t : State) : Prop := va_P (dC, dI) vwCl [(cx, .inr (1, [.ref ar, .ref ha, .ref hz, .int u.2.2.2.2.2.2.2.1, .int u.2.2.2.2.2.2.2.2])), (ar, .inl (cI, 8, .inl u.1)), (ha, .inr (0, [.ref wa, .int u.2.1, .int u.2.2.1])), (wa, .inl (cI, n, .inl u.2.2.2.1)), (hz, .inr (0, [.ref wz, .int u.2.2.2.2.1, .int u.2.2.2.2.2.1])), (wz, .inl (cI, n, .inl u.2.2.2.2.2.2.1))] t.heap ∧ va_K (dC, dI) vwCl [(cI, .int)] t ∧ va_D A [(cx, .inr (1, [.ref ar, .ref ha, .ref hz, .int u.2.2.2.2.2.2.2.1, .int u.2.2.2.2.2.2.2.2])), (ar, .inl (cI, 8, .inl u.1)), (ha, .inr (0, [.ref wa, .int u.2.1, .int u.2.2.1])), (wa, .inl (cI, n, .inl u.2.2.2.1)), (hz, .inr (0, [.ref wz, .int u.2.2.2.2.1, .int u.2.2.2.2.2.1])), (wz, .inl (cI, n, .inl u.2.2.2.2.2.2.1))]
set_option maxHeartbeats 4000000 in
set_option maxRecDepth 100000 in
theorem ctX1_raw (l : Launch) (hl9 : l.stackTraces = false) (dC : Nat → ClassId) (dI : Nat → Nat → Nat) (cI : ClassId) (sa : Nat → Nat) (cx : Nat) (ar : Nat) (ha : Nat) (wa : Nat) (hz : Nat) (wz : Nat) (n : Nat) (col : Int32) (mov : Int32) (rg : Nat → Int32) (us : Int32) (ob : Int32) (f : Nat → Int32) (us2 : Int32) (ob2 : Int32) (f2 : Nat → Int32) (ip : Int32) (iq : Int32) (ir : Int32) (sz : Nat) (hn : n < 2 ^ 31) : vx_Met l yX1_raw (kX1_raw :: gT) ({ frames := 7, cells := 5, slots := 30, locals := 120 }) (va_Pc [.ref cx, .int ip, .int iq, .int ir] (pY (dC, dI) [(cx, .inr (1, [.ref ar, .ref ha, .ref hz, .int col, .int mov])), (ar, .inl (cI, 8, .inl rg)), (ha, .inr (0, [.ref wa, .int us, .int ob])), (wa, .inl (cI, n, .inl f)), (hz, .inr (0, [.ref wz, .int us2, .int ob2])), (wz, .inl (cI, n, .inl f2))] [(cI, .int)] sa sz)) (va_Qi (fun (r : Int32) (u : (Nat → Int32) × Int32 × Int32 × (Nat → Int32) × Int32 × Int32 × (Nat → Int32) × Int32 × Int32) => fX1_raw n rg us ob f us2 ob2 f2 col mov ip iq ir = (0, r, u)) (atX1_raw dC dI cI (va_A [(cx, .inr (1, [.ref ar, .ref ha, .ref hz, .int col, .int mov])), (ar, .inl (cI, 8, .inl rg)), (ha, .inr (0, [.ref wa, .int us, .int ob])), (wa, .inl (cI, n, .inl f)), (hz, .inr (0, [.ref wz, .int us2, .int ob2])), (wz, .inl (cI, n, .inl f2))] sz) cx ar ha wa hz wz n) (va_A [(cx, .inr (1, [.ref ar, .ref ha, .ref hz, .int col, .int mov])), (ar, .inl (cI, 8, .inl rg)), (ha, .inr (0, [.ref wa, .int us, .int ob])), (wa, .inl (cI, n, .inl f)), (hz, .inr (0, [.ref wz, .int us2, .int ob2])), (wz, .inl (cI, n, .inl f2))] sz)) (vx_X (fun v : Nat × ((Nat → Int32) × Int32 × Int32 × (Nat → Int32) × Int32 × Int32 × (Nat → Int32) × Int32 × Int32) => fX1_raw n rg us ob f us2 ob2 f2 col mov ip iq ir = (v.1, 0, v.2) ∧ v.1 ≠ 0) (fun E v t => E = exN v.1 ∧ atX1_raw dC dI cI (va_A [(cx, .inr (1, [.ref ar, .ref ha, .ref hz, .int col, .int mov])), (ar, .inl (cI, 8, .inl rg)), (ha, .inr (0, [.ref wa, .int us, .int ob])), (wa, .inl (cI, n, .inl f)), (hz, .inr (0, [.ref wz, .int us2, .int ob2])), (wz, .inl (cI, n, .inl f2))] sz) cx ar ha wa hz wz n v.2 t) (va_A [(cx, .inr (1, [.ref ar, .ref ha, .ref hz, .int col, .int mov])), (ar, .inl (cI, 8, .inl rg)), (ha, .inr (0, [.ref wa, .int us, .int ob])), (wa, .inl (cI, n, .inl f)), (hz, .inr (0, [.ref wz, .int us2, .int ob2])), (wz, .inl (cI, n, .inl f2))] sz)) 5 30 (va_A [(cx, .inr (1, [.ref ar, .ref ha, .ref hz, .int col, .int mov])), (ar, .inl (cI, 8, .inl rg)), (ha, .inr (0, [.ref wa, .int us, .int ob])), (wa, .inl (cI, n, .inl f)), (hz, .inr (0, [.ref wz, .int us2, .int ob2])), (wz, .inl (cI, n, .inl f2))] sz) := by
  refine vx_ofW (cc := cX1_raw) (maxL := 6) (ret := (some .int)) (by decide) rfl ?_
  intro p e s m args below meth c s₁ B hml hEx hv
  obtain ⟨rfl, hsz, hP, hK, hD0, hE, hX⟩ := hv
  have hx := B.exec
  have hb := B.bytes
  have hr := B.returns
  have ht : ∀ w ∈ gT, w.before ([.ref cx, .int ip, .int iq, .int ir] : List Value).toArray s = true := fun w h => atoms_spec (ws := kX1_raw :: gT) B.pre w (List.mem_cons_of_mem _ h)
  have hown : s.vm.findClass RX1 = some m.cls := findClass_of_methodNamed B.named
  have hlocks := B.notSynchronized
  subst hsz
  have hD := hD0.self (sz := s.heap.size)
  generalize hAe : va_A [(cx, .inr (1, [.ref ar, .ref ha, .ref hz, .int col, .int mov])), (ar, .inl (cI, 8, .inl rg)), (ha, .inr (0, [.ref wa, .int us, .int ob])), (wa, .inl (cI, n, .inl f)), (hz, .inr (0, [.ref wz, .int us2, .int ob2])), (wz, .inl (cI, n, .inl f2))] s.heap.size = A at hD hX ⊢
  have hA : ∀ q : Nat, s.heap.size ≤ q → A q := fun q h => by rw [← hAe]; exact Or.inr h
  have hS : va_S A s.heap s.heap [] := va_S.rf
  have hl := lv_entry ([.ref cx, .int ip, .int iq, .int ir]) (n := 6) (Nat.le_of_ble_eq_true rfl)
  rw [lg_entry_eq]
  generalize (lg_sl ([.ref cx, .int ip, .int iq, .int ir]) ++ List.replicate (6 - (lg_sl ([.ref cx, .int ip, .int iq, .int ir])).length) Slot.unset).toArray = ls at hl ⊢
  have hl : lv_has ls 6 [(0, .ref cx), (1, .int ip), (2, .int iq), (3, .int ir)] := hl
  refine lv_iload_n hx hb dX1_raw_0 rfl (lv_at hl 1 rfl) ?_
  have hPc := hP.sub (ws' := []) [] rfl
  have hKc := hK.sub (tys' := []) [] rfl
  have hFc := nilF hS hA
  refine vx_callv (vx_runS (As := [.int ip]) (rest := []) ⟨hx, hb, hml, hown, ht⟩ (ctX1_requireRegister l hl9 dC dI cI sa ip _ ) (cwS 1 ht gcX1_25 rfl rfl rfl (by decide +kernel) ⟨Nat.le_of_ble_eq_true rfl, Nat.le_of_ble_eq_true rfl⟩) ⟨pR.blind, pR.call hPc hKc hE hX hS hFc⟩ rfl rfl hl.1 rfl (lv_room (Nat.le_of_ble_eq_true rfl)) dX1_raw_1 ⟨Nat.le_of_ble_eq_true rfl, Nat.le_of_ble_eq_true rfl⟩) hS (fun q _ h => hFc q h) hFc (fun q _ h => hFc q h) (fun E ce q9 u_1 t H1 locs ht9 hvm hp hB hz1 hk1 hS hce hcv hcl => ?_) (fun u_1 t H1 locs ht9 hvm hw hB hz1 hk1 hS => ?_)
  · obtain ⟨hpe, hpk⟩ := hp
    have hB := hB
    obtain rfl : u_1 = ((fX1_requireRegister ip).1, (fX1_requireRegister ip).2.2) := by rw [hpe]
    have c_3 : ¬ (fX1_requireRegister ip).1 = 0 := hpk
    subst hB
    have hP1 := nilP (D := (dC, dI)) (H := H1)
    have hP := rKeep hP hk1
    generalize H1 = H at hP hS hce ⊢
    have hP9 := hP.sub (ws' := [(cx, .inr (1, [.ref ar, .ref ha, .ref hz, .int col, .int mov])), (ar, .inl (cI, 8, .inl rg)), (ha, .inr (0, [.ref wa, .int us, .int ob])), (wa, .inl (cI, n, .inl f)), (hz, .inr (0, [.ref wz, .int us2, .int ob2])), (wz, .inl (cI, n, .inl f2))]) [0, 1, 2, 3, 4, 5] rfl
    have hD9 := hD.sub (ws' := [(cx, .inr (1, [.ref ar, .ref ha, .ref hz, .int col, .int mov])), (ar, .inl (cI, 8, .inl rg)), (ha, .inr (0, [.ref wa, .int us, .int ob])), (wa, .inl (cI, n, .inl f)), (hz, .inr (0, [.ref wz, .int us2, .int ob2])), (wz, .inl (cI, n, .inl f2))]) [0, 1, 2, 3, 4, 5] (by decide) rfl
    have hK9 := hK.sub (tys' := [(cI, .int)]) [0] rfl
    exact vx_out (fun x hx => (hEx x hx).elim) hlocks hce hcv hcl (fun t ht ha => ⟨((fX1_requireRegister ip).1, (rg, us, ob, f, us2, ob2, f2, col, mov)), ⟨(by simp only [fX1_raw, if_neg c_3]), hpk⟩, ⟨rfl, by rw [ht]; exact hP9, va_K.moved ha hK9, hD9⟩, hS.F ht⟩) hS.2.2 (Nat.le_of_ble_eq_true rfl) (Nat.le_of_ble_eq_true rfl)
  · have c_3 : (fX1_requireRegister ip).1 = 0 := by rw [hw]
    have hP := rKeep hP hk1
    generalize H1 = H at hP hS ⊢
    refine lv_aload_n hx hb dX1_raw_4 rfl (lv_at hl 0 rfl) ?_
    refine lv_iload_n hx hb dX1_raw_5 rfl (lv_at hl 1 rfl) ?_
    have hPc := hP.sub (ws' := [(cx, .inr (1, [.ref ar, .ref ha, .ref hz, .int col, .int mov])), (ar, .inl (cI, 8, .inl rg))]) [0, 1] rfl
    have hKc := hK.sub (tys' := [(cI, .int)]) [0] rfl
    have hFc := nilF hS hA
    refine vx_calli (vx_runV (As := [.int ip]) (rest := []) ⟨hx, hb, hml, hown, ht⟩ (ctX1_objectOf l hl9 dC dI cI sa cx ar ha hz col mov rg ip _ (rrIn c_3)) (cwV 1 ht gcX1_64 rfl rfl rfl (by decide +kernel) ⟨Nat.le_of_ble_eq_true rfl, Nat.le_of_ble_eq_true rfl⟩) ⟨pR.blind, va_recv hKc hPc (ci := 1) (q0 := 0) rfl rfl, pR.call hPc hKc hE hX hS hFc⟩ rfl rfl hl.1 rfl (lv_room (Nat.le_of_ble_eq_true rfl)) dX1_raw_6 ⟨Nat.le_of_ble_eq_true rfl, Nat.le_of_ble_eq_true rfl⟩) hS (fun q _ h => hFc q h) hFc (fun q _ h => hFc q h) (fun E ce q9 u_4 t H1 locs ht9 hvm hp hB hz1 hk1 hS hce hcv hcl => ?_) (fun r_5 u_4 t H1 locs ht9 hvm hw hB hz1 hk1 hS => ?_)
    · obtain ⟨hpe, hpk⟩ := hp
      have hB := hB
      obtain rfl : u_4 = ((fX1_objectOf rg ip).1, (fX1_objectOf rg ip).2.2) := by rw [hpe]
      have c_6 : ¬ (fX1_objectOf rg ip).1 = 0 := hpk
      subst hB
      have hP1 := nilP (D := (dC, dI)) (H := H1)
      have hP := rKeep hP hk1
      generalize H1 = H at hP hS hce ⊢
      have hP9 := hP.sub (ws' := [(cx, .inr (1, [.ref ar, .ref ha, .ref hz, .int col, .int mov])), (ar, .inl (cI, 8, .inl rg)), (ha, .inr (0, [.ref wa, .int us, .int ob])), (wa, .inl (cI, n, .inl f)), (hz, .inr (0, [.ref wz, .int us2, .int ob2])), (wz, .inl (cI, n, .inl f2))]) [0, 1, 2, 3, 4, 5] rfl
      have hD9 := hD.sub (ws' := [(cx, .inr (1, [.ref ar, .ref ha, .ref hz, .int col, .int mov])), (ar, .inl (cI, 8, .inl rg)), (ha, .inr (0, [.ref wa, .int us, .int ob])), (wa, .inl (cI, n, .inl f)), (hz, .inr (0, [.ref wz, .int us2, .int ob2])), (wz, .inl (cI, n, .inl f2))]) [0, 1, 2, 3, 4, 5] (by decide) rfl
      have hK9 := hK.sub (tys' := [(cI, .int)]) [0] rfl
      exact vx_out (fun x hx => (hEx x hx).elim) hlocks hce hcv hcl (fun t ht ha => ⟨((fX1_objectOf rg ip).1, (rg, us, ob, f, us2, ob2, f2, col, mov)), ⟨(by simp only [fX1_raw, if_pos c_3, if_neg c_6]), hpk⟩, ⟨rfl, by rw [ht]; exact hP9, va_K.moved ha hK9, hD9⟩, hS.F ht⟩) hS.2.2 (Nat.le_of_ble_eq_true rfl) (Nat.le_of_ble_eq_true rfl)
    · have c_6 : (fX1_objectOf rg ip).1 = 0 := by rw [hw]
      obtain rfl : r_5 = (fX1_objectOf rg ip).2.1 := by rw [hw]
      have hP := rKeep hP hk1
      generalize H1 = H at hP hS ⊢
      refine lv_istore (lv' := [(4, .int ((fX1_objectOf rg ip).2.1)), (0, .ref cx), (1, .int ip), (2, .int iq), (3, .int ir)]) hx hb dX1_raw_9 hl (by decide) rfl (fun ls hl => ?_)
      refine lv_aload_n hx hb dX1_raw_11 rfl (lv_at hl 1 rfl) ?_
      refine va_get (D := (dC, dI)) (ci := 1) (v := .ref ha) (C := RX1) (T := TX1) (N := 5) hx hb ht iX1 hown hK hP 0 rfl rfl 1 (by decide) (ht _ g_39) (fun _ h9 => h9) rfl dX1_raw_12 ?_
      refine lv_iload hx hb dX1_raw_15 (lv_at hl 0 rfl) ?_
      have hPc := hP.sub (ws' := [(ha, .inr (0, [.ref wa, .int us, .int ob])), (wa, .inl (cI, n, .inl f))]) [2, 3] rfl
      have hKc := hK.sub (tys' := [(cI, .int)]) [0] rfl
      refine vp_callSi (va_runV (As := [.int ((fX1_objectOf rg ip).2.1)]) (rest := []) ⟨hx, hb, hml, hown, ht⟩ (ctX0_kindAt l dC dI cI ha wa n us ob f ((fX1_objectOf rg ip).2.1) hn) (cwV 1 ht gcX1_67 rfl rfl rfl (by decide +kernel) ⟨Nat.le_of_ble_eq_true rfl, Nat.le_of_ble_eq_true rfl⟩) ⟨pS.blind, va_recv hKc hPc (ci := 0) (q0 := 0) rfl rfl, pS.call hPc hKc hE⟩ rfl rfl hl.1 rfl (lv_room (Nat.le_of_ble_eq_true rfl)) dX1_raw_17 ⟨Nat.le_of_ble_eq_true rfl, Nat.le_of_ble_eq_true rfl⟩).run (fun r_7 hr_7 => ?_)
      subst hr_7
      refine lv_iconst (v := 1) hx hb dX1_raw_20 (by decide) ?_
      refine lv_icmp_eq (tgt := 34) hx hb dX1_raw_21 (by decide) (fun c_8 => ?_) (fun c_8 => ?_)
      · refine lv_aload_n hx hb dX1_raw_34 rfl (lv_at hl 1 rfl) ?_
        refine lv_iload hx hb dX1_raw_35 (lv_at hl 0 rfl) ?_
        refine lv_iload_n hx hb dX1_raw_37 rfl (lv_at hl 3 rfl) ?_
        have hPc := hP.sub (ws' := [(cx, .inr (1, [.ref ar, .ref ha, .ref hz, .int col, .int mov])), (ha, .inr (0, [.ref wa, .int us, .int ob])), (wa, .inl (cI, n, .inl f))]) [0, 2, 3] rfl
        have hKc := hK.sub (tys' := [(cI, .int)]) [0] rfl
        have hFc := nilF hS hA
        refine vx_callv (vx_runV (As := [.int ((fX1_objectOf rg ip).2.1), .int iq]) (rest := []) ⟨hx, hb, hml, hown, ht⟩ (ctX1_requireField l hl9 dC dI cI sa cx ar ha wa hz n col mov us ob f ((fX1_objectOf rg ip).2.1) iq _ hn) (cwV 2 ht gcX1_72 rfl rfl rfl (by decide +kernel) ⟨Nat.le_of_ble_eq_true rfl, Nat.le_of_ble_eq_true rfl⟩) ⟨pR.blind, va_recv hKc hPc (ci := 1) (q0 := 0) rfl rfl, pR.call hPc hKc hE hX hS hFc⟩ rfl rfl hl.1 rfl (lv_room (Nat.le_of_ble_eq_true rfl)) dX1_raw_38 ⟨Nat.le_of_ble_eq_true rfl, Nat.le_of_ble_eq_true rfl⟩) hS (fun q _ h => hFc q h) hFc (fun q _ h => hFc q h) (fun E ce q9 u_9 t H1 locs ht9 hvm hp hB hz1 hk1 hS hce hcv hcl => ?_) (fun u_9 t H1 locs ht9 hvm hw hB hz1 hk1 hS => ?_)
        · obtain ⟨hpe, hpk⟩ := hp
          have hB := hB
          obtain rfl : u_9 = ((fX1_requireField n f ((fX1_objectOf rg ip).2.1) iq).1, (fX1_requireField n f ((fX1_objectOf rg ip).2.1) iq).2.2) := by rw [hpe]
          have c_11 : ¬ (fX1_requireField n f ((fX1_objectOf rg ip).2.1) iq).1 = 0 := hpk
          subst hB
          have hP1 := nilP (D := (dC, dI)) (H := H1)
          have hP := rKeep hP hk1
          generalize H1 = H at hP hS hce ⊢
          have hP9 := hP.sub (ws' := [(cx, .inr (1, [.ref ar, .ref ha, .ref hz, .int col, .int mov])), (ar, .inl (cI, 8, .inl rg)), (ha, .inr (0, [.ref wa, .int us, .int ob])), (wa, .inl (cI, n, .inl f)), (hz, .inr (0, [.ref wz, .int us2, .int ob2])), (wz, .inl (cI, n, .inl f2))]) [0, 1, 2, 3, 4, 5] rfl
          have hD9 := hD.sub (ws' := [(cx, .inr (1, [.ref ar, .ref ha, .ref hz, .int col, .int mov])), (ar, .inl (cI, 8, .inl rg)), (ha, .inr (0, [.ref wa, .int us, .int ob])), (wa, .inl (cI, n, .inl f)), (hz, .inr (0, [.ref wz, .int us2, .int ob2])), (wz, .inl (cI, n, .inl f2))]) [0, 1, 2, 3, 4, 5] (by decide) rfl
          have hK9 := hK.sub (tys' := [(cI, .int)]) [0] rfl
          exact vx_out (fun x hx => (hEx x hx).elim) hlocks hce hcv hcl (fun t ht ha => ⟨((fX1_requireField n f ((fX1_objectOf rg ip).2.1) iq).1, (rg, us, ob, f, us2, ob2, f2, col, mov)), ⟨(by simp only [fX1_raw, if_pos c_3, if_pos c_6, if_pos c_8, if_neg c_11]), hpk⟩, ⟨rfl, by rw [ht]; exact hP9, va_K.moved ha hK9, hD9⟩, hS.F ht⟩) hS.2.2 (Nat.le_of_ble_eq_true rfl) (Nat.le_of_ble_eq_true rfl)
        · have c_11 : (fX1_requireField n f ((fX1_objectOf rg ip).2.1) iq).1 = 0 := by rw [hw]
          have hP := rKeep hP hk1
          generalize H1 = H at hP hS ⊢
          refine lv_aload_n hx hb dX1_raw_41 rfl (lv_at hl 1 rfl) ?_
          refine va_get (D := (dC, dI)) (ci := 1) (v := .ref ha) (C := RX1) (T := TX1) (N := 5) hx hb ht iX1 hown hK hP 0 rfl rfl 1 (by decide) (ht _ g_39) (fun _ h9 => h9) rfl dX1_raw_42 ?_
          refine lv_iload hx hb dX1_raw_45 (lv_at hl 0 rfl) ?_
          refine lv_iconst (v := 1) hx hb dX1_raw_47 (by decide) ?_
          refine lv_iadd hx hb dX1_raw_48 ?_
          refine lv_iload_n hx hb dX1_raw_49 rfl (lv_at hl 3 rfl) ?_
          refine lv_iadd hx hb dX1_raw_50 ?_
          have hPc := hP.sub (ws' := [(ha, .inr (0, [.ref wa, .int us, .int ob])), (wa, .inl (cI, n, .inl f))]) [2, 3] rfl
          have hKc := hK.sub (tys' := [(cI, .int)]) [0] rfl
          refine vp_callSi (va_runV (As := [.int ((((fX1_objectOf rg ip).2.1) + 1) + iq)]) (rest := []) ⟨hx, hb, hml, hown, ht⟩ (ctX0_wordAt l dC dI cI ha wa n us ob f ((((fX1_objectOf rg ip).2.1) + 1) + iq) hn) (cwV 1 ht gcX1_81 rfl rfl rfl (by decide +kernel) ⟨Nat.le_of_ble_eq_true rfl, Nat.le_of_ble_eq_true rfl⟩) ⟨pS.blind, va_recv hKc hPc (ci := 0) (q0 := 0) rfl rfl, pS.call hPc hKc hE⟩ rfl rfl hl.1 rfl (lv_room (Nat.le_of_ble_eq_true rfl)) dX1_raw_51 ⟨Nat.le_of_ble_eq_true rfl, Nat.le_of_ble_eq_true rfl⟩).run (fun r_12 hr_12 => ?_)
          subst hr_12
          refine lv_istore (lv' := [(5, .int (fX0_wordAt n f ((((fX1_objectOf rg ip).2.1) + 1) + iq))), (4, .int ((fX1_objectOf rg ip).2.1)), (0, .ref cx), (1, .int ip), (2, .int iq), (3, .int ir)]) hx hb dX1_raw_54 hl (by decide) rfl (fun ls hl => ?_)
          refine lv_aload_n hx hb dX1_raw_56 rfl (lv_at hl 2 rfl) ?_
          refine va_get (D := (dC, dI)) (ci := 1) (v := .ref ha) (C := RX1) (T := TX1) (N := 5) hx hb ht iX1 hown hK hP 0 rfl rfl 1 (by decide) (ht _ g_39) (fun _ h9 => h9) rfl dX1_raw_57 ?_
          refine lv_iload hx hb dX1_raw_60 (lv_at hl 1 rfl) ?_
          refine lv_iconst (v := 1) hx hb dX1_raw_62 (by decide) ?_
          refine lv_iadd hx hb dX1_raw_63 ?_
          refine lv_iload_n hx hb dX1_raw_64 rfl (lv_at hl 4 rfl) ?_
          refine lv_iadd hx hb dX1_raw_65 ?_
          refine lv_iload_n hx hb dX1_raw_66 rfl (lv_at hl 5 rfl) ?_
          have hPc := hP.sub (ws' := [(ha, .inr (0, [.ref wa, .int us, .int ob])), (wa, .inl (cI, n, .inl f))]) [2, 3] rfl
          have hKc := hK.sub (tys' := [(cI, .int)]) [0] rfl
          have hDc := hD.sub (ws' := [(ha, .inr (0, [.ref wa, .int us, .int ob])), (wa, .inl (cI, n, .inl f))]) [2, 3] (by decide) rfl
          have hFc := va_free (wc := [(ha, .inr (0, [.ref wa, .int us, .int ob])), (wa, .inl (cI, n, .inl f))]) hD hS hA [2, 3] rfl
          refine va_callv (va_runV (As := [.int ((((fX1_objectOf rg ip).2.1) + 1) + iq), .int ir]) (rest := []) ⟨hx, hb, hml, hown, ht⟩ (ctX0_setWord l dC dI cI ha wa n us ob f ((((fX1_objectOf rg ip).2.1) + 1) + iq) ir _ hn) (cwV 2 ht gcX1_76 rfl rfl rfl (by decide +kernel) ⟨Nat.le_of_ble_eq_true rfl, Nat.le_of_ble_eq_true rfl⟩) ⟨pM.blind, va_recv hKc hPc (ci := 0) (q0 := 0) rfl rfl, pM.call hPc hKc hDc hE⟩ rfl rfl hl.1 rfl (lv_room (Nat.le_of_ble_eq_true rfl)) dX1_raw_67 ⟨Nat.le_of_ble_eq_true rfl, Nat.le_of_ble_eq_true rfl⟩) hS (fun q _ h => hFc q h) hFc (fun u_13 t H1 locs ht9 hvm hw hB hz1 hk1 hS => ?_)
          subst hw
          obtain ⟨hP1, hK1, hD1⟩ := hB
          rw [ht9] at hP1
          obtain ⟨hP, hD⟩ := va_join (wr := [(cx, .inr (1, [.ref ar, .ref ha, .ref hz, .int col, .int mov])), (ar, .inl (cI, 8, .inl rg)), (hz, .inr (0, [.ref wz, .int us2, .int ob2])), (wz, .inl (cI, n, .inl f2))]) (w1 := [(ha, .inr (0, [.ref wa, .int ((fX0_setWord n us ob f ((((fX1_objectOf rg ip).2.1) + 1) + iq) ir).1), .int ((fX0_setWord n us ob f ((((fX1_objectOf rg ip).2.1) + 1) + iq) ir).2.1)])), (wa, .inl (cI, n, .inl ((fX0_setWord n us ob f ((((fX1_objectOf rg ip).2.1) + 1) + iq) ir).2.2)))]) hP hD [2, 3] [0, 1, 4, 5] rfl rfl (by decide) (by decide) hk1 hFc hP1 hD1
          generalize H1 = H at hP hS ⊢
          have hP := hP.sub (ws' := [(cx, .inr (1, [.ref ar, .ref ha, .ref hz, .int col, .int mov])), (ar, .inl (cI, 8, .inl rg)), (ha, .inr (0, [.ref wa, .int ((fX0_setWord n us ob f ((((fX1_objectOf rg ip).2.1) + 1) + iq) ir).1), .int ((fX0_setWord n us ob f ((((fX1_objectOf rg ip).2.1) + 1) + iq) ir).2.1)])), (wa, .inl (cI, n, .inl ((fX0_setWord n us ob f ((((fX1_objectOf rg ip).2.1) + 1) + iq) ir).2.2))), (hz, .inr (0, [.ref wz, .int us2, .int ob2])), (wz, .inl (cI, n, .inl f2))]) [0, 1, 4, 5, 2, 3] rfl
          have hD := hD.sub (ws' := [(cx, .inr (1, [.ref ar, .ref ha, .ref hz, .int col, .int mov])), (ar, .inl (cI, 8, .inl rg)), (ha, .inr (0, [.ref wa, .int ((fX0_setWord n us ob f ((((fX1_objectOf rg ip).2.1) + 1) + iq) ir).1), .int ((fX0_setWord n us ob f ((((fX1_objectOf rg ip).2.1) + 1) + iq) ir).2.1)])), (wa, .inl (cI, n, .inl ((fX0_setWord n us ob f ((((fX1_objectOf rg ip).2.1) + 1) + iq) ir).2.2))), (hz, .inr (0, [.ref wz, .int us2, .int ob2])), (wz, .inl (cI, n, .inl f2))]) [0, 1, 4, 5, 2, 3] (by decide) rfl
          refine lv_iload hx hb dX1_raw_70 (lv_at hl 0 rfl) ?_
          refine vx_ret ?_
          refine W.widen (k := 5) (n := 30) (Nat.le_of_ble_eq_true rfl) (Nat.le_of_ble_eq_true rfl) ?_
          have hP9 := hP.sub (ws' := [(cx, .inr (1, [.ref ar, .ref ha, .ref hz, .int col, .int mov])), (ar, .inl (cI, 8, .inl rg)), (ha, .inr (0, [.ref wa, .int ((fX0_setWord n us ob f ((((fX1_objectOf rg ip).2.1) + 1) + iq) ir).1), .int ((fX0_setWord n us ob f ((((fX1_objectOf rg ip).2.1) + 1) + iq) ir).2.1)])), (wa, .inl (cI, n, .inl ((fX0_setWord n us ob f ((((fX1_objectOf rg ip).2.1) + 1) + iq) ir).2.2))), (hz, .inr (0, [.ref wz, .int us2, .int ob2])), (wz, .inl (cI, n, .inl f2))]) [0, 1, 2, 3, 4, 5] rfl
          have hD9 := hD.sub (ws' := [(cx, .inr (1, [.ref ar, .ref ha, .ref hz, .int col, .int mov])), (ar, .inl (cI, 8, .inl rg)), (ha, .inr (0, [.ref wa, .int ((fX0_setWord n us ob f ((((fX1_objectOf rg ip).2.1) + 1) + iq) ir).1), .int ((fX0_setWord n us ob f ((((fX1_objectOf rg ip).2.1) + 1) + iq) ir).2.1)])), (wa, .inl (cI, n, .inl ((fX0_setWord n us ob f ((((fX1_objectOf rg ip).2.1) + 1) + iq) ir).2.2))), (hz, .inr (0, [.ref wz, .int us2, .int ob2])), (wz, .inl (cI, n, .inl f2))]) [0, 1, 2, 3, 4, 5] (by decide) rfl
          have hK9 := hK.sub (tys' := [(cI, .int)]) [0] rfl
          exact W.iret (v := fX0_wordAt n f ((((fX1_objectOf rg ip).2.1) + 1) + iq)) hx hb hr (fun t ht hW => ⟨⟨_, (rg, (fX0_setWord n us ob f ((((fX1_objectOf rg ip).2.1) + 1) + iq) ir).1, (fX0_setWord n us ob f ((((fX1_objectOf rg ip).2.1) + 1) + iq) ir).2.1, (fX0_setWord n us ob f ((((fX1_objectOf rg ip).2.1) + 1) + iq) ir).2.2, us2, ob2, f2, col, mov), rfl, (by simp only [fX1_raw, if_pos c_3, if_pos c_6, if_pos c_8, if_pos c_11]), by rw [ht]; exact hP9, va_K.moved hW.alike hK9, hD9⟩, hS.F ht⟩) hS.2.2 dX1_raw_72
      · have hP9 := hP.sub (ws' := [(cx, .inr (1, [.ref ar, .ref ha, .ref hz, .int col, .int mov])), (ar, .inl (cI, 8, .inl rg)), (ha, .inr (0, [.ref wa, .int us, .int ob])), (wa, .inl (cI, n, .inl f)), (hz, .inr (0, [.ref wz, .int us2, .int ob2])), (wz, .inl (cI, n, .inl f2))]) [0, 1, 2, 3, 4, 5] rfl
        have hD9 := hD.sub (ws' := [(cx, .inr (1, [.ref ar, .ref ha, .ref hz, .int col, .int mov])), (ar, .inl (cI, 8, .inl rg)), (ha, .inr (0, [.ref wa, .int us, .int ob])), (wa, .inl (cI, n, .inl f)), (hz, .inr (0, [.ref wz, .int us2, .int ob2])), (wz, .inl (cI, n, .inl f2))]) [0, 1, 2, 3, 4, 5] (by decide) rfl
        have hK9 := hK.sub (tys' := [(cI, .int)]) [0] rfl
        exact vx_throwS (own := RX1) (cls := "java/lang/IllegalStateException") (names := ["java/lang/RuntimeException", "java/lang/Exception"]) hx hb hl9 hown (by decide +kernel) (by decide +kernel) (ht _ g_197) (ht _ g_8) hX.s79 (thS ht hE) toS hX.zU hX.zN hS (hl.1.trans hml.symm) dX1_raw_24 dX1_raw_27 dX1_raw_28 dX1_raw_30 dX1_raw_33 (fun x hx => (hEx x hx).elim) (Nat.le_of_ble_eq_true rfl) (Nat.le_of_ble_eq_true rfl) (Nat.le_of_ble_eq_true rfl) (Nat.le_of_ble_eq_true rfl) hlocks (fun t ha hsz hk => ⟨(2, (rg, us, ob, f, us2, ob2, f2, col, mov)), ⟨(by simp only [fX1_raw, if_pos c_3, if_pos c_6, if_neg c_8]), Nat.succ_ne_zero _⟩, ⟨rfl, hP9.kept (fun k q hq => hk q.1 (hP9 k q hq).lt), va_K.moved ha hK9, hD9⟩, Nat.le_trans hS.1 hsz, fun q h1 h2 => (hk q (Nat.lt_of_lt_of_le h1 hS.1)).trans (hS.2.1 q h1 h2)⟩) hS.2.2 (Nat.le_of_ble_eq_true rfl) (Nat.le_of_ble_eq_true rfl)
def fX1_get (n : Nat) (rg : Nat → Int32) (us : Int32) (ob : Int32) (f : Nat → Int32) (us2 : Int32) (ob2 : Int32) (f2 : Nat → Int32) (col : Int32) (mov : Int32) (ip : Int32) (iq : Int32) (ir : Int32) : Nat × Int32 × (Nat → Int32) × Int32 × Int32 × (Nat → Int32) × Int32 × Int32 × (Nat → Int32) × Int32 × Int32 := (if (fX1_requireRegister ip).1 = 0 then (if (fX1_requireRegister iq).1 = 0 then (if (fX1_objectOf rg iq).1 = 0 then (if (fX1_requireField n f ((fX1_objectOf rg iq).2.1) ir).1 = 0 then (if fX0_kindAt n f ((fX1_objectOf rg iq).2.1) = 1 then (0, fX1_isReference ((upd rg ip.toNatClampNeg (fX1_asNumber (fX0_wordAt n f ((((fX1_objectOf rg iq).2.1) + 1) + ir)))) ip.toNatClampNeg), (upd rg ip.toNatClampNeg (fX1_asNumber (fX0_wordAt n f ((((fX1_objectOf rg iq).2.1) + 1) + ir))), us, ob, f, us2, ob2, f2, col, mov)) else (0, fX1_isReference ((upd rg ip.toNatClampNeg (fX0_wordAt n f ((((fX1_objectOf rg iq).2.1) + 1) + ir))) ip.toNatClampNeg), (upd rg ip.toNatClampNeg (fX0_wordAt n f ((((fX1_objectOf rg iq).2.1) + 1) + ir)), us, ob, f, us2, ob2, f2, col, mov))) else ((fX1_requireField n f ((fX1_objectOf rg iq).2.1) ir).1, 0, (rg, us, ob, f, us2, ob2, f2, col, mov))) else ((fX1_objectOf rg iq).1, 0, (rg, us, ob, f, us2, ob2, f2, col, mov))) else ((fX1_requireRegister iq).1, 0, (rg, us, ob, f, us2, ob2, f2, col, mov))) else ((fX1_requireRegister ip).1, 0, (rg, us, ob, f, us2, ob2, f2, col, mov)))
abbrev atX1_get (dC : Nat → ClassId) (dI : Nat → Nat → Nat) (cI : ClassId) (A : Nat → Prop) (cx : Nat) (ar : Nat) (ha : Nat) (wa : Nat) (hz : Nat) (wz : Nat) (n : Nat) (u : (Nat → Int32) × Int32 × Int32 × (Nat → Int32) × Int32 × Int32 × (Nat → Int32) × Int32 × Int32) (t : State) : Prop := va_P (dC, dI) vwCl [(cx, .inr (1, [.ref ar, .ref ha, .ref hz, .int u.2.2.2.2.2.2.2.1, .int u.2.2.2.2.2.2.2.2])), (ar, .inl (cI, 8, .inl u.1)), (ha, .inr (0, [.ref wa, .int u.2.1, .int u.2.2.1])), (wa, .inl (cI, n, .inl u.2.2.2.1)), (hz, .inr (0, [.ref wz, .int u.2.2.2.2.1, .int u.2.2.2.2.2.1])), (wz, .inl (cI, n, .inl u.2.2.2.2.2.2.1))] t.heap ∧ va_K (dC, dI) vwCl [(cI, .int)] t ∧ va_D A [(cx, .inr (1, [.ref ar, .ref ha, .ref hz, .int u.2.2.2.2.2.2.2.1, .int u.2.2.2.2.2.2.2.2])), (ar, .inl (cI, 8, .inl u.1)), (ha, .inr (0, [.ref wa, .int u.2.1, .int u.2.2.1])), (wa, .inl (cI, n, .inl u.2.2.2.1)), (hz, .inr (0, [.ref wz, .int u.2.2.2.2.1, .int u.2.2.2.2.2.1])), (wz, .inl (cI, n, .inl u.2.2.2.2.2.2.1))]
set_option maxHeartbeats 4000000 in
set_option maxRecDepth 100000 in
theorem ctX1_get (l : Launch) (hl9 : l.stackTraces = false) (dC : Nat → ClassId) (dI : Nat → Nat → Nat) (cI : ClassId) (sa : Nat → Nat) (cx : Nat) (ar : Nat) (ha : Nat) (wa : Nat) (hz : Nat) (wz : Nat) (n : Nat) (col : Int32) (mov : Int32) (rg : Nat → Int32) (us : Int32) (ob : Int32) (f : Nat → Int32) (us2 : Int32) (ob2 : Int32) (f2 : Nat → Int32) (ip : Int32) (iq : Int32) (ir : Int32) (sz : Nat) (hn : n < 2 ^ 31) : vx_Met l yX1_get (kX1_get :: gT) ({ frames := 7, cells := 5, slots := 30, locals := 120 }) (va_Pc [.ref cx, .int ip, .int iq, .int ir] (pY (dC, dI) [(cx, .inr (1, [.ref ar, .ref ha, .ref hz, .int col, .int mov])), (ar, .inl (cI, 8, .inl rg)), (ha, .inr (0, [.ref wa, .int us, .int ob])), (wa, .inl (cI, n, .inl f)), (hz, .inr (0, [.ref wz, .int us2, .int ob2])), (wz, .inl (cI, n, .inl f2))] [(cI, .int)] sa sz)) (va_Qi (fun (r : Int32) (u : (Nat → Int32) × Int32 × Int32 × (Nat → Int32) × Int32 × Int32 × (Nat → Int32) × Int32 × Int32) => fX1_get n rg us ob f us2 ob2 f2 col mov ip iq ir = (0, r, u)) (atX1_get dC dI cI (va_A [(cx, .inr (1, [.ref ar, .ref ha, .ref hz, .int col, .int mov])), (ar, .inl (cI, 8, .inl rg)), (ha, .inr (0, [.ref wa, .int us, .int ob])), (wa, .inl (cI, n, .inl f)), (hz, .inr (0, [.ref wz, .int us2, .int ob2])), (wz, .inl (cI, n, .inl f2))] sz) cx ar ha wa hz wz n) (va_A [(cx, .inr (1, [.ref ar, .ref ha, .ref hz, .int col, .int mov])), (ar, .inl (cI, 8, .inl rg)), (ha, .inr (0, [.ref wa, .int us, .int ob])), (wa, .inl (cI, n, .inl f)), (hz, .inr (0, [.ref wz, .int us2, .int ob2])), (wz, .inl (cI, n, .inl f2))] sz)) (vx_X (fun v : Nat × ((Nat → Int32) × Int32 × Int32 × (Nat → Int32) × Int32 × Int32 × (Nat → Int32) × Int32 × Int32) => fX1_get n rg us ob f us2 ob2 f2 col mov ip iq ir = (v.1, 0, v.2) ∧ v.1 ≠ 0) (fun E v t => E = exN v.1 ∧ atX1_get dC dI cI (va_A [(cx, .inr (1, [.ref ar, .ref ha, .ref hz, .int col, .int mov])), (ar, .inl (cI, 8, .inl rg)), (ha, .inr (0, [.ref wa, .int us, .int ob])), (wa, .inl (cI, n, .inl f)), (hz, .inr (0, [.ref wz, .int us2, .int ob2])), (wz, .inl (cI, n, .inl f2))] sz) cx ar ha wa hz wz n v.2 t) (va_A [(cx, .inr (1, [.ref ar, .ref ha, .ref hz, .int col, .int mov])), (ar, .inl (cI, 8, .inl rg)), (ha, .inr (0, [.ref wa, .int us, .int ob])), (wa, .inl (cI, n, .inl f)), (hz, .inr (0, [.ref wz, .int us2, .int ob2])), (wz, .inl (cI, n, .inl f2))] sz)) 5 30 (va_A [(cx, .inr (1, [.ref ar, .ref ha, .ref hz, .int col, .int mov])), (ar, .inl (cI, 8, .inl rg)), (ha, .inr (0, [.ref wa, .int us, .int ob])), (wa, .inl (cI, n, .inl f)), (hz, .inr (0, [.ref wz, .int us2, .int ob2])), (wz, .inl (cI, n, .inl f2))] sz) := by
  refine vx_ofW (cc := cX1_get) (maxL := 6) (ret := (some .boolean)) (by decide) rfl ?_
  intro p e s m args below meth c s₁ B hml hEx hv
  obtain ⟨rfl, hsz, hP, hK, hD0, hE, hX⟩ := hv
  have hx := B.exec
  have hb := B.bytes
  have hr := B.returns
  have ht : ∀ w ∈ gT, w.before ([.ref cx, .int ip, .int iq, .int ir] : List Value).toArray s = true := fun w h => atoms_spec (ws := kX1_get :: gT) B.pre w (List.mem_cons_of_mem _ h)
  have hown : s.vm.findClass RX1 = some m.cls := findClass_of_methodNamed B.named
  have hlocks := B.notSynchronized
  subst hsz
  have hD := hD0.self (sz := s.heap.size)
  generalize hAe : va_A [(cx, .inr (1, [.ref ar, .ref ha, .ref hz, .int col, .int mov])), (ar, .inl (cI, 8, .inl rg)), (ha, .inr (0, [.ref wa, .int us, .int ob])), (wa, .inl (cI, n, .inl f)), (hz, .inr (0, [.ref wz, .int us2, .int ob2])), (wz, .inl (cI, n, .inl f2))] s.heap.size = A at hD hX ⊢
  have hA : ∀ q : Nat, s.heap.size ≤ q → A q := fun q h => by rw [← hAe]; exact Or.inr h
  have hS : va_S A s.heap s.heap [] := va_S.rf
  have hl := lv_entry ([.ref cx, .int ip, .int iq, .int ir]) (n := 6) (Nat.le_of_ble_eq_true rfl)
  rw [lg_entry_eq]
  generalize (lg_sl ([.ref cx, .int ip, .int iq, .int ir]) ++ List.replicate (6 - (lg_sl ([.ref cx, .int ip, .int iq, .int ir])).length) Slot.unset).toArray = ls at hl ⊢
  have hl : lv_has ls 6 [(0, .ref cx), (1, .int ip), (2, .int iq), (3, .int ir)] := hl
  refine lv_iload_n hx hb dX1_get_0 rfl (lv_at hl 1 rfl) ?_
  have hPc := hP.sub (ws' := []) [] rfl
  have hKc := hK.sub (tys' := []) [] rfl
  have hFc := nilF hS hA
  refine vx_callv (vx_runS (As := [.int ip]) (rest := []) ⟨hx, hb, hml, hown, ht⟩ (ctX1_requireRegister l hl9 dC dI cI sa ip _ ) (cwS 1 ht gcX1_25 rfl rfl rfl (by decide +kernel) ⟨Nat.le_of_ble_eq_true rfl, Nat.le_of_ble_eq_true rfl⟩) ⟨pR.blind, pR.call hPc hKc hE hX hS hFc⟩ rfl rfl hl.1 rfl (lv_room (Nat.le_of_ble_eq_true rfl)) dX1_get_1 ⟨Nat.le_of_ble_eq_true rfl, Nat.le_of_ble_eq_true rfl⟩) hS (fun q _ h => hFc q h) hFc (fun q _ h => hFc q h) (fun E ce q9 u_1 t H1 locs ht9 hvm hp hB hz1 hk1 hS hce hcv hcl => ?_) (fun u_1 t H1 locs ht9 hvm hw hB hz1 hk1 hS => ?_)
  · obtain ⟨hpe, hpk⟩ := hp
    have hB := hB
    obtain rfl : u_1 = ((fX1_requireRegister ip).1, (fX1_requireRegister ip).2.2) := by rw [hpe]
    have c_3 : ¬ (fX1_requireRegister ip).1 = 0 := hpk
    subst hB
    have hP1 := nilP (D := (dC, dI)) (H := H1)
    have hP := rKeep hP hk1
    generalize H1 = H at hP hS hce ⊢
    have hP9 := hP.sub (ws' := [(cx, .inr (1, [.ref ar, .ref ha, .ref hz, .int col, .int mov])), (ar, .inl (cI, 8, .inl rg)), (ha, .inr (0, [.ref wa, .int us, .int ob])), (wa, .inl (cI, n, .inl f)), (hz, .inr (0, [.ref wz, .int us2, .int ob2])), (wz, .inl (cI, n, .inl f2))]) [0, 1, 2, 3, 4, 5] rfl
    have hD9 := hD.sub (ws' := [(cx, .inr (1, [.ref ar, .ref ha, .ref hz, .int col, .int mov])), (ar, .inl (cI, 8, .inl rg)), (ha, .inr (0, [.ref wa, .int us, .int ob])), (wa, .inl (cI, n, .inl f)), (hz, .inr (0, [.ref wz, .int us2, .int ob2])), (wz, .inl (cI, n, .inl f2))]) [0, 1, 2, 3, 4, 5] (by decide) rfl
    have hK9 := hK.sub (tys' := [(cI, .int)]) [0] rfl
    exact vx_out (fun x hx => (hEx x hx).elim) hlocks hce hcv hcl (fun t ht ha => ⟨((fX1_requireRegister ip).1, (rg, us, ob, f, us2, ob2, f2, col, mov)), ⟨(by simp only [fX1_get, if_neg c_3]), hpk⟩, ⟨rfl, by rw [ht]; exact hP9, va_K.moved ha hK9, hD9⟩, hS.F ht⟩) hS.2.2 (Nat.le_of_ble_eq_true rfl) (Nat.le_of_ble_eq_true rfl)
  · have c_3 : (fX1_requireRegister ip).1 = 0 := by rw [hw]
    have hP := rKeep hP hk1
    generalize H1 = H at hP hS ⊢
    refine lv_iload_n hx hb dX1_get_4 rfl (lv_at hl 2 rfl) ?_
    have hPc := hP.sub (ws' := []) [] rfl
    have hKc := hK.sub (tys' := []) [] rfl
    have hFc := nilF hS hA
    refine vx_callv (vx_runS (As := [.int iq]) (rest := []) ⟨hx, hb, hml, hown, ht⟩ (ctX1_requireRegister l hl9 dC dI cI sa iq _ ) (cwS 1 ht gcX1_25 rfl rfl rfl (by decide +kernel) ⟨Nat.le_of_ble_eq_true rfl, Nat.le_of_ble_eq_true rfl⟩) ⟨pR.blind, pR.call hPc hKc hE hX hS hFc⟩ rfl rfl hl.1 rfl (lv_room (Nat.le_of_ble_eq_true rfl)) dX1_get_5 ⟨Nat.le_of_ble_eq_true rfl, Nat.le_of_ble_eq_true rfl⟩) hS (fun q _ h => hFc q h) hFc (fun q _ h => hFc q h) (fun E ce q9 u_4 t H1 locs ht9 hvm hp hB hz1 hk1 hS hce hcv hcl => ?_) (fun u_4 t H1 locs ht9 hvm hw hB hz1 hk1 hS => ?_)
    · obtain ⟨hpe, hpk⟩ := hp
      have hB := hB
      obtain rfl : u_4 = ((fX1_requireRegister iq).1, (fX1_requireRegister iq).2.2) := by rw [hpe]
      have c_6 : ¬ (fX1_requireRegister iq).1 = 0 := hpk
      subst hB
      have hP1 := nilP (D := (dC, dI)) (H := H1)
      have hP := rKeep hP hk1
      generalize H1 = H at hP hS hce ⊢
      have hP9 := hP.sub (ws' := [(cx, .inr (1, [.ref ar, .ref ha, .ref hz, .int col, .int mov])), (ar, .inl (cI, 8, .inl rg)), (ha, .inr (0, [.ref wa, .int us, .int ob])), (wa, .inl (cI, n, .inl f)), (hz, .inr (0, [.ref wz, .int us2, .int ob2])), (wz, .inl (cI, n, .inl f2))]) [0, 1, 2, 3, 4, 5] rfl
      have hD9 := hD.sub (ws' := [(cx, .inr (1, [.ref ar, .ref ha, .ref hz, .int col, .int mov])), (ar, .inl (cI, 8, .inl rg)), (ha, .inr (0, [.ref wa, .int us, .int ob])), (wa, .inl (cI, n, .inl f)), (hz, .inr (0, [.ref wz, .int us2, .int ob2])), (wz, .inl (cI, n, .inl f2))]) [0, 1, 2, 3, 4, 5] (by decide) rfl
      have hK9 := hK.sub (tys' := [(cI, .int)]) [0] rfl
      exact vx_out (fun x hx => (hEx x hx).elim) hlocks hce hcv hcl (fun t ht ha => ⟨((fX1_requireRegister iq).1, (rg, us, ob, f, us2, ob2, f2, col, mov)), ⟨(by simp only [fX1_get, if_pos c_3, if_neg c_6]), hpk⟩, ⟨rfl, by rw [ht]; exact hP9, va_K.moved ha hK9, hD9⟩, hS.F ht⟩) hS.2.2 (Nat.le_of_ble_eq_true rfl) (Nat.le_of_ble_eq_true rfl)
    · have c_6 : (fX1_requireRegister iq).1 = 0 := by rw [hw]
      have hP := rKeep hP hk1
      generalize H1 = H at hP hS ⊢
      refine lv_aload_n hx hb dX1_get_8 rfl (lv_at hl 0 rfl) ?_
      refine lv_iload_n hx hb dX1_get_9 rfl (lv_at hl 2 rfl) ?_
      have hPc := hP.sub (ws' := [(cx, .inr (1, [.ref ar, .ref ha, .ref hz, .int col, .int mov])), (ar, .inl (cI, 8, .inl rg))]) [0, 1] rfl
      have hKc := hK.sub (tys' := [(cI, .int)]) [0] rfl
      have hFc := nilF hS hA
      refine vx_calli (vx_runV (As := [.int iq]) (rest := []) ⟨hx, hb, hml, hown, ht⟩ (ctX1_objectOf l hl9 dC dI cI sa cx ar ha hz col mov rg iq _ (rrIn c_6)) (cwV 1 ht gcX1_64 rfl rfl rfl (by decide +kernel) ⟨Nat.le_of_ble_eq_true rfl, Nat.le_of_ble_eq_true rfl⟩) ⟨pR.blind, va_recv hKc hPc (ci := 1) (q0 := 0) rfl rfl, pR.call hPc hKc hE hX hS hFc⟩ rfl rfl hl.1 rfl (lv_room (Nat.le_of_ble_eq_true rfl)) dX1_get_10 ⟨Nat.le_of_ble_eq_true rfl, Nat.le_of_ble_eq_true rfl⟩) hS (fun q _ h => hFc q h) hFc (fun q _ h => hFc q h) (fun E ce q9 u_7 t H1 locs ht9 hvm hp hB hz1 hk1 hS hce hcv hcl => ?_) (fun r_8 u_7 t H1 locs ht9 hvm hw hB hz1 hk1 hS => ?_)
      · obtain ⟨hpe, hpk⟩ := hp
        have hB := hB
        obtain rfl : u_7 = ((fX1_objectOf rg iq).1, (fX1_objectOf rg iq).2.2) := by rw [hpe]
        have c_9 : ¬ (fX1_objectOf rg iq).1 = 0 := hpk
        subst hB
        have hP1 := nilP (D := (dC, dI)) (H := H1)
        have hP := rKeep hP hk1
        generalize H1 = H at hP hS hce ⊢
        have hP9 := hP.sub (ws' := [(cx, .inr (1, [.ref ar, .ref ha, .ref hz, .int col, .int mov])), (ar, .inl (cI, 8, .inl rg)), (ha, .inr (0, [.ref wa, .int us, .int ob])), (wa, .inl (cI, n, .inl f)), (hz, .inr (0, [.ref wz, .int us2, .int ob2])), (wz, .inl (cI, n, .inl f2))]) [0, 1, 2, 3, 4, 5] rfl
        have hD9 := hD.sub (ws' := [(cx, .inr (1, [.ref ar, .ref ha, .ref hz, .int col, .int mov])), (ar, .inl (cI, 8, .inl rg)), (ha, .inr (0, [.ref wa, .int us, .int ob])), (wa, .inl (cI, n, .inl f)), (hz, .inr (0, [.ref wz, .int us2, .int ob2])), (wz, .inl (cI, n, .inl f2))]) [0, 1, 2, 3, 4, 5] (by decide) rfl
        have hK9 := hK.sub (tys' := [(cI, .int)]) [0] rfl
        exact vx_out (fun x hx => (hEx x hx).elim) hlocks hce hcv hcl (fun t ht ha => ⟨((fX1_objectOf rg iq).1, (rg, us, ob, f, us2, ob2, f2, col, mov)), ⟨(by simp only [fX1_get, if_pos c_3, if_pos c_6, if_neg c_9]), hpk⟩, ⟨rfl, by rw [ht]; exact hP9, va_K.moved ha hK9, hD9⟩, hS.F ht⟩) hS.2.2 (Nat.le_of_ble_eq_true rfl) (Nat.le_of_ble_eq_true rfl)
      · have c_9 : (fX1_objectOf rg iq).1 = 0 := by rw [hw]
        obtain rfl : r_8 = (fX1_objectOf rg iq).2.1 := by rw [hw]
        have hP := rKeep hP hk1
        generalize H1 = H at hP hS ⊢
        refine lv_istore (lv' := [(4, .int ((fX1_objectOf rg iq).2.1)), (0, .ref cx), (1, .int ip), (2, .int iq), (3, .int ir)]) hx hb dX1_get_13 hl (by decide) rfl (fun ls hl => ?_)
        refine lv_aload_n hx hb dX1_get_15 rfl (lv_at hl 1 rfl) ?_
        refine lv_iload hx hb dX1_get_16 (lv_at hl 0 rfl) ?_
        refine lv_iload_n hx hb dX1_get_18 rfl (lv_at hl 4 rfl) ?_
        have hPc := hP.sub (ws' := [(cx, .inr (1, [.ref ar, .ref ha, .ref hz, .int col, .int mov])), (ha, .inr (0, [.ref wa, .int us, .int ob])), (wa, .inl (cI, n, .inl f))]) [0, 2, 3] rfl
        have hKc := hK.sub (tys' := [(cI, .int)]) [0] rfl
        have hFc := nilF hS hA
        refine vx_callv (vx_runV (As := [.int ((fX1_objectOf rg iq).2.1), .int ir]) (rest := []) ⟨hx, hb, hml, hown, ht⟩ (ctX1_requireField l hl9 dC dI cI sa cx ar ha wa hz n col mov us ob f ((fX1_objectOf rg iq).2.1) ir _ hn) (cwV 2 ht gcX1_72 rfl rfl rfl (by decide +kernel) ⟨Nat.le_of_ble_eq_true rfl, Nat.le_of_ble_eq_true rfl⟩) ⟨pR.blind, va_recv hKc hPc (ci := 1) (q0 := 0) rfl rfl, pR.call hPc hKc hE hX hS hFc⟩ rfl rfl hl.1 rfl (lv_room (Nat.le_of_ble_eq_true rfl)) dX1_get_19 ⟨Nat.le_of_ble_eq_true rfl, Nat.le_of_ble_eq_true rfl⟩) hS (fun q _ h => hFc q h) hFc (fun q _ h => hFc q h) (fun E ce q9 u_10 t H1 locs ht9 hvm hp hB hz1 hk1 hS hce hcv hcl => ?_) (fun u_10 t H1 locs ht9 hvm hw hB hz1 hk1 hS => ?_)
        · obtain ⟨hpe, hpk⟩ := hp
          have hB := hB
          obtain rfl : u_10 = ((fX1_requireField n f ((fX1_objectOf rg iq).2.1) ir).1, (fX1_requireField n f ((fX1_objectOf rg iq).2.1) ir).2.2) := by rw [hpe]
          have c_12 : ¬ (fX1_requireField n f ((fX1_objectOf rg iq).2.1) ir).1 = 0 := hpk
          subst hB
          have hP1 := nilP (D := (dC, dI)) (H := H1)
          have hP := rKeep hP hk1
          generalize H1 = H at hP hS hce ⊢
          have hP9 := hP.sub (ws' := [(cx, .inr (1, [.ref ar, .ref ha, .ref hz, .int col, .int mov])), (ar, .inl (cI, 8, .inl rg)), (ha, .inr (0, [.ref wa, .int us, .int ob])), (wa, .inl (cI, n, .inl f)), (hz, .inr (0, [.ref wz, .int us2, .int ob2])), (wz, .inl (cI, n, .inl f2))]) [0, 1, 2, 3, 4, 5] rfl
          have hD9 := hD.sub (ws' := [(cx, .inr (1, [.ref ar, .ref ha, .ref hz, .int col, .int mov])), (ar, .inl (cI, 8, .inl rg)), (ha, .inr (0, [.ref wa, .int us, .int ob])), (wa, .inl (cI, n, .inl f)), (hz, .inr (0, [.ref wz, .int us2, .int ob2])), (wz, .inl (cI, n, .inl f2))]) [0, 1, 2, 3, 4, 5] (by decide) rfl
          have hK9 := hK.sub (tys' := [(cI, .int)]) [0] rfl
          exact vx_out (fun x hx => (hEx x hx).elim) hlocks hce hcv hcl (fun t ht ha => ⟨((fX1_requireField n f ((fX1_objectOf rg iq).2.1) ir).1, (rg, us, ob, f, us2, ob2, f2, col, mov)), ⟨(by simp only [fX1_get, if_pos c_3, if_pos c_6, if_pos c_9, if_neg c_12]), hpk⟩, ⟨rfl, by rw [ht]; exact hP9, va_K.moved ha hK9, hD9⟩, hS.F ht⟩) hS.2.2 (Nat.le_of_ble_eq_true rfl) (Nat.le_of_ble_eq_true rfl)
        · have c_12 : (fX1_requireField n f ((fX1_objectOf rg iq).2.1) ir).1 = 0 := by rw [hw]
          have hP := rKeep hP hk1
          generalize H1 = H at hP hS ⊢
          refine lv_aload_n hx hb dX1_get_22 rfl (lv_at hl 1 rfl) ?_
          refine va_get (D := (dC, dI)) (ci := 1) (v := .ref ha) (C := RX1) (T := TX1) (N := 5) hx hb ht iX1 hown hK hP 0 rfl rfl 1 (by decide) (ht _ g_39) (fun _ h9 => h9) rfl dX1_get_23 ?_
          refine lv_iload hx hb dX1_get_26 (lv_at hl 0 rfl) ?_
          refine lv_iconst (v := 1) hx hb dX1_get_28 (by decide) ?_
          refine lv_iadd hx hb dX1_get_29 ?_
          refine lv_iload_n hx hb dX1_get_30 rfl (lv_at hl 4 rfl) ?_
          refine lv_iadd hx hb dX1_get_31 ?_
          have hPc := hP.sub (ws' := [(ha, .inr (0, [.ref wa, .int us, .int ob])), (wa, .inl (cI, n, .inl f))]) [2, 3] rfl
          have hKc := hK.sub (tys' := [(cI, .int)]) [0] rfl
          refine vp_callSi (va_runV (As := [.int ((((fX1_objectOf rg iq).2.1) + 1) + ir)]) (rest := []) ⟨hx, hb, hml, hown, ht⟩ (ctX0_wordAt l dC dI cI ha wa n us ob f ((((fX1_objectOf rg iq).2.1) + 1) + ir) hn) (cwV 1 ht gcX1_81 rfl rfl rfl (by decide +kernel) ⟨Nat.le_of_ble_eq_true rfl, Nat.le_of_ble_eq_true rfl⟩) ⟨pS.blind, va_recv hKc hPc (ci := 0) (q0 := 0) rfl rfl, pS.call hPc hKc hE⟩ rfl rfl hl.1 rfl (lv_room (Nat.le_of_ble_eq_true rfl)) dX1_get_32 ⟨Nat.le_of_ble_eq_true rfl, Nat.le_of_ble_eq_true rfl⟩).run (fun r_13 hr_13 => ?_)
          subst hr_13
          refine lv_istore (lv' := [(5, .int (fX0_wordAt n f ((((fX1_objectOf rg iq).2.1) + 1) + ir))), (4, .int ((fX1_objectOf rg iq).2.1)), (0, .ref cx), (1, .int ip), (2, .int iq), (3, .int ir)]) hx hb dX1_get_35 hl (by decide) rfl (fun ls hl => ?_)
          refine lv_aload_n hx hb dX1_get_37 rfl (lv_at hl 2 rfl) ?_
          refine va_get (D := (dC, dI)) (ci := 1) (v := .ref ar) (C := RX1) (T := TX1) (N := 5) hx hb ht iX1 hown hK hP 0 rfl rfl 0 (by decide) (ht _ g_38) (fun _ h9 => h9) rfl dX1_get_38 ?_
          refine lv_iload_n hx hb dX1_get_41 rfl (lv_at hl 3 rfl) ?_
          refine lv_aload_n hx hb dX1_get_42 rfl (lv_at hl 2 rfl) ?_
          refine va_get (D := (dC, dI)) (ci := 1) (v := .ref ha) (C := RX1) (T := TX1) (N := 5) hx hb ht iX1 hown hK hP 0 rfl rfl 1 (by decide) (ht _ g_39) (fun _ h9 => h9) rfl dX1_get_43 ?_
          refine lv_iload hx hb dX1_get_46 (lv_at hl 1 rfl) ?_
          have hPc := hP.sub (ws' := [(ha, .inr (0, [.ref wa, .int us, .int ob])), (wa, .inl (cI, n, .inl f))]) [2, 3] rfl
          have hKc := hK.sub (tys' := [(cI, .int)]) [0] rfl
          refine vp_callSi (va_runV (As := [.int ((fX1_objectOf rg iq).2.1)]) (rest := [.int ip, .ref ar]) ⟨hx, hb, hml, hown, ht⟩ (ctX0_kindAt l dC dI cI ha wa n us ob f ((fX1_objectOf rg iq).2.1) hn) (cwV 1 ht gcX1_67 rfl rfl rfl (by decide +kernel) ⟨Nat.le_of_ble_eq_true rfl, Nat.le_of_ble_eq_true rfl⟩) ⟨pS.blind, va_recv hKc hPc (ci := 0) (q0 := 0) rfl rfl, pS.call hPc hKc hE⟩ rfl rfl hl.1 rfl (lv_room (Nat.le_of_ble_eq_true rfl)) dX1_get_48 ⟨Nat.le_of_ble_eq_true rfl, Nat.le_of_ble_eq_true rfl⟩).run (fun r_14 hr_14 => ?_)
          subst hr_14
          refine lv_iconst (v := 1) hx hb dX1_get_51 (by decide) ?_
          refine lv_icmp_ne (tgt := 63) hx hb dX1_get_52 (by decide) (fun c_15 => ?_) (fun c_15 => ?_)
          · refine lv_iload hx hb dX1_get_63 (lv_at hl 0 rfl) ?_
            refine va_iast hx hb hK hP hD hS 1 0 rfl rfl (rrIn c_3) dX1_get_65 (fun H locs hP hD hS => ?_)
            have hP : va_P (dC, dI) vwCl [(cx, .inr (1, [.ref ar, .ref ha, .ref hz, .int col, .int mov])), (ar, .inl (cI, 8, .inl (upd rg ip.toNatClampNeg (fX0_wordAt n f ((((fX1_objectOf rg iq).2.1) + 1) + ir))))), (ha, .inr (0, [.ref wa, .int us, .int ob])), (wa, .inl (cI, n, .inl f)), (hz, .inr (0, [.ref wz, .int us2, .int ob2])), (wz, .inl (cI, n, .inl f2))] H := hP
            have hD : va_D A [(cx, .inr (1, [.ref ar, .ref ha, .ref hz, .int col, .int mov])), (ar, .inl (cI, 8, .inl (upd rg ip.toNatClampNeg (fX0_wordAt n f ((((fX1_objectOf rg iq).2.1) + 1) + ir))))), (ha, .inr (0, [.ref wa, .int us, .int ob])), (wa, .inl (cI, n, .inl f)), (hz, .inr (0, [.ref wz, .int us2, .int ob2])), (wz, .inl (cI, n, .inl f2))] := hD
            refine lv_aload_n hx hb dX1_get_66 rfl (lv_at hl 2 rfl) ?_
            refine va_get (D := (dC, dI)) (ci := 1) (v := .ref ar) (C := RX1) (T := TX1) (N := 5) hx hb ht iX1 hown hK hP 0 rfl rfl 0 (by decide) (ht _ g_38) (fun _ h9 => h9) rfl dX1_get_67 ?_
            refine lv_iload_n hx hb dX1_get_70 rfl (lv_at hl 3 rfl) ?_
            refine va_iald hx hb hK hP 1 0 rfl rfl (rrIn c_3) dX1_get_71 ?_
            refine vp_callSi (va_runS (As := [.int ((upd rg ip.toNatClampNeg (fX0_wordAt n f ((((fX1_objectOf rg iq).2.1) + 1) + ir))) ip.toNatClampNeg)]) (rest := []) ⟨hx, hb, hml, hown, ht⟩ (ctX1_isReference l ((upd rg ip.toNatClampNeg (fX0_wordAt n f ((((fX1_objectOf rg iq).2.1) + 1) + ir))) ip.toNatClampNeg)) (cwS 1 ht gcX1_61 rfl rfl rfl (by decide +kernel) ⟨Nat.le_of_ble_eq_true rfl, Nat.le_of_ble_eq_true rfl⟩) ⟨pT.blind, pT.call⟩ rfl rfl hl.1 rfl (lv_room (Nat.le_of_ble_eq_true rfl)) dX1_get_72 ⟨Nat.le_of_ble_eq_true rfl, Nat.le_of_ble_eq_true rfl⟩).run (fun r_16 hr_16 => ?_)
            subst hr_16
            refine vx_ret ?_
            refine W.widen (k := 5) (n := 30) (Nat.le_of_ble_eq_true rfl) (Nat.le_of_ble_eq_true rfl) ?_
            have hP9 := hP.sub (ws' := [(cx, .inr (1, [.ref ar, .ref ha, .ref hz, .int col, .int mov])), (ar, .inl (cI, 8, .inl (upd rg ip.toNatClampNeg (fX0_wordAt n f ((((fX1_objectOf rg iq).2.1) + 1) + ir))))), (ha, .inr (0, [.ref wa, .int us, .int ob])), (wa, .inl (cI, n, .inl f)), (hz, .inr (0, [.ref wz, .int us2, .int ob2])), (wz, .inl (cI, n, .inl f2))]) [0, 1, 2, 3, 4, 5] rfl
            have hD9 := hD.sub (ws' := [(cx, .inr (1, [.ref ar, .ref ha, .ref hz, .int col, .int mov])), (ar, .inl (cI, 8, .inl (upd rg ip.toNatClampNeg (fX0_wordAt n f ((((fX1_objectOf rg iq).2.1) + 1) + ir))))), (ha, .inr (0, [.ref wa, .int us, .int ob])), (wa, .inl (cI, n, .inl f)), (hz, .inr (0, [.ref wz, .int us2, .int ob2])), (wz, .inl (cI, n, .inl f2))]) [0, 1, 2, 3, 4, 5] (by decide) rfl
            have hK9 := hK.sub (tys' := [(cI, .int)]) [0] rfl
            exact W.zret (v := fX1_isReference ((upd rg ip.toNatClampNeg (fX0_wordAt n f ((((fX1_objectOf rg iq).2.1) + 1) + ir))) ip.toNatClampNeg)) hx hb hr (zb (isRef01 _)) (fun t ht hW => ⟨⟨_, (upd rg ip.toNatClampNeg (fX0_wordAt n f ((((fX1_objectOf rg iq).2.1) + 1) + ir)), us, ob, f, us2, ob2, f2, col, mov), rfl, (by simp only [fX1_get, if_pos c_3, if_pos c_6, if_pos c_9, if_pos c_12, if_neg c_15]), by rw [ht]; exact hP9, va_K.moved hW.alike hK9, hD9⟩, hS.F ht⟩) hS.2.2 dX1_get_75
          · refine lv_iload hx hb dX1_get_55 (lv_at hl 0 rfl) ?_
            refine vp_callSi (va_runS (As := [.int (fX0_wordAt n f ((((fX1_objectOf rg iq).2.1) + 1) + ir))]) (rest := [.int ip, .ref ar]) ⟨hx, hb, hml, hown, ht⟩ (ctX1_asNumber l (fX0_wordAt n f ((((fX1_objectOf rg iq).2.1) + 1) + ir))) (cwS 1 ht gcX1_55 rfl rfl rfl (by decide +kernel) ⟨Nat.le_of_ble_eq_true rfl, Nat.le_of_ble_eq_true rfl⟩) ⟨pT.blind, pT.call⟩ rfl rfl hl.1 rfl (lv_room (Nat.le_of_ble_eq_true rfl)) dX1_get_57 ⟨Nat.le_of_ble_eq_true rfl, Nat.le_of_ble_eq_true rfl⟩).run (fun r_17 hr_17 => ?_)
            subst hr_17
            refine lv_goto (tgt := 65) hx hb dX1_get_60 (by decide) ?_
            refine va_iast hx hb hK hP hD hS 1 0 rfl rfl (rrIn c_3) dX1_get_65 (fun H locs hP hD hS => ?_)
            have hP : va_P (dC, dI) vwCl [(cx, .inr (1, [.ref ar, .ref ha, .ref hz, .int col, .int mov])), (ar, .inl (cI, 8, .inl (upd rg ip.toNatClampNeg (fX1_asNumber (fX0_wordAt n f ((((fX1_objectOf rg iq).2.1) + 1) + ir)))))), (ha, .inr (0, [.ref wa, .int us, .int ob])), (wa, .inl (cI, n, .inl f)), (hz, .inr (0, [.ref wz, .int us2, .int ob2])), (wz, .inl (cI, n, .inl f2))] H := hP
            have hD : va_D A [(cx, .inr (1, [.ref ar, .ref ha, .ref hz, .int col, .int mov])), (ar, .inl (cI, 8, .inl (upd rg ip.toNatClampNeg (fX1_asNumber (fX0_wordAt n f ((((fX1_objectOf rg iq).2.1) + 1) + ir)))))), (ha, .inr (0, [.ref wa, .int us, .int ob])), (wa, .inl (cI, n, .inl f)), (hz, .inr (0, [.ref wz, .int us2, .int ob2])), (wz, .inl (cI, n, .inl f2))] := hD
            refine lv_aload_n hx hb dX1_get_66 rfl (lv_at hl 2 rfl) ?_
            refine va_get (D := (dC, dI)) (ci := 1) (v := .ref ar) (C := RX1) (T := TX1) (N := 5) hx hb ht iX1 hown hK hP 0 rfl rfl 0 (by decide) (ht _ g_38) (fun _ h9 => h9) rfl dX1_get_67 ?_
            refine lv_iload_n hx hb dX1_get_70 rfl (lv_at hl 3 rfl) ?_
            refine va_iald hx hb hK hP 1 0 rfl rfl (rrIn c_3) dX1_get_71 ?_
            refine vp_callSi (va_runS (As := [.int ((upd rg ip.toNatClampNeg (fX1_asNumber (fX0_wordAt n f ((((fX1_objectOf rg iq).2.1) + 1) + ir)))) ip.toNatClampNeg)]) (rest := []) ⟨hx, hb, hml, hown, ht⟩ (ctX1_isReference l ((upd rg ip.toNatClampNeg (fX1_asNumber (fX0_wordAt n f ((((fX1_objectOf rg iq).2.1) + 1) + ir)))) ip.toNatClampNeg)) (cwS 1 ht gcX1_61 rfl rfl rfl (by decide +kernel) ⟨Nat.le_of_ble_eq_true rfl, Nat.le_of_ble_eq_true rfl⟩) ⟨pT.blind, pT.call⟩ rfl rfl hl.1 rfl (lv_room (Nat.le_of_ble_eq_true rfl)) dX1_get_72 ⟨Nat.le_of_ble_eq_true rfl, Nat.le_of_ble_eq_true rfl⟩).run (fun r_18 hr_18 => ?_)
            subst hr_18
            refine vx_ret ?_
            refine W.widen (k := 5) (n := 30) (Nat.le_of_ble_eq_true rfl) (Nat.le_of_ble_eq_true rfl) ?_
            have hP9 := hP.sub (ws' := [(cx, .inr (1, [.ref ar, .ref ha, .ref hz, .int col, .int mov])), (ar, .inl (cI, 8, .inl (upd rg ip.toNatClampNeg (fX1_asNumber (fX0_wordAt n f ((((fX1_objectOf rg iq).2.1) + 1) + ir)))))), (ha, .inr (0, [.ref wa, .int us, .int ob])), (wa, .inl (cI, n, .inl f)), (hz, .inr (0, [.ref wz, .int us2, .int ob2])), (wz, .inl (cI, n, .inl f2))]) [0, 1, 2, 3, 4, 5] rfl
            have hD9 := hD.sub (ws' := [(cx, .inr (1, [.ref ar, .ref ha, .ref hz, .int col, .int mov])), (ar, .inl (cI, 8, .inl (upd rg ip.toNatClampNeg (fX1_asNumber (fX0_wordAt n f ((((fX1_objectOf rg iq).2.1) + 1) + ir)))))), (ha, .inr (0, [.ref wa, .int us, .int ob])), (wa, .inl (cI, n, .inl f)), (hz, .inr (0, [.ref wz, .int us2, .int ob2])), (wz, .inl (cI, n, .inl f2))]) [0, 1, 2, 3, 4, 5] (by decide) rfl
            have hK9 := hK.sub (tys' := [(cI, .int)]) [0] rfl
            exact W.zret (v := fX1_isReference ((upd rg ip.toNatClampNeg (fX1_asNumber (fX0_wordAt n f ((((fX1_objectOf rg iq).2.1) + 1) + ir)))) ip.toNatClampNeg)) hx hb hr (zb (isRef01 _)) (fun t ht hW => ⟨⟨_, (upd rg ip.toNatClampNeg (fX1_asNumber (fX0_wordAt n f ((((fX1_objectOf rg iq).2.1) + 1) + ir))), us, ob, f, us2, ob2, f2, col, mov), rfl, (by simp only [fX1_get, if_pos c_3, if_pos c_6, if_pos c_9, if_pos c_12, if_pos c_15]), by rw [ht]; exact hP9, va_K.moved hW.alike hK9, hD9⟩, hS.F ht⟩) hS.2.2 dX1_get_75
def fX1_about (n : Nat) (rg : Nat → Int32) (f : Nat → Int32) (ip : Int32) (iq : Int32) : Nat × Int32 × Unit := (if (fX1_requireRegister ip).1 = 0 then (if iq = 0 then (if fX1_isReference (rg ip.toNatClampNeg) = 0 then (0, (-1), ()) else (0, fX1_content (rg ip.toNatClampNeg), ())) else (if iq = 1 then (if fX1_isReference (rg ip.toNatClampNeg) = 0 then (0, fX1_content (rg ip.toNatClampNeg), ()) else (0, 0, ())) else (if iq = 2 then (if fX1_isReference (rg ip.toNatClampNeg) = 0 then (0, (-1), ()) else (0, fX0_kindAt n f (fX1_content (rg ip.toNatClampNeg)), ())) else (if iq = 3 then (if fX1_isReference (rg ip.toNatClampNeg) = 0 then (0, (-1), ()) else (0, fX0_fieldsAt n f (fX1_content (rg ip.toNatClampNeg)), ())) else (3, 0, ()))))) else ((fX1_requireRegister ip).1, 0, ()))
set_option maxHeartbeats 4000000 in
set_option maxRecDepth 100000 in
theorem ctX1_about (l : Launch) (hl9 : l.stackTraces = false) (dC : Nat → ClassId) (dI : Nat → Nat → Nat) (cI : ClassId) (sa : Nat → Nat) (cx : Nat) (ar : Nat) (ha : Nat) (wa : Nat) (hz : Nat) (wz : Nat) (n : Nat) (col : Int32) (mov : Int32) (rg : Nat → Int32) (us : Int32) (ob : Int32) (f : Nat → Int32) (us2 : Int32) (ob2 : Int32) (f2 : Nat → Int32) (ip : Int32) (iq : Int32) (sz : Nat) (hn : n < 2 ^ 31) : vx_Met l yX1_about (kX1_about :: gT) ({ frames := 7, cells := 5, slots := 30, locals := 120 }) (va_Pc [.ref cx, .int ip, .int iq] (pR (dC, dI) [(cx, .inr (1, [.ref ar, .ref ha, .ref hz, .int col, .int mov])), (ar, .inl (cI, 8, .inl rg)), (ha, .inr (0, [.ref wa, .int us, .int ob])), (wa, .inl (cI, n, .inl f)), (hz, .inr (0, [.ref wz, .int us2, .int ob2])), (wz, .inl (cI, n, .inl f2))] [(cI, .int)] sa sz)) (va_Qi (fun (r : Int32) (u : Unit) => fX1_about n rg f ip iq = (0, r, u)) (fun _ _ => True) (va_A [] sz)) (vx_X (fun v : Nat × Unit => fX1_about n rg f ip iq = (v.1, 0, v.2) ∧ v.1 ≠ 0) (fun E v _ => E = exN v.1) (va_A [] sz)) 5 30 (va_A [] sz) := by
  refine vx_ofW (cc := cX1_about) (maxL := 6) (ret := (some .int)) (by decide) rfl ?_
  intro p e s m args below meth c s₁ B hml hEx hv
  obtain ⟨rfl, hsz, hP, hK, hE, hX⟩ := hv
  have hx := B.exec
  have hb := B.bytes
  have hr := B.returns
  have ht : ∀ w ∈ gT, w.before ([.ref cx, .int ip, .int iq] : List Value).toArray s = true := fun w h => atoms_spec (ws := kX1_about :: gT) B.pre w (List.mem_cons_of_mem _ h)
  have hown : s.vm.findClass RX1 = some m.cls := findClass_of_methodNamed B.named
  have hlocks := B.notSynchronized
  subst hsz
  generalize hAe : va_A [] s.heap.size = A at hX ⊢
  have hA : ∀ q : Nat, s.heap.size ≤ q → A q := fun q h => by rw [← hAe]; exact Or.inr h
  have hS : va_S A s.heap s.heap [] := va_S.rf
  have hl := lv_entry ([.ref cx, .int ip, .int iq]) (n := 6) (Nat.le_of_ble_eq_true rfl)
  rw [lg_entry_eq]
  generalize (lg_sl ([.ref cx, .int ip, .int iq]) ++ List.replicate (6 - (lg_sl ([.ref cx, .int ip, .int iq])).length) Slot.unset).toArray = ls at hl ⊢
  have hl : lv_has ls 6 [(0, .ref cx), (1, .int ip), (2, .int iq)] := hl
  refine lv_iload_n hx hb dX1_about_0 rfl (lv_at hl 1 rfl) ?_
  have hPc := hP.sub (ws' := []) [] rfl
  have hKc := hK.sub (tys' := []) [] rfl
  have hFc := nilF hS hA
  refine vx_callv (vx_runS (As := [.int ip]) (rest := []) ⟨hx, hb, hml, hown, ht⟩ (ctX1_requireRegister l hl9 dC dI cI sa ip _ ) (cwS 1 ht gcX1_25 rfl rfl rfl (by decide +kernel) ⟨Nat.le_of_ble_eq_true rfl, Nat.le_of_ble_eq_true rfl⟩) ⟨pR.blind, pR.call hPc hKc hE hX hS hFc⟩ rfl rfl hl.1 rfl (lv_room (Nat.le_of_ble_eq_true rfl)) dX1_about_1 ⟨Nat.le_of_ble_eq_true rfl, Nat.le_of_ble_eq_true rfl⟩) hS (fun q _ h => hFc q h) hFc (fun q _ h => hFc q h) (fun E ce q9 u_1 t H1 locs ht9 hvm hp hB hz1 hk1 hS hce hcv hcl => ?_) (fun u_1 t H1 locs ht9 hvm hw hB hz1 hk1 hS => ?_)
  · obtain ⟨hpe, hpk⟩ := hp
    have hB := hB
    obtain rfl : u_1 = ((fX1_requireRegister ip).1, (fX1_requireRegister ip).2.2) := by rw [hpe]
    have c_3 : ¬ (fX1_requireRegister ip).1 = 0 := hpk
    subst hB
    have hP1 := nilP (D := (dC, dI)) (H := H1)
    have hP := rKeep hP hk1
    generalize H1 = H at hP hS hce ⊢
    exact vx_out (fun x hx => (hEx x hx).elim) hlocks hce hcv hcl (fun t ht ha => ⟨((fX1_requireRegister ip).1, ()), ⟨(by simp only [fX1_about, if_neg c_3]), hpk⟩, rfl, hS.F ht⟩) hS.2.2 (Nat.le_of_ble_eq_true rfl) (Nat.le_of_ble_eq_true rfl)
  · have c_3 : (fX1_requireRegister ip).1 = 0 := by rw [hw]
    have hP := rKeep hP hk1
    generalize H1 = H at hP hS ⊢
    refine lv_aload_n hx hb dX1_about_4 rfl (lv_at hl 0 rfl) ?_
    refine va_get (D := (dC, dI)) (ci := 1) (v := .ref ar) (C := RX1) (T := TX1) (N := 5) hx hb ht iX1 hown hK hP 0 rfl rfl 0 (by decide) (ht _ g_38) (fun _ h9 => h9) rfl dX1_about_5 ?_
    refine lv_iload_n hx hb dX1_about_8 rfl (lv_at hl 1 rfl) ?_
    refine va_iald hx hb hK hP 1 0 rfl rfl (rrIn c_3) dX1_about_9 ?_
    refine lv_istore_n (lv' := [(3, .int (rg ip.toNatClampNeg)), (0, .ref cx), (1, .int ip), (2, .int iq)]) hx hb dX1_about_10 rfl hl (by decide) rfl (fun ls hl => ?_)
    refine lv_iload_n hx hb dX1_about_11 rfl (lv_at hl 0 rfl) ?_
    refine vp_callSi (va_runS (As := [.int (rg ip.toNatClampNeg)]) (rest := []) ⟨hx, hb, hml, hown, ht⟩ (ctX1_isReference l (rg ip.toNatClampNeg)) (cwS 1 ht gcX1_61 rfl rfl rfl (by decide +kernel) ⟨Nat.le_of_ble_eq_true rfl, Nat.le_of_ble_eq_true rfl⟩) ⟨pT.blind, pT.call⟩ rfl rfl hl.1 rfl (lv_room (Nat.le_of_ble_eq_true rfl)) dX1_about_12 ⟨Nat.le_of_ble_eq_true rfl, Nat.le_of_ble_eq_true rfl⟩).run (fun r_4 hr_4 => ?_)
    subst hr_4
    refine lv_istore (lv' := [(4, .int (fX1_isReference (rg ip.toNatClampNeg))), (3, .int (rg ip.toNatClampNeg)), (0, .ref cx), (1, .int ip), (2, .int iq)]) hx hb dX1_about_15 hl (by decide) rfl (fun ls hl => ?_)
    refine lv_iload_n hx hb dX1_about_17 rfl (lv_at hl 1 rfl) ?_
    refine vp_callSi (va_runS (As := [.int (rg ip.toNatClampNeg)]) (rest := []) ⟨hx, hb, hml, hown, ht⟩ (ctX1_content l (rg ip.toNatClampNeg)) (cwS 1 ht gcX1_58 rfl rfl rfl (by decide +kernel) ⟨Nat.le_of_ble_eq_true rfl, Nat.le_of_ble_eq_true rfl⟩) ⟨pT.blind, pT.call⟩ rfl rfl hl.1 rfl (lv_room (Nat.le_of_ble_eq_true rfl)) dX1_about_18 ⟨Nat.le_of_ble_eq_true rfl, Nat.le_of_ble_eq_true rfl⟩).run (fun r_5 hr_5 => ?_)
    subst hr_5
    refine lv_istore (lv' := [(5, .int (fX1_content (rg ip.toNatClampNeg))), (4, .int (fX1_isReference (rg ip.toNatClampNeg))), (3, .int (rg ip.toNatClampNeg)), (0, .ref cx), (1, .int ip), (2, .int iq)]) hx hb dX1_about_21 hl (by decide) rfl (fun ls hl => ?_)
    refine lv_iload_n hx hb dX1_about_23 rfl (lv_at hl 5 rfl) ?_
    by_cases c_6 : iq = 0
    · refine lv_tableIn (tgt := 56) hx hb dX1_about_24 (by rw [c_6]; decide) (by rw [c_6]; decide) (by rw [c_6]; rfl) (by decide) ?_
      refine lv_iload hx hb dX1_about_56 (lv_at hl 1 rfl) ?_
      refine lv_if_eq (tgt := 66) hx hb dX1_about_58 (by decide) (fun c_7 => ?_) (fun c_7 => ?_)
      · refine lv_iconst (v := (-1)) hx hb dX1_about_66 (by decide) ?_
        refine vx_ret ?_
        refine W.widen (k := 5) (n := 30) (Nat.le_of_ble_eq_true rfl) (Nat.le_of_ble_eq_true rfl) ?_
        exact W.iret (v := (-1)) hx hb hr (fun t ht hW => ⟨⟨_, (), rfl, (by simp only [fX1_about, if_pos c_3, if_pos c_6, if_pos c_7]), trivial⟩, hS.F ht⟩) hS.2.2 dX1_about_67
      · refine lv_iload hx hb dX1_about_61 (lv_at hl 0 rfl) ?_
        refine lv_goto (tgt := 67) hx hb dX1_about_63 (by decide) ?_
        refine vx_ret ?_
        refine W.widen (k := 5) (n := 30) (Nat.le_of_ble_eq_true rfl) (Nat.le_of_ble_eq_true rfl) ?_
        exact W.iret (v := fX1_content (rg ip.toNatClampNeg)) hx hb hr (fun t ht hW => ⟨⟨_, (), rfl, (by simp only [fX1_about, if_pos c_3, if_pos c_6, if_neg c_7]), trivial⟩, hS.F ht⟩) hS.2.2 dX1_about_67
    · by_cases c_8 : iq = 1
      · refine lv_tableIn (tgt := 68) hx hb dX1_about_24 (by rw [c_8]; decide) (by rw [c_8]; decide) (by rw [c_8]; rfl) (by decide) ?_
        refine lv_iload hx hb dX1_about_68 (lv_at hl 1 rfl) ?_
        refine lv_if_eq (tgt := 77) hx hb dX1_about_70 (by decide) (fun c_9 => ?_) (fun c_9 => ?_)
        · refine lv_iload hx hb dX1_about_77 (lv_at hl 0 rfl) ?_
          refine vx_ret ?_
          refine W.widen (k := 5) (n := 30) (Nat.le_of_ble_eq_true rfl) (Nat.le_of_ble_eq_true rfl) ?_
          exact W.iret (v := fX1_content (rg ip.toNatClampNeg)) hx hb hr (fun t ht hW => ⟨⟨_, (), rfl, (by simp only [fX1_about, if_pos c_3, if_neg c_6, if_pos c_8, if_pos c_9]), trivial⟩, hS.F ht⟩) hS.2.2 dX1_about_79
        · refine lv_iconst (v := 0) hx hb dX1_about_73 (by decide) ?_
          refine lv_goto (tgt := 79) hx hb dX1_about_74 (by decide) ?_
          refine vx_ret ?_
          refine W.widen (k := 5) (n := 30) (Nat.le_of_ble_eq_true rfl) (Nat.le_of_ble_eq_true rfl) ?_
          exact W.iret (v := 0) hx hb hr (fun t ht hW => ⟨⟨_, (), rfl, (by simp only [fX1_about, if_pos c_3, if_neg c_6, if_pos c_8, if_neg c_9]), trivial⟩, hS.F ht⟩) hS.2.2 dX1_about_79
      · by_cases c_10 : iq = 2
        · refine lv_tableIn (tgt := 80) hx hb dX1_about_24 (by rw [c_10]; decide) (by rw [c_10]; decide) (by rw [c_10]; rfl) (by decide) ?_
          refine lv_iload hx hb dX1_about_80 (lv_at hl 1 rfl) ?_
          refine lv_if_eq (tgt := 97) hx hb dX1_about_82 (by decide) (fun c_11 => ?_) (fun c_11 => ?_)
          · refine lv_iconst (v := (-1)) hx hb dX1_about_97 (by decide) ?_
            refine vx_ret ?_
            refine W.widen (k := 5) (n := 30) (Nat.le_of_ble_eq_true rfl) (Nat.le_of_ble_eq_true rfl) ?_
            exact W.iret (v := (-1)) hx hb hr (fun t ht hW => ⟨⟨_, (), rfl, (by simp only [fX1_about, if_pos c_3, if_neg c_6, if_neg c_8, if_pos c_10, if_pos c_11]), trivial⟩, hS.F ht⟩) hS.2.2 dX1_about_98
          · refine lv_aload_n hx hb dX1_about_85 rfl (lv_at hl 3 rfl) ?_
            refine va_get (D := (dC, dI)) (ci := 1) (v := .ref ha) (C := RX1) (T := TX1) (N := 5) hx hb ht iX1 hown hK hP 0 rfl rfl 1 (by decide) (ht _ g_39) (fun _ h9 => h9) rfl dX1_about_86 ?_
            refine lv_iload hx hb dX1_about_89 (lv_at hl 0 rfl) ?_
            have hPc := hP.sub (ws' := [(ha, .inr (0, [.ref wa, .int us, .int ob])), (wa, .inl (cI, n, .inl f))]) [2, 3] rfl
            have hKc := hK.sub (tys' := [(cI, .int)]) [0] rfl
            refine vp_callSi (va_runV (As := [.int (fX1_content (rg ip.toNatClampNeg))]) (rest := []) ⟨hx, hb, hml, hown, ht⟩ (ctX0_kindAt l dC dI cI ha wa n us ob f (fX1_content (rg ip.toNatClampNeg)) hn) (cwV 1 ht gcX1_67 rfl rfl rfl (by decide +kernel) ⟨Nat.le_of_ble_eq_true rfl, Nat.le_of_ble_eq_true rfl⟩) ⟨pS.blind, va_recv hKc hPc (ci := 0) (q0 := 0) rfl rfl, pS.call hPc hKc hE⟩ rfl rfl hl.1 rfl (lv_room (Nat.le_of_ble_eq_true rfl)) dX1_about_91 ⟨Nat.le_of_ble_eq_true rfl, Nat.le_of_ble_eq_true rfl⟩).run (fun r_12 hr_12 => ?_)
            subst hr_12
            refine lv_goto (tgt := 98) hx hb dX1_about_94 (by decide) ?_
            refine vx_ret ?_
            refine W.widen (k := 5) (n := 30) (Nat.le_of_ble_eq_true rfl) (Nat.le_of_ble_eq_true rfl) ?_
            exact W.iret (v := fX0_kindAt n f (fX1_content (rg ip.toNatClampNeg))) hx hb hr (fun t ht hW => ⟨⟨_, (), rfl, (by simp only [fX1_about, if_pos c_3, if_neg c_6, if_neg c_8, if_pos c_10, if_neg c_11]), trivial⟩, hS.F ht⟩) hS.2.2 dX1_about_98
        · by_cases c_13 : iq = 3
          · refine lv_tableIn (tgt := 99) hx hb dX1_about_24 (by rw [c_13]; decide) (by rw [c_13]; decide) (by rw [c_13]; rfl) (by decide) ?_
            refine lv_iload hx hb dX1_about_99 (lv_at hl 1 rfl) ?_
            refine lv_if_eq (tgt := 116) hx hb dX1_about_101 (by decide) (fun c_14 => ?_) (fun c_14 => ?_)
            · refine lv_iconst (v := (-1)) hx hb dX1_about_116 (by decide) ?_
              refine vx_ret ?_
              refine W.widen (k := 5) (n := 30) (Nat.le_of_ble_eq_true rfl) (Nat.le_of_ble_eq_true rfl) ?_
              exact W.iret (v := (-1)) hx hb hr (fun t ht hW => ⟨⟨_, (), rfl, (by simp only [fX1_about, if_pos c_3, if_neg c_6, if_neg c_8, if_neg c_10, if_pos c_13, if_pos c_14]), trivial⟩, hS.F ht⟩) hS.2.2 dX1_about_117
            · refine lv_aload_n hx hb dX1_about_104 rfl (lv_at hl 3 rfl) ?_
              refine va_get (D := (dC, dI)) (ci := 1) (v := .ref ha) (C := RX1) (T := TX1) (N := 5) hx hb ht iX1 hown hK hP 0 rfl rfl 1 (by decide) (ht _ g_39) (fun _ h9 => h9) rfl dX1_about_105 ?_
              refine lv_iload hx hb dX1_about_108 (lv_at hl 0 rfl) ?_
              have hPc := hP.sub (ws' := [(ha, .inr (0, [.ref wa, .int us, .int ob])), (wa, .inl (cI, n, .inl f))]) [2, 3] rfl
              have hKc := hK.sub (tys' := [(cI, .int)]) [0] rfl
              refine vp_callSi (va_runV (As := [.int (fX1_content (rg ip.toNatClampNeg))]) (rest := []) ⟨hx, hb, hml, hown, ht⟩ (ctX0_fieldsAt l dC dI cI ha wa n us ob f (fX1_content (rg ip.toNatClampNeg)) hn) (cwV 1 ht gcX1_88 rfl rfl rfl (by decide +kernel) ⟨Nat.le_of_ble_eq_true rfl, Nat.le_of_ble_eq_true rfl⟩) ⟨pS.blind, va_recv hKc hPc (ci := 0) (q0 := 0) rfl rfl, pS.call hPc hKc hE⟩ rfl rfl hl.1 rfl (lv_room (Nat.le_of_ble_eq_true rfl)) dX1_about_110 ⟨Nat.le_of_ble_eq_true rfl, Nat.le_of_ble_eq_true rfl⟩).run (fun r_15 hr_15 => ?_)
              subst hr_15
              refine lv_goto (tgt := 117) hx hb dX1_about_113 (by decide) ?_
              refine vx_ret ?_
              refine W.widen (k := 5) (n := 30) (Nat.le_of_ble_eq_true rfl) (Nat.le_of_ble_eq_true rfl) ?_
              exact W.iret (v := fX0_fieldsAt n f (fX1_content (rg ip.toNatClampNeg))) hx hb hr (fun t ht hW => ⟨⟨_, (), rfl, (by simp only [fX1_about, if_pos c_3, if_neg c_6, if_neg c_8, if_neg c_10, if_pos c_13, if_neg c_14]), trivial⟩, hS.F ht⟩) hS.2.2 dX1_about_117
          · refine lv_tableOut (tgt := 118) hx hb dX1_about_24 (sw_out4 c_6 c_8 c_10 c_13) (by decide) ?_
            exact vx_throwS (own := RX1) (cls := "java/lang/IndexOutOfBoundsException") (names := ["java/lang/RuntimeException", "java/lang/Exception"]) hx hb hl9 hown (by decide +kernel) (by decide +kernel) (ht _ g_255) (ht _ g_9) hX.s93 (thI ht hE) toI hX.zU hX.zN hS (hl.1.trans hml.symm) dX1_about_118 dX1_about_121 dX1_about_122 dX1_about_124 dX1_about_127 (fun x hx => (hEx x hx).elim) (Nat.le_of_ble_eq_true rfl) (Nat.le_of_ble_eq_true rfl) (Nat.le_of_ble_eq_true rfl) (Nat.le_of_ble_eq_true rfl) hlocks (fun t ha hsz hk => ⟨(3, ()), ⟨(by simp only [fX1_about, if_pos c_3, if_neg c_6, if_neg c_8, if_neg c_10, if_neg c_13]), Nat.succ_ne_zero _⟩, rfl, Nat.le_trans hS.1 hsz, fun q h1 h2 => (hk q (Nat.lt_of_lt_of_le h1 hS.1)).trans (hS.2.1 q h1 h2)⟩) hS.2.2 (Nat.le_of_ble_eq_true rfl) (Nat.le_of_ble_eq_true rfl)
def fX1_count (n : Nat) (us : Int32) (ob : Int32) (col : Int32) (mov : Int32) (ip : Int32) : Nat × Int32 × Unit := (if ip = 0 then (0, nI n, ()) else (if ip = 1 then (0, us, ()) else (if ip = 2 then (0, col, ()) else (if ip = 3 then (0, mov, ()) else (if ip = 4 then (0, ob, ()) else (3, 0, ()))))))
set_option maxHeartbeats 4000000 in
set_option maxRecDepth 100000 in
theorem ctX1_count (l : Launch) (hl9 : l.stackTraces = false) (dC : Nat → ClassId) (dI : Nat → Nat → Nat) (cI : ClassId) (sa : Nat → Nat) (cx : Nat) (ar : Nat) (ha : Nat) (wa : Nat) (hz : Nat) (wz : Nat) (n : Nat) (col : Int32) (mov : Int32) (rg : Nat → Int32) (us : Int32) (ob : Int32) (f : Nat → Int32) (us2 : Int32) (ob2 : Int32) (f2 : Nat → Int32) (ip : Int32) (sz : Nat) (hn : n < 2 ^ 31) : vx_Met l yX1_count (kX1_count :: gT) ({ frames := 7, cells := 5, slots := 30, locals := 120 }) (va_Pc [.ref cx, .int ip] (pR (dC, dI) [(cx, .inr (1, [.ref ar, .ref ha, .ref hz, .int col, .int mov])), (ar, .inl (cI, 8, .inl rg)), (ha, .inr (0, [.ref wa, .int us, .int ob])), (wa, .inl (cI, n, .inl f)), (hz, .inr (0, [.ref wz, .int us2, .int ob2])), (wz, .inl (cI, n, .inl f2))] [(cI, .int)] sa sz)) (va_Qi (fun (r : Int32) (u : Unit) => fX1_count n us ob col mov ip = (0, r, u)) (fun _ _ => True) (va_A [] sz)) (vx_X (fun v : Nat × Unit => fX1_count n us ob col mov ip = (v.1, 0, v.2) ∧ v.1 ≠ 0) (fun E v _ => E = exN v.1) (va_A [] sz)) 5 30 (va_A [] sz) := by
  refine vx_ofW (cc := cX1_count) (maxL := 2) (ret := (some .int)) (by decide) rfl ?_
  intro p e s m args below meth c s₁ B hml hEx hv
  obtain ⟨rfl, hsz, hP, hK, hE, hX⟩ := hv
  have hx := B.exec
  have hb := B.bytes
  have hr := B.returns
  have ht : ∀ w ∈ gT, w.before ([.ref cx, .int ip] : List Value).toArray s = true := fun w h => atoms_spec (ws := kX1_count :: gT) B.pre w (List.mem_cons_of_mem _ h)
  have hown : s.vm.findClass RX1 = some m.cls := findClass_of_methodNamed B.named
  have hlocks := B.notSynchronized
  subst hsz
  generalize hAe : va_A [] s.heap.size = A at hX ⊢
  have hA : ∀ q : Nat, s.heap.size ≤ q → A q := fun q h => by rw [← hAe]; exact Or.inr h
  have hS : va_S A s.heap s.heap [] := va_S.rf
  have hl := lv_entry ([.ref cx, .int ip]) (n := 2) (Nat.le_of_ble_eq_true rfl)
  rw [lg_entry_eq]
  generalize (lg_sl ([.ref cx, .int ip]) ++ List.replicate (2 - (lg_sl ([.ref cx, .int ip])).length) Slot.unset).toArray = ls at hl ⊢
  have hl : lv_has ls 2 [(0, .ref cx), (1, .int ip)] := hl
  refine lv_iload_n hx hb dX1_count_0 rfl (lv_at hl 1 rfl) ?_
  by_cases c_1 : ip = 0
  · refine lv_tableIn (tgt := 36) hx hb dX1_count_1 (by rw [c_1]; decide) (by rw [c_1]; decide) (by rw [c_1]; rfl) (by decide) ?_
    refine lv_aload_n hx hb dX1_count_36 rfl (lv_at hl 0 rfl) ?_
    refine va_get (D := (dC, dI)) (ci := 1) (v := .ref ha) (C := RX1) (T := TX1) (N := 5) hx hb ht iX1 hown hK hP 0 rfl rfl 1 (by decide) (ht _ g_39) (fun _ h9 => h9) rfl dX1_count_37 ?_
    refine va_getN (D := (dC, dI)) (ci := 0) (v := .ref wa) (C := RX0) (T := TX0) (N := 3) hx hb ht iX0 hown hK hP 2 rfl rfl 0 (by decide) hE.w25 (fun _ h9 => h9) rfl dX1_count_40 ?_
    refine va_alen (v := nI n) hx hb hK hP 3 0 rfl rfl rfl dX1_count_43 ?_
    refine vx_ret ?_
    refine W.widen (k := 5) (n := 30) (Nat.le_of_ble_eq_true rfl) (Nat.le_of_ble_eq_true rfl) ?_
    exact W.iret (v := nI n) hx hb hr (fun t ht hW => ⟨⟨_, (), rfl, (by simp only [fX1_count, if_pos c_1]), trivial⟩, hS.F ht⟩) hS.2.2 dX1_count_44
  · by_cases c_2 : ip = 1
    · refine lv_tableIn (tgt := 45) hx hb dX1_count_1 (by rw [c_2]; decide) (by rw [c_2]; decide) (by rw [c_2]; rfl) (by decide) ?_
      refine lv_aload_n hx hb dX1_count_45 rfl (lv_at hl 0 rfl) ?_
      refine va_get (D := (dC, dI)) (ci := 1) (v := .ref ha) (C := RX1) (T := TX1) (N := 5) hx hb ht iX1 hown hK hP 0 rfl rfl 1 (by decide) (ht _ g_39) (fun _ h9 => h9) rfl dX1_count_46 ?_
      refine va_getN (D := (dC, dI)) (ci := 0) (v := .int us) (C := RX0) (T := TX0) (N := 3) hx hb ht iX0 hown hK hP 2 rfl rfl 1 (by decide) hE.w27 (fun _ h9 => h9) rfl dX1_count_49 ?_
      refine vx_ret ?_
      refine W.widen (k := 5) (n := 30) (Nat.le_of_ble_eq_true rfl) (Nat.le_of_ble_eq_true rfl) ?_
      exact W.iret (v := us) hx hb hr (fun t ht hW => ⟨⟨_, (), rfl, (by simp only [fX1_count, if_neg c_1, if_pos c_2]), trivial⟩, hS.F ht⟩) hS.2.2 dX1_count_52
    · by_cases c_3 : ip = 2
      · refine lv_tableIn (tgt := 53) hx hb dX1_count_1 (by rw [c_3]; decide) (by rw [c_3]; decide) (by rw [c_3]; rfl) (by decide) ?_
        refine lv_aload_n hx hb dX1_count_53 rfl (lv_at hl 0 rfl) ?_
        refine va_get (D := (dC, dI)) (ci := 1) (v := .int col) (C := RX1) (T := TX1) (N := 5) hx hb ht iX1 hown hK hP 0 rfl rfl 3 (by decide) (ht _ g_41) (fun _ h9 => h9) rfl dX1_count_54 ?_
        refine vx_ret ?_
        refine W.widen (k := 5) (n := 30) (Nat.le_of_ble_eq_true rfl) (Nat.le_of_ble_eq_true rfl) ?_
        exact W.iret (v := col) hx hb hr (fun t ht hW => ⟨⟨_, (), rfl, (by simp only [fX1_count, if_neg c_1, if_neg c_2, if_pos c_3]), trivial⟩, hS.F ht⟩) hS.2.2 dX1_count_57
      · by_cases c_4 : ip = 3
        · refine lv_tableIn (tgt := 58) hx hb dX1_count_1 (by rw [c_4]; decide) (by rw [c_4]; decide) (by rw [c_4]; rfl) (by decide) ?_
          refine lv_aload_n hx hb dX1_count_58 rfl (lv_at hl 0 rfl) ?_
          refine va_get (D := (dC, dI)) (ci := 1) (v := .int mov) (C := RX1) (T := TX1) (N := 5) hx hb ht iX1 hown hK hP 0 rfl rfl 4 (by decide) (ht _ g_42) (fun _ h9 => h9) rfl dX1_count_59 ?_
          refine vx_ret ?_
          refine W.widen (k := 5) (n := 30) (Nat.le_of_ble_eq_true rfl) (Nat.le_of_ble_eq_true rfl) ?_
          exact W.iret (v := mov) hx hb hr (fun t ht hW => ⟨⟨_, (), rfl, (by simp only [fX1_count, if_neg c_1, if_neg c_2, if_neg c_3, if_pos c_4]), trivial⟩, hS.F ht⟩) hS.2.2 dX1_count_62
        · by_cases c_5 : ip = 4
          · refine lv_tableIn (tgt := 63) hx hb dX1_count_1 (by rw [c_5]; decide) (by rw [c_5]; decide) (by rw [c_5]; rfl) (by decide) ?_
            refine lv_aload_n hx hb dX1_count_63 rfl (lv_at hl 0 rfl) ?_
            refine va_get (D := (dC, dI)) (ci := 1) (v := .ref ha) (C := RX1) (T := TX1) (N := 5) hx hb ht iX1 hown hK hP 0 rfl rfl 1 (by decide) (ht _ g_39) (fun _ h9 => h9) rfl dX1_count_64 ?_
            refine va_getN (D := (dC, dI)) (ci := 0) (v := .int ob) (C := RX0) (T := TX0) (N := 3) hx hb ht iX0 hown hK hP 2 rfl rfl 2 (by decide) hE.w29 (fun _ h9 => h9) rfl dX1_count_67 ?_
            refine vx_ret ?_
            refine W.widen (k := 5) (n := 30) (Nat.le_of_ble_eq_true rfl) (Nat.le_of_ble_eq_true rfl) ?_
            exact W.iret (v := ob) hx hb hr (fun t ht hW => ⟨⟨_, (), rfl, (by simp only [fX1_count, if_neg c_1, if_neg c_2, if_neg c_3, if_neg c_4, if_pos c_5]), trivial⟩, hS.F ht⟩) hS.2.2 dX1_count_70
          · refine lv_tableOut (tgt := 71) hx hb dX1_count_1 (sw_out5 c_1 c_2 c_3 c_4 c_5) (by decide) ?_
            exact vx_throwS (own := RX1) (cls := "java/lang/IndexOutOfBoundsException") (names := ["java/lang/RuntimeException", "java/lang/Exception"]) hx hb hl9 hown (by decide +kernel) (by decide +kernel) (ht _ g_255) (ht _ g_9) hX.s118 (thI ht hE) toI hX.zU hX.zN hS (hl.1.trans hml.symm) dX1_count_71 dX1_count_74 dX1_count_75 dX1_count_77 dX1_count_80 (fun x hx => (hEx x hx).elim) (Nat.le_of_ble_eq_true rfl) (Nat.le_of_ble_eq_true rfl) (Nat.le_of_ble_eq_true rfl) (Nat.le_of_ble_eq_true rfl) hlocks (fun t ha hsz hk => ⟨(3, ()), ⟨(by simp only [fX1_count, if_neg c_1, if_neg c_2, if_neg c_3, if_neg c_4, if_neg c_5]), Nat.succ_ne_zero _⟩, rfl, Nat.le_trans hS.1 hsz, fun q h1 h2 => (hk q (Nat.lt_of_lt_of_le h1 hS.1)).trans (hS.2.1 q h1 h2)⟩) hS.2.2 (Nat.le_of_ble_eq_true rfl) (Nat.le_of_ble_eq_true rfl)
