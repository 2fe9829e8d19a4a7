theorem rr_is {i : Int32} : (fX1_requireRegister i).1 = 0 ↔ ¬ fX2_isRegister i = 0 := by
  unfold fX1_requireRegister fX2_isRegister
  by_cases h0 : i < 0
  · rw [if_pos h0, if_pos h0]; decide
  · rw [if_neg h0, if_neg h0]
    by_cases h1 : i < 8
    · rw [if_pos h1, if_neg (by rw [Int32.not_le]; exact h1)]; decide
    · rw [if_neg h1, if_pos (by rw [← Int32.not_lt]; exact h1)]; decide
theorem rr1 {i : Int32} (h : ¬ (fX1_requireRegister i).1 = 0) : (fX1_requireRegister i).1 = 1 := by
  unfold fX1_requireRegister at h ⊢
  by_cases h0 : i < 0
  · rw [if_pos h0]
  · rw [if_neg h0] at h ⊢
    by_cases h1 : i < 8
    · rw [if_pos h1] at h; exact absurd rfl h
    · rw [if_neg h1]
theorem kd01 {x : Int32} : (¬ x < 0 ∧ ¬ 1 < x) ↔ (x = 0 ∨ x = 1) := by
  rw [Int32.lt_iff_toInt_lt, Int32.lt_iff_toInt_lt]
  have e0 : (0 : Int32).toInt = 0 := rfl
  have e1 : (1 : Int32).toInt = 1 := rfl
  rw [e0, e1]
  constructor
  · rintro ⟨a, b⟩
    have : x.toInt = 0 ∨ x.toInt = 1 := by omega
    rcases this with h | h
    · exact Or.inl (Int32.toInt_inj.mp (h.trans e0.symm))
    · exact Or.inr (Int32.toInt_inj.mp (h.trans e1.symm))
  · rintro (h | h) <;> rw [h] <;> decide
def fX1_make_0 (rg : Nat → Int32) (us : Int32) (ob : Int32) (f : Nat → Int32) (us2 : Int32) (ob2 : Int32) (f2 : Nat → Int32) (col : Int32) (mov : Int32) : Nat × Int32 × (Nat → Int32) × Int32 × Int32 × (Nat → Int32) × Int32 × Int32 × (Nat → Int32) × Int32 × Int32 := (1, 0, (rg, us, ob, f, us2, ob2, f2, col, mov))
abbrev atX1_make_0 (dC : Nat → ClassId) (dI : Nat → Nat → Nat) (cI : ClassId) (A : Nat → Prop) (cx : Nat) (ar : Nat) (ha : Nat) (wa : Nat) (hz : Nat) (wz : Nat) (n : Nat) (u : (Nat → Int32) × Int32 × Int32 × (Nat → Int32) × Int32 × Int32 × (Nat → Int32) × Int32 × Int32) (t : State) : Prop := va_P (dC, dI) vwCl [(cx, .inr (1, [.ref ar, .ref ha, .ref hz, .int u.2.2.2.2.2.2.2.1, .int u.2.2.2.2.2.2.2.2])), (ar, .inl (cI, 8, .inl u.1)), (ha, .inr (0, [.ref wa, .int u.2.1, .int u.2.2.1])), (wa, .inl (cI, n, .inl u.2.2.2.1)), (hz, .inr (0, [.ref wz, .int u.2.2.2.2.1, .int u.2.2.2.2.2.1])), (wz, .inl (cI, n, .inl u.2.2.2.2.2.2.1))] t.heap ∧ va_K (dC, dI) vwCl [(cI, .int)] t ∧ va_D A [(cx, .inr (1, [.ref ar, .ref ha, .ref hz, .int u.2.2.2.2.2.2.2.1, .int u.2.2.2.2.2.2.2.2])), (ar, .inl (cI, 8, .inl u.1)), (ha, .inr (0, [.ref wa, .int u.2.1, .int u.2.2.1])), (wa, .inl (cI, n, .inl u.2.2.2.1)), (hz, .inr (0, [.ref wz, .int u.2.2.2.2.1, .int u.2.2.2.2.2.1])), (wz, .inl (cI, n, .inl u.2.2.2.2.2.2.1))]
set_option maxHeartbeats 4000000 in
set_option maxRecDepth 100000 in
theorem ctX1_make_0 (l : Launch) (hl9 : l.stackTraces = false) (dC : Nat → ClassId) (dI : Nat → Nat → Nat) (cI : ClassId) (sa : Nat → Nat) (cx : Nat) (ar : Nat) (ha : Nat) (wa : Nat) (hz : Nat) (wz : Nat) (n : Nat) (col : Int32) (mov : Int32) (rg : Nat → Int32) (us : Int32) (ob : Int32) (f : Nat → Int32) (us2 : Int32) (ob2 : Int32) (f2 : Nat → Int32) (ip : Int32) (iq : Int32) (ir : Int32) (sz : Nat) (hbad : ¬ gdA ip iq ir) : vx_Met l yX1_make (kX1_make :: gT) ({ frames := 7, cells := 5, slots := 30, locals := 145 }) (va_Pc [.ref cx, .int ip, .int iq, .int ir] (pY (dC, dI) [(cx, .inr (1, [.ref ar, .ref ha, .ref hz, .int col, .int mov])), (ar, .inl (cI, 8, .inl rg)), (ha, .inr (0, [.ref wa, .int us, .int ob])), (wa, .inl (cI, n, .inl f)), (hz, .inr (0, [.ref wz, .int us2, .int ob2])), (wz, .inl (cI, n, .inl f2))] [(cI, .int)] sa sz)) (va_Qi (fun (r : Int32) (u : (Nat → Int32) × Int32 × Int32 × (Nat → Int32) × Int32 × Int32 × (Nat → Int32) × Int32 × Int32) => fX1_make_0 rg us ob f us2 ob2 f2 col mov = (0, r, u)) (atX1_make_0 dC dI cI (va_A [(cx, .inr (1, [.ref ar, .ref ha, .ref hz, .int col, .int mov])), (ar, .inl (cI, 8, .inl rg)), (ha, .inr (0, [.ref wa, .int us, .int ob])), (wa, .inl (cI, n, .inl f)), (hz, .inr (0, [.ref wz, .int us2, .int ob2])), (wz, .inl (cI, n, .inl f2))] sz) cx ar ha wa hz wz n) (va_A [(cx, .inr (1, [.ref ar, .ref ha, .ref hz, .int col, .int mov])), (ar, .inl (cI, 8, .inl rg)), (ha, .inr (0, [.ref wa, .int us, .int ob])), (wa, .inl (cI, n, .inl f)), (hz, .inr (0, [.ref wz, .int us2, .int ob2])), (wz, .inl (cI, n, .inl f2))] sz)) (vx_X (fun v : Nat × ((Nat → Int32) × Int32 × Int32 × (Nat → Int32) × Int32 × Int32 × (Nat → Int32) × Int32 × Int32) => fX1_make_0 rg us ob f us2 ob2 f2 col mov = (v.1, 0, v.2) ∧ v.1 ≠ 0) (fun E v t => E = exN v.1 ∧ atX1_make_0 dC dI cI (va_A [(cx, .inr (1, [.ref ar, .ref ha, .ref hz, .int col, .int mov])), (ar, .inl (cI, 8, .inl rg)), (ha, .inr (0, [.ref wa, .int us, .int ob])), (wa, .inl (cI, n, .inl f)), (hz, .inr (0, [.ref wz, .int us2, .int ob2])), (wz, .inl (cI, n, .inl f2))] sz) cx ar ha wa hz wz n v.2 t) (va_A [(cx, .inr (1, [.ref ar, .ref ha, .ref hz, .int col, .int mov])), (ar, .inl (cI, 8, .inl rg)), (ha, .inr (0, [.ref wa, .int us, .int ob])), (wa, .inl (cI, n, .inl f)), (hz, .inr (0, [.ref wz, .int us2, .int ob2])), (wz, .inl (cI, n, .inl f2))] sz)) 5 30 (va_A [(cx, .inr (1, [.ref ar, .ref ha, .ref hz, .int col, .int mov])), (ar, .inl (cI, 8, .inl rg)), (ha, .inr (0, [.ref wa, .int us, .int ob])), (wa, .inl (cI, n, .inl f)), (hz, .inr (0, [.ref wz, .int us2, .int ob2])), (wz, .inl (cI, n, .inl f2))] sz) := by
  refine vx_ofW (cc := cX1_make) (maxL := 5) (ret := (some .int)) (by decide) rfl ?_
  intro p e s m args below meth c s₁ B hml hEx hv
  obtain ⟨rfl, hsz, hP, hK, hD0, hE, hX⟩ := hv
  have hx := B.exec
  have hb := B.bytes
  have hr := B.returns
  have ht : ∀ w ∈ gT, w.before ([.ref cx, .int ip, .int iq, .int ir] : List Value).toArray s = true := fun w h => atoms_spec (ws := kX1_make :: gT) B.pre w (List.mem_cons_of_mem _ h)
  have hown : s.vm.findClass RX1 = some m.cls := findClass_of_methodNamed B.named
  have hlocks := B.notSynchronized
  subst hsz
  have hD := hD0.self (sz := s.heap.size)
  generalize hAe : va_A [(cx, .inr (1, [.ref ar, .ref ha, .ref hz, .int col, .int mov])), (ar, .inl (cI, 8, .inl rg)), (ha, .inr (0, [.ref wa, .int us, .int ob])), (wa, .inl (cI, n, .inl f)), (hz, .inr (0, [.ref wz, .int us2, .int ob2])), (wz, .inl (cI, n, .inl f2))] s.heap.size = A at hD hX ⊢
  have hA : ∀ q : Nat, s.heap.size ≤ q → A q := fun q h => by rw [← hAe]; exact Or.inr h
  have hS : va_S A s.heap s.heap [] := va_S.rf
  have hl := lv_entry ([.ref cx, .int ip, .int iq, .int ir]) (n := 5) (Nat.le_of_ble_eq_true rfl)
  rw [lg_entry_eq]
  generalize (lg_sl ([.ref cx, .int ip, .int iq, .int ir]) ++ List.replicate (5 - (lg_sl ([.ref cx, .int ip, .int iq, .int ir])).length) Slot.unset).toArray = ls at hl ⊢
  have hl : lv_has ls 5 [(0, .ref cx), (1, .int ip), (2, .int iq), (3, .int ir)] := hl
  refine lv_iload_n hx hb dX1_make_0 rfl (lv_at hl 1 rfl) ?_
  have hPc := hP.sub (ws' := []) [] rfl
  have hKc := hK.sub (tys' := []) [] rfl
  have hFc := nilF hS hA
  refine vx_callv (vx_runS (As := [.int ip]) (rest := []) ⟨hx, hb, hml, hown, ht⟩ (ctX1_requireRegister l hl9 dC dI cI sa ip _ ) (cwS 1 ht gcX1_25 rfl rfl rfl (by decide +kernel) ⟨Nat.le_of_ble_eq_true rfl, Nat.le_of_ble_eq_true rfl⟩) ⟨pR.blind, pR.call hPc hKc hE hX hS hFc⟩ rfl rfl hl.1 rfl (lv_room (Nat.le_of_ble_eq_true rfl)) dX1_make_1 ⟨Nat.le_of_ble_eq_true rfl, Nat.le_of_ble_eq_true rfl⟩) hS (fun q _ h => hFc q h) hFc (fun q _ h => hFc q h) (fun E ce q9 u_1 t H1 locs ht9 hvm hp hB hz1 hk1 hS hce hcv hcl => ?_) (fun u_1 t H1 locs ht9 hvm hw hB hz1 hk1 hS => ?_)
  · obtain ⟨hpe, hpk⟩ := hp
    have hB := hB
    obtain rfl : u_1 = ((fX1_requireRegister ip).1, (fX1_requireRegister ip).2.2) := by rw [hpe]
    have c_3 : ¬ (fX1_requireRegister ip).1 = 0 := hpk
    subst hB
    have hP1 := nilP (D := (dC, dI)) (H := H1)
    have hP := rKeep hP hk1
    generalize H1 = H at hP hS hce ⊢
    have hP9 := hP.sub (ws' := [(cx, .inr (1, [.ref ar, .ref ha, .ref hz, .int col, .int mov])), (ar, .inl (cI, 8, .inl rg)), (ha, .inr (0, [.ref wa, .int us, .int ob])), (wa, .inl (cI, n, .inl f)), (hz, .inr (0, [.ref wz, .int us2, .int ob2])), (wz, .inl (cI, n, .inl f2))]) [0, 1, 2, 3, 4, 5] rfl
    have hD9 := hD.sub (ws' := [(cx, .inr (1, [.ref ar, .ref ha, .ref hz, .int col, .int mov])), (ar, .inl (cI, 8, .inl rg)), (ha, .inr (0, [.ref wa, .int us, .int ob])), (wa, .inl (cI, n, .inl f)), (hz, .inr (0, [.ref wz, .int us2, .int ob2])), (wz, .inl (cI, n, .inl f2))]) [0, 1, 2, 3, 4, 5] (by decide) rfl
    have hK9 := hK.sub (tys' := [(cI, .int)]) [0] rfl
    exact vx_out (fun x hx => (hEx x hx).elim) hlocks hce hcv hcl (fun t ht ha => ⟨((fX1_requireRegister ip).1, (rg, us, ob, f, us2, ob2, f2, col, mov)), ⟨(by rw [rr1 c_3]; rfl), hpk⟩, ⟨rfl, by rw [ht]; exact hP9, va_K.moved ha hK9, hD9⟩, hS.F ht⟩) hS.2.2 (Nat.le_of_ble_eq_true rfl) (Nat.le_of_ble_eq_true rfl)
  · have c_3 : (fX1_requireRegister ip).1 = 0 := by rw [hw]
    have hP := rKeep hP hk1
    generalize H1 = H at hP hS ⊢
    refine lv_iload_n hx hb dX1_make_4 rfl (lv_at hl 2 rfl) ?_
    refine lv_if_eq (tgt := 13) hx hb dX1_make_5 (by decide) (fun c_4 => ?_) (fun c_4 => ?_)
    · refine lv_iload_n hx hb dX1_make_13 rfl (lv_at hl 3 rfl) ?_
      refine lv_if_lt (tgt := 24) hx hb dX1_make_14 (by decide) (fun c_5 => ?_) (fun c_5 => ?_)
      · have hP9 := hP.sub (ws' := [(cx, .inr (1, [.ref ar, .ref ha, .ref hz, .int col, .int mov])), (ar, .inl (cI, 8, .inl rg)), (ha, .inr (0, [.ref wa, .int us, .int ob])), (wa, .inl (cI, n, .inl f)), (hz, .inr (0, [.ref wz, .int us2, .int ob2])), (wz, .inl (cI, n, .inl f2))]) [0, 1, 2, 3, 4, 5] rfl
        have hD9 := hD.sub (ws' := [(cx, .inr (1, [.ref ar, .ref ha, .ref hz, .int col, .int mov])), (ar, .inl (cI, 8, .inl rg)), (ha, .inr (0, [.ref wa, .int us, .int ob])), (wa, .inl (cI, n, .inl f)), (hz, .inr (0, [.ref wz, .int us2, .int ob2])), (wz, .inl (cI, n, .inl f2))]) [0, 1, 2, 3, 4, 5] (by decide) rfl
        have hK9 := hK.sub (tys' := [(cI, .int)]) [0] rfl
        exact vx_throwS (own := RX1) (cls := "java/lang/IllegalArgumentException") (names := ["java/lang/RuntimeException", "java/lang/Exception"]) hx hb hl9 hown (by decide +kernel) (by decide +kernel) (ht _ g_124) (ht _ g_7) hX.s30 (thA ht hE) toA hX.zU hX.zN hS (hl.1.trans hml.symm) dX1_make_24 dX1_make_27 dX1_make_28 dX1_make_30 dX1_make_33 (fun x hx => (hEx x hx).elim) (Nat.le_of_ble_eq_true rfl) (Nat.le_of_ble_eq_true rfl) (Nat.le_of_ble_eq_true rfl) (Nat.le_of_ble_eq_true rfl) hlocks (fun t ha hsz hk => ⟨(1, (rg, us, ob, f, us2, ob2, f2, col, mov)), ⟨rfl, Nat.succ_ne_zero _⟩, ⟨rfl, hP9.kept (fun k q hq => hk q.1 (hP9 k q hq).lt), va_K.moved ha hK9, hD9⟩, Nat.le_trans hS.1 hsz, fun q h1 h2 => (hk q (Nat.lt_of_lt_of_le h1 hS.1)).trans (hS.2.1 q h1 h2)⟩) hS.2.2 (Nat.le_of_ble_eq_true rfl) (Nat.le_of_ble_eq_true rfl)
      · refine lv_iload_n hx hb dX1_make_17 rfl (lv_at hl 3 rfl) ?_
        refine lv_sipush (v := 200) hx hb dX1_make_18 (by decide) ?_
        refine lv_icmp_le (tgt := 34) hx hb dX1_make_21 (by decide) (fun c_6 => ?_) (fun c_6 => ?_)
        · exact absurd ⟨rr_is.mp c_3, (kd01.mpr (Or.inl c_4)).1, (kd01.mpr (Or.inl c_4)).2, c_5, c_6⟩ hbad
        · have hP9 := hP.sub (ws' := [(cx, .inr (1, [.ref ar, .ref ha, .ref hz, .int col, .int mov])), (ar, .inl (cI, 8, .inl rg)), (ha, .inr (0, [.ref wa, .int us, .int ob])), (wa, .inl (cI, n, .inl f)), (hz, .inr (0, [.ref wz, .int us2, .int ob2])), (wz, .inl (cI, n, .inl f2))]) [0, 1, 2, 3, 4, 5] rfl
          have hD9 := hD.sub (ws' := [(cx, .inr (1, [.ref ar, .ref ha, .ref hz, .int col, .int mov])), (ar, .inl (cI, 8, .inl rg)), (ha, .inr (0, [.ref wa, .int us, .int ob])), (wa, .inl (cI, n, .inl f)), (hz, .inr (0, [.ref wz, .int us2, .int ob2])), (wz, .inl (cI, n, .inl f2))]) [0, 1, 2, 3, 4, 5] (by decide) rfl
          have hK9 := hK.sub (tys' := [(cI, .int)]) [0] rfl
          exact vx_throwS (own := RX1) (cls := "java/lang/IllegalArgumentException") (names := ["java/lang/RuntimeException", "java/lang/Exception"]) hx hb hl9 hown (by decide +kernel) (by decide +kernel) (ht _ g_124) (ht _ g_7) hX.s30 (thA ht hE) toA hX.zU hX.zN hS (hl.1.trans hml.symm) dX1_make_24 dX1_make_27 dX1_make_28 dX1_make_30 dX1_make_33 (fun x hx => (hEx x hx).elim) (Nat.le_of_ble_eq_true rfl) (Nat.le_of_ble_eq_true rfl) (Nat.le_of_ble_eq_true rfl) (Nat.le_of_ble_eq_true rfl) hlocks (fun t ha hsz hk => ⟨(1, (rg, us, ob, f, us2, ob2, f2, col, mov)), ⟨rfl, Nat.succ_ne_zero _⟩, ⟨rfl, hP9.kept (fun k q hq => hk q.1 (hP9 k q hq).lt), va_K.moved ha hK9, hD9⟩, Nat.le_trans hS.1 hsz, fun q h1 h2 => (hk q (Nat.lt_of_lt_of_le h1 hS.1)).trans (hS.2.1 q h1 h2)⟩) hS.2.2 (Nat.le_of_ble_eq_true rfl) (Nat.le_of_ble_eq_true rfl)
    · refine lv_iload_n hx hb dX1_make_8 rfl (lv_at hl 2 rfl) ?_
      refine lv_iconst (v := 1) hx hb dX1_make_9 (by decide) ?_
      refine lv_icmp_ne (tgt := 24) hx hb dX1_make_10 (by decide) (fun c_7 => ?_) (fun c_7 => ?_)
      · have hP9 := hP.sub (ws' := [(cx, .inr (1, [.ref ar, .ref ha, .ref hz, .int col, .int mov])), (ar, .inl (cI, 8, .inl rg)), (ha, .inr (0, [.ref wa, .int us, .int ob])), (wa, .inl (cI, n, .inl f)), (hz, .inr (0, [.ref wz, .int us2, .int ob2])), (wz, .inl (cI, n, .inl f2))]) [0, 1, 2, 3, 4, 5] rfl
        have hD9 := hD.sub (ws' := [(cx, .inr (1, [.ref ar, .ref ha, .ref hz, .int col, .int mov])), (ar, .inl (cI, 8, .inl rg)), (ha, .inr (0, [.ref wa, .int us, .int ob])), (wa, .inl (cI, n, .inl f)), (hz, .inr (0, [.ref wz, .int us2, .int ob2])), (wz, .inl (cI, n, .inl f2))]) [0, 1, 2, 3, 4, 5] (by decide) rfl
        have hK9 := hK.sub (tys' := [(cI, .int)]) [0] rfl
        exact vx_throwS (own := RX1) (cls := "java/lang/IllegalArgumentException") (names := ["java/lang/RuntimeException", "java/lang/Exception"]) hx hb hl9 hown (by decide +kernel) (by decide +kernel) (ht _ g_124) (ht _ g_7) hX.s30 (thA ht hE) toA hX.zU hX.zN hS (hl.1.trans hml.symm) dX1_make_24 dX1_make_27 dX1_make_28 dX1_make_30 dX1_make_33 (fun x hx => (hEx x hx).elim) (Nat.le_of_ble_eq_true rfl) (Nat.le_of_ble_eq_true rfl) (Nat.le_of_ble_eq_true rfl) (Nat.le_of_ble_eq_true rfl) hlocks (fun t ha hsz hk => ⟨(1, (rg, us, ob, f, us2, ob2, f2, col, mov)), ⟨rfl, Nat.succ_ne_zero _⟩, ⟨rfl, hP9.kept (fun k q hq => hk q.1 (hP9 k q hq).lt), va_K.moved ha hK9, hD9⟩, Nat.le_trans hS.1 hsz, fun q h1 h2 => (hk q (Nat.lt_of_lt_of_le h1 hS.1)).trans (hS.2.1 q h1 h2)⟩) hS.2.2 (Nat.le_of_ble_eq_true rfl) (Nat.le_of_ble_eq_true rfl)
      · refine lv_iload_n hx hb dX1_make_13 rfl (lv_at hl 3 rfl) ?_
        refine lv_if_lt (tgt := 24) hx hb dX1_make_14 (by decide) (fun c_8 => ?_) (fun c_8 => ?_)
        · have hP9 := hP.sub (ws' := [(cx, .inr (1, [.ref ar, .ref ha, .ref hz, .int col, .int mov])), (ar, .inl (cI, 8, .inl rg)), (ha, .inr (0, [.ref wa, .int us, .int ob])), (wa, .inl (cI, n, .inl f)), (hz, .inr (0, [.ref wz, .int us2, .int ob2])), (wz, .inl (cI, n, .inl f2))]) [0, 1, 2, 3, 4, 5] rfl
          have hD9 := hD.sub (ws' := [(cx, .inr (1, [.ref ar, .ref ha, .ref hz, .int col, .int mov])), (ar, .inl (cI, 8, .inl rg)), (ha, .inr (0, [.ref wa, .int us, .int ob])), (wa, .inl (cI, n, .inl f)), (hz, .inr (0, [.ref wz, .int us2, .int ob2])), (wz, .inl (cI, n, .inl f2))]) [0, 1, 2, 3, 4, 5] (by decide) rfl
          have hK9 := hK.sub (tys' := [(cI, .int)]) [0] rfl
          exact vx_throwS (own := RX1) (cls := "java/lang/IllegalArgumentException") (names := ["java/lang/RuntimeException", "java/lang/Exception"]) hx hb hl9 hown (by decide +kernel) (by decide +kernel) (ht _ g_124) (ht _ g_7) hX.s30 (thA ht hE) toA hX.zU hX.zN hS (hl.1.trans hml.symm) dX1_make_24 dX1_make_27 dX1_make_28 dX1_make_30 dX1_make_33 (fun x hx => (hEx x hx).elim) (Nat.le_of_ble_eq_true rfl) (Nat.le_of_ble_eq_true rfl) (Nat.le_of_ble_eq_true rfl) (Nat.le_of_ble_eq_true rfl) hlocks (fun t ha hsz hk => ⟨(1, (rg, us, ob, f, us2, ob2, f2, col, mov)), ⟨rfl, Nat.succ_ne_zero _⟩, ⟨rfl, hP9.kept (fun k q hq => hk q.1 (hP9 k q hq).lt), va_K.moved ha hK9, hD9⟩, Nat.le_trans hS.1 hsz, fun q h1 h2 => (hk q (Nat.lt_of_lt_of_le h1 hS.1)).trans (hS.2.1 q h1 h2)⟩) hS.2.2 (Nat.le_of_ble_eq_true rfl) (Nat.le_of_ble_eq_true rfl)
        · refine lv_iload_n hx hb dX1_make_17 rfl (lv_at hl 3 rfl) ?_
          refine lv_sipush (v := 200) hx hb dX1_make_18 (by decide) ?_
          refine lv_icmp_le (tgt := 34) hx hb dX1_make_21 (by decide) (fun c_9 => ?_) (fun c_9 => ?_)
          · exact absurd ⟨rr_is.mp c_3, (kd01.mpr (Or.inr c_7)).1, (kd01.mpr (Or.inr c_7)).2, c_8, c_9⟩ hbad
          · have hP9 := hP.sub (ws' := [(cx, .inr (1, [.ref ar, .ref ha, .ref hz, .int col, .int mov])), (ar, .inl (cI, 8, .inl rg)), (ha, .inr (0, [.ref wa, .int us, .int ob])), (wa, .inl (cI, n, .inl f)), (hz, .inr (0, [.ref wz, .int us2, .int ob2])), (wz, .inl (cI, n, .inl f2))]) [0, 1, 2, 3, 4, 5] rfl
            have hD9 := hD.sub (ws' := [(cx, .inr (1, [.ref ar, .ref ha, .ref hz, .int col, .int mov])), (ar, .inl (cI, 8, .inl rg)), (ha, .inr (0, [.ref wa, .int us, .int ob])), (wa, .inl (cI, n, .inl f)), (hz, .inr (0, [.ref wz, .int us2, .int ob2])), (wz, .inl (cI, n, .inl f2))]) [0, 1, 2, 3, 4, 5] (by decide) rfl
            have hK9 := hK.sub (tys' := [(cI, .int)]) [0] rfl
            exact vx_throwS (own := RX1) (cls := "java/lang/IllegalArgumentException") (names := ["java/lang/RuntimeException", "java/lang/Exception"]) hx hb hl9 hown (by decide +kernel) (by decide +kernel) (ht _ g_124) (ht _ g_7) hX.s30 (thA ht hE) toA hX.zU hX.zN hS (hl.1.trans hml.symm) dX1_make_24 dX1_make_27 dX1_make_28 dX1_make_30 dX1_make_33 (fun x hx => (hEx x hx).elim) (Nat.le_of_ble_eq_true rfl) (Nat.le_of_ble_eq_true rfl) (Nat.le_of_ble_eq_true rfl) (Nat.le_of_ble_eq_true rfl) hlocks (fun t ha hsz hk => ⟨(1, (rg, us, ob, f, us2, ob2, f2, col, mov)), ⟨rfl, Nat.succ_ne_zero _⟩, ⟨rfl, hP9.kept (fun k q hq => hk q.1 (hP9 k q hq).lt), va_K.moved ha hK9, hD9⟩, Nat.le_trans hS.1 hsz, fun q h1 h2 => (hk q (Nat.lt_of_lt_of_le h1 hS.1)).trans (hS.2.1 q h1 h2)⟩) hS.2.2 (Nat.le_of_ble_eq_true rfl) (Nat.le_of_ble_eq_true rfl)
abbrev atX1_make_1 (dC : Nat → ClassId) (dI : Nat → Nat → Nat) (cI : ClassId) (A : Nat → Prop) (cx : Nat) (ar : Nat) (ha : Nat) (wa : Nat) (hz : Nat) (wz : Nat) (n : Nat) (u : (Nat → Int32) × Int32 × Int32 × (Nat → Int32) × Int32 × Int32 × (Nat → Int32) × Int32 × Int32) (t : State) : Prop := va_P (dC, dI) vwCl [(cx, .inr (1, [.ref ar, .ref ha, .ref hz, .int u.2.2.2.2.2.2.2.1, .int u.2.2.2.2.2.2.2.2])), (ar, .inl (cI, 8, .inl u.1)), (ha, .inr (0, [.ref wa, .int u.2.1, .int u.2.2.1])), (wa, .inl (cI, n, .inl u.2.2.2.1)), (hz, .inr (0, [.ref wz, .int u.2.2.2.2.1, .int u.2.2.2.2.2.1])), (wz, .inl (cI, n, .inl u.2.2.2.2.2.2.1))] t.heap ∧ va_K (dC, dI) vwCl [(cI, .int)] t ∧ va_D A [(cx, .inr (1, [.ref ar, .ref ha, .ref hz, .int u.2.2.2.2.2.2.2.1, .int u.2.2.2.2.2.2.2.2])), (ar, .inl (cI, 8, .inl u.1)), (ha, .inr (0, [.ref wa, .int u.2.1, .int u.2.2.1])), (wa, .inl (cI, n, .inl u.2.2.2.1)), (hz, .inr (0, [.ref wz, .int u.2.2.2.2.1, .int u.2.2.2.2.2.1])), (wz, .inl (cI, n, .inl u.2.2.2.2.2.2.1))]
set_option maxHeartbeats 4000000 in
set_option maxRecDepth 100000 in
theorem ctX1_make_1 (l : Launch) (hl9 : l.stackTraces = false) (dC : Nat → ClassId) (dI : Nat → Nat → Nat) (cI : ClassId) (sa : Nat → Nat) (cx : Nat) (ar : Nat) (ha : Nat) (wa : Nat) (hz : Nat) (wz : Nat) (n : Nat) (col : Int32) (mov : Int32) (rg : Nat → Int32) (us : Int32) (ob : Int32) (f : Nat → Int32) (us2 : Int32) (ob2 : Int32) (f2 : Nat → Int32) (ip : Int32) (iq : Int32) (ir : Int32) (Fd : Nat) (uu : Nat) (sz : Nat) (hn : n < 2 ^ 31) (hF31 : Fd < 2 ^ 31) (hgd : gdA ip iq ir) (hir : ir = nI Fd) (hus : us = nI uu) (hnb : n ≤ 2063) (hfit : uu + 1 + Fd ≤ n) : vx_Met l yX1_make (kX1_make :: gT) ({ frames := 7, cells := 5, slots := 30, locals := 145 }) (va_Pc [.ref cx, .int ip, .int iq, .int ir] (pY (dC, dI) [(cx, .inr (1, [.ref ar, .ref ha, .ref hz, .int col, .int mov])), (ar, .inl (cI, 8, .inl rg)), (ha, .inr (0, [.ref wa, .int us, .int ob])), (wa, .inl (cI, n, .inl f)), (hz, .inr (0, [.ref wz, .int us2, .int ob2])), (wz, .inl (cI, n, .inl f2))] [(cI, .int)] sa sz)) (va_Qi (fun (r : Int32) (u : (Nat → Int32) × Int32 × Int32 × (Nat → Int32) × Int32 × Int32 × (Nat → Int32) × Int32 × Int32) => r = nI uu ∧ u = (upd rg ip.toNatClampNeg (nI (2 * uu + 1)), nI (uu + Fd + 1), ob + 1, va_cpy (fun _ => 0) (upd f uu (nI (2 * Fd) ||| iq)) 0 (uu + 1) Fd, us2, ob2, f2, col, mov)) (atX1_make_1 dC dI cI (va_A [(cx, .inr (1, [.ref ar, .ref ha, .ref hz, .int col, .int mov])), (ar, .inl (cI, 8, .inl rg)), (ha, .inr (0, [.ref wa, .int us, .int ob])), (wa, .inl (cI, n, .inl f)), (hz, .inr (0, [.ref wz, .int us2, .int ob2])), (wz, .inl (cI, n, .inl f2))] sz) cx ar ha wa hz wz n) (va_A [(cx, .inr (1, [.ref ar, .ref ha, .ref hz, .int col, .int mov])), (ar, .inl (cI, 8, .inl rg)), (ha, .inr (0, [.ref wa, .int us, .int ob])), (wa, .inl (cI, n, .inl f)), (hz, .inr (0, [.ref wz, .int us2, .int ob2])), (wz, .inl (cI, n, .inl f2))] sz)) (vx_X (fun v : Nat × ((Nat → Int32) × Int32 × Int32 × (Nat → Int32) × Int32 × Int32 × (Nat → Int32) × Int32 × Int32) => False) (fun E v t => E = exN v.1 ∧ atX1_make_1 dC dI cI (va_A [(cx, .inr (1, [.ref ar, .ref ha, .ref hz, .int col, .int mov])), (ar, .inl (cI, 8, .inl rg)), (ha, .inr (0, [.ref wa, .int us, .int ob])), (wa, .inl (cI, n, .inl f)), (hz, .inr (0, [.ref wz, .int us2, .int ob2])), (wz, .inl (cI, n, .inl f2))] sz) cx ar ha wa hz wz n v.2 t) (va_A [(cx, .inr (1, [.ref ar, .ref ha, .ref hz, .int col, .int mov])), (ar, .inl (cI, 8, .inl rg)), (ha, .inr (0, [.ref wa, .int us, .int ob])), (wa, .inl (cI, n, .inl f)), (hz, .inr (0, [.ref wz, .int us2, .int ob2])), (wz, .inl (cI, n, .inl f2))] sz)) 5 30 (va_A [(cx, .inr (1, [.ref ar, .ref ha, .ref hz, .int col, .int mov])), (ar, .inl (cI, 8, .inl rg)), (ha, .inr (0, [.ref wa, .int us, .int ob])), (wa, .inl (cI, n, .inl f)), (hz, .inr (0, [.ref wz, .int us2, .int ob2])), (wz, .inl (cI, n, .inl f2))] sz) := by
  have hFd9 : Fd ≤ 200 := fdB hir hgd
  subst hir
  subst hus
  refine vx_ofW (cc := cX1_make) (maxL := 5) (ret := (some .int)) (by decide) rfl ?_
  intro p e s m args below meth c s₁ B hml hEx hv
  obtain ⟨rfl, hsz, hP, hK, hD0, hE, hX⟩ := hv
  have hx := B.exec
  have hb := B.bytes
  have hr := B.returns
  have ht : ∀ w ∈ gT, w.before ([.ref cx, .int ip, .int iq, .int (nI Fd)] : List Value).toArray s = true := fun w h => atoms_spec (ws := kX1_make :: gT) B.pre w (List.mem_cons_of_mem _ h)
  have hown : s.vm.findClass RX1 = some m.cls := findClass_of_methodNamed B.named
  have hlocks := B.notSynchronized
  subst hsz
  have hD := hD0.self (sz := s.heap.size)
  generalize hAe : va_A [(cx, .inr (1, [.ref ar, .ref ha, .ref hz, .int col, .int mov])), (ar, .inl (cI, 8, .inl rg)), (ha, .inr (0, [.ref wa, .int (nI uu), .int ob])), (wa, .inl (cI, n, .inl f)), (hz, .inr (0, [.ref wz, .int us2, .int ob2])), (wz, .inl (cI, n, .inl f2))] s.heap.size = A at hD hX ⊢
  have hA : ∀ q : Nat, s.heap.size ≤ q → A q := fun q h => by rw [← hAe]; exact Or.inr h
  have hS : va_S A s.heap s.heap [] := va_S.rf
  have hl := lv_entry ([.ref cx, .int ip, .int iq, .int (nI Fd)]) (n := 5) (Nat.le_of_ble_eq_true rfl)
  rw [lg_entry_eq]
  generalize (lg_sl ([.ref cx, .int ip, .int iq, .int (nI Fd)]) ++ List.replicate (5 - (lg_sl ([.ref cx, .int ip, .int iq, .int (nI Fd)])).length) Slot.unset).toArray = ls at hl ⊢
  have hl : lv_has ls 5 [(0, .ref cx), (1, .int ip), (2, .int iq), (3, .int (nI Fd))] := hl
  refine lv_iload_n hx hb dX1_make_0 rfl (lv_at hl 1 rfl) ?_
  have hPc := hP.sub (ws' := []) [] rfl
  have hKc := hK.sub (tys' := []) [] rfl
  have hFc := nilF hS hA
  refine vx_callv (vx_runS (As := [.int ip]) (rest := []) ⟨hx, hb, hml, hown, ht⟩ (ctX1_requireRegister l hl9 dC dI cI sa ip _ ) (cwS 1 ht gcX1_25 rfl rfl rfl (by decide +kernel) ⟨Nat.le_of_ble_eq_true rfl, Nat.le_of_ble_eq_true rfl⟩) ⟨pR.blind, pR.call hPc hKc hE hX hS hFc⟩ rfl rfl hl.1 rfl (lv_room (Nat.le_of_ble_eq_true rfl)) dX1_make_1 ⟨Nat.le_of_ble_eq_true rfl, Nat.le_of_ble_eq_true rfl⟩) hS (fun q _ h => hFc q h) hFc (fun q _ h => hFc q h) (fun E ce q9 u_1 t H1 locs ht9 hvm hp hB hz1 hk1 hS hce hcv hcl => ?_) (fun u_1 t H1 locs ht9 hvm hw hB hz1 hk1 hS => ?_)
  · obtain ⟨hpe, hpk⟩ := hp
    obtain rfl : u_1 = ((fX1_requireRegister ip).1, (fX1_requireRegister ip).2.2) := by rw [hpe]
    exact absurd (rr_is.mpr hgd.1) hpk
  · have c_3 : (fX1_requireRegister ip).1 = 0 := by rw [hw]
    have hP := rKeep hP hk1
    generalize H1 = H at hP hS ⊢
    have hkd := kd01.mp ⟨hgd.2.1, hgd.2.2.1⟩
    refine lv_iload_n hx hb dX1_make_4 rfl (lv_at hl 2 rfl) ?_
    refine lv_if_eq (tgt := 13) hx hb dX1_make_5 (by decide) (fun c_4 => ?_) (fun c_4 => ?_)
    · refine lv_iload_n hx hb dX1_make_13 rfl (lv_at hl 3 rfl) ?_
      refine lv_if_lt (tgt := 24) hx hb dX1_make_14 (by decide) (fun h => absurd h hgd.2.2.2.1) (fun _ => ?_)
      refine lv_iload_n hx hb dX1_make_17 rfl (lv_at hl 3 rfl) ?_
      refine lv_sipush (v := 200) hx hb dX1_make_18 (by decide) ?_
      refine lv_icmp_le (tgt := 34) hx hb dX1_make_21 (by decide) (fun _ => ?_) (fun h => absurd hgd.2.2.2.2 h)
      refine lv_aload_n hx hb dX1_make_34 rfl (lv_at hl 0 rfl) ?_
      refine va_get (D := (dC, dI)) (ci := 1) (v := .ref ha) (C := RX1) (T := TX1) (N := 5) hx hb ht iX1 hown hK hP 0 rfl rfl 1 (by decide) (ht _ g_39) (fun _ h9 => h9) rfl dX1_make_35 ?_
      refine lv_iconst (v := 1) hx hb dX1_make_38 (by decide) ?_
      refine lv_iload_n hx hb dX1_make_39 rfl (lv_at hl 3 rfl) ?_
      refine lv_iadd hx hb dX1_make_40 ?_
      have hPc := hP.sub (ws' := [(ha, .inr (0, [.ref wa, .int (nI uu), .int ob])), (wa, .inl (cI, n, .inl f))]) [2, 3] rfl
      have hKc := hK.sub (tys' := [(cI, .int)]) [0] rfl
      refine vp_callSi (va_runV (As := [.int (1 + (nI Fd))]) (rest := []) ⟨hx, hb, hml, hown, ht⟩ (ctX0_hasRoomFor l dC dI cI ha wa n (nI uu) ob f (1 + (nI Fd)) ) (cwV 1 ht gcX1_35 rfl rfl rfl (by decide +kernel) ⟨Nat.le_of_ble_eq_true rfl, Nat.le_of_ble_eq_true rfl⟩) ⟨pS.blind, va_recv hKc hPc (ci := 0) (q0 := 0) rfl rfl, pS.call hPc hKc hE⟩ rfl rfl hl.1 rfl (lv_room (Nat.le_of_ble_eq_true rfl)) dX1_make_41 ⟨Nat.le_of_ble_eq_true rfl, Nat.le_of_ble_eq_true rfl⟩).run (fun r_5 hr_5 => ?_)
      subst hr_5
      refine lv_if_ne (tgt := 51) hx hb dX1_make_44 (by decide) (fun _ => ?_) (fun h => absurd h (by rw [hrI (by omega) (by omega) (by omega), if_neg (by omega)]; decide))
      refine lv_aload_n hx hb dX1_make_51 rfl (lv_at hl 0 rfl) ?_
      refine va_get (D := (dC, dI)) (ci := 1) (v := .ref ha) (C := RX1) (T := TX1) (N := 5) hx hb ht iX1 hown hK hP 0 rfl rfl 1 (by decide) (ht _ g_39) (fun _ h9 => h9) rfl dX1_make_52 ?_
      refine lv_iconst (v := 1) hx hb dX1_make_55 (by decide) ?_
      refine lv_iload_n hx hb dX1_make_56 rfl (lv_at hl 3 rfl) ?_
      refine lv_iadd hx hb dX1_make_57 ?_
      have hPc := hP.sub (ws' := [(ha, .inr (0, [.ref wa, .int (nI uu), .int ob])), (wa, .inl (cI, n, .inl f))]) [2, 3] rfl
      have hKc := hK.sub (tys' := [(cI, .int)]) [0] rfl
      refine vp_callSi (va_runV (As := [.int (1 + (nI Fd))]) (rest := []) ⟨hx, hb, hml, hown, ht⟩ (ctX0_hasRoomFor l dC dI cI ha wa n (nI uu) ob f (1 + (nI Fd)) ) (cwV 1 ht gcX1_35 rfl rfl rfl (by decide +kernel) ⟨Nat.le_of_ble_eq_true rfl, Nat.le_of_ble_eq_true rfl⟩) ⟨pS.blind, va_recv hKc hPc (ci := 0) (q0 := 0) rfl rfl, pS.call hPc hKc hE⟩ rfl rfl hl.1 rfl (lv_room (Nat.le_of_ble_eq_true rfl)) dX1_make_58 ⟨Nat.le_of_ble_eq_true rfl, Nat.le_of_ble_eq_true rfl⟩).run (fun r_6 hr_6 => ?_)
      subst hr_6
      refine lv_if_ne (tgt := 74) hx hb dX1_make_61 (by decide) (fun _ => ?_) (fun h => absurd h (by rw [hrI (by omega) (by omega) (by omega), if_neg (by omega)]; decide))
      refine lv_aload_n hx hb dX1_make_74 rfl (lv_at hl 0 rfl) ?_
      refine va_get (D := (dC, dI)) (ci := 1) (v := .ref ha) (C := RX1) (T := TX1) (N := 5) hx hb ht iX1 hown hK hP 0 rfl rfl 1 (by decide) (ht _ g_39) (fun _ h9 => h9) rfl dX1_make_75 ?_
      refine lv_iload_n hx hb dX1_make_78 rfl (lv_at hl 2 rfl) ?_
      refine lv_iload_n hx hb dX1_make_79 rfl (lv_at hl 3 rfl) ?_
      have hPc := hP.sub (ws' := [(ha, .inr (0, [.ref wa, .int (nI uu), .int ob])), (wa, .inl (cI, n, .inl f))]) [2, 3] rfl
      have hKc := hK.sub (tys' := [(cI, .int)]) [0] rfl
      have hDc := hD.sub (ws' := [(ha, .inr (0, [.ref wa, .int (nI uu), .int ob])), (wa, .inl (cI, n, .inl f))]) [2, 3] (by decide) rfl
      have hFc := va_free (wc := [(ha, .inr (0, [.ref wa, .int (nI uu), .int ob])), (wa, .inl (cI, n, .inl f))]) hD hS hA [2, 3] rfl
      refine va_calli (va_runV (As := [.int iq, .int (nI Fd)]) (rest := []) ⟨hx, hb, hml, hown, ht⟩ (ctX0_addObject l dC dI cI ha wa n (nI uu) ob f iq (nI Fd) uu Fd _ hn rfl rfl (by omega) (by omega)) (cwV 2 ht gcX1_47 rfl rfl rfl (by decide +kernel) ⟨Nat.le_of_ble_eq_true rfl, Nat.le_of_ble_eq_true rfl⟩) ⟨pM.blind, va_recv hKc hPc (ci := 0) (q0 := 0) rfl rfl, pM.call hPc hKc hDc hE⟩ rfl rfl hl.1 rfl (lv_room (Nat.le_of_ble_eq_true rfl)) dX1_make_80 ⟨Nat.le_of_ble_eq_true rfl, Nat.le_of_ble_eq_true rfl⟩) hS (fun q _ h => hFc q h) hFc (fun r_8 u_7 t H1 locs ht9 hvm hw hB hz1 hk1 hS => ?_)
      obtain ⟨rfl, rfl⟩ : r_8 = nI uu ∧ u_7 = (nI (uu + Fd + 1), ob + 1, va_cpy (fun _ => 0) (upd f uu (nI (2 * Fd) ||| iq)) 0 (uu + 1) Fd) := ⟨(Prod.mk.inj hw).1, (Prod.mk.inj hw).2⟩
      obtain ⟨hP1, hK1, hD1⟩ := hB
      rw [ht9] at hP1
      obtain ⟨hP, hD⟩ := va_join (wr := [(cx, .inr (1, [.ref ar, .ref ha, .ref hz, .int col, .int mov])), (ar, .inl (cI, 8, .inl rg)), (hz, .inr (0, [.ref wz, .int us2, .int ob2])), (wz, .inl (cI, n, .inl f2))]) (w1 := [(ha, .inr (0, [.ref wa, .int (nI (uu + Fd + 1)), .int (ob + 1)])), (wa, .inl (cI, n, .inl (va_cpy (fun _ => 0) (upd f uu (nI (2 * Fd) ||| iq)) 0 (uu + 1) Fd)))]) hP hD [2, 3] [0, 1, 4, 5] rfl rfl (by decide) (by decide) hk1 hFc hP1 hD1
      generalize H1 = H at hP hS ⊢
      have hP := hP.sub (ws' := [(cx, .inr (1, [.ref ar, .ref ha, .ref hz, .int col, .int mov])), (ar, .inl (cI, 8, .inl rg)), (ha, .inr (0, [.ref wa, .int (nI (uu + Fd + 1)), .int (ob + 1)])), (wa, .inl (cI, n, .inl (va_cpy (fun _ => 0) (upd f uu (nI (2 * Fd) ||| iq)) 0 (uu + 1) Fd))), (hz, .inr (0, [.ref wz, .int us2, .int ob2])), (wz, .inl (cI, n, .inl f2))]) [0, 1, 4, 5, 2, 3] rfl
      have hD := hD.sub (ws' := [(cx, .inr (1, [.ref ar, .ref ha, .ref hz, .int col, .int mov])), (ar, .inl (cI, 8, .inl rg)), (ha, .inr (0, [.ref wa, .int (nI (uu + Fd + 1)), .int (ob + 1)])), (wa, .inl (cI, n, .inl (va_cpy (fun _ => 0) (upd f uu (nI (2 * Fd) ||| iq)) 0 (uu + 1) Fd))), (hz, .inr (0, [.ref wz, .int us2, .int ob2])), (wz, .inl (cI, n, .inl f2))]) [0, 1, 4, 5, 2, 3] (by decide) rfl
      refine lv_istore (lv' := [(4, .int (nI uu)), (0, .ref cx), (1, .int ip), (2, .int iq), (3, .int (nI Fd))]) hx hb dX1_make_83 hl (by decide) rfl (fun ls hl => ?_)
      refine lv_aload_n hx hb dX1_make_85 rfl (lv_at hl 1 rfl) ?_
      refine va_get (D := (dC, dI)) (ci := 1) (v := .ref ar) (C := RX1) (T := TX1) (N := 5) hx hb ht iX1 hown hK hP 0 rfl rfl 0 (by decide) (ht _ g_38) (fun _ h9 => h9) rfl dX1_make_86 ?_
      refine lv_iload_n hx hb dX1_make_89 rfl (lv_at hl 2 rfl) ?_
      refine lv_iload hx hb dX1_make_90 (lv_at hl 0 rfl) ?_
      refine vp_callSi (va_runS (As := [.int (nI uu)]) (rest := [.int ip, .ref ar]) ⟨hx, hb, hml, hown, ht⟩ (ctX1_asReference l (nI uu)) (cwS 1 ht gcX1_51 rfl rfl rfl (by decide +kernel) ⟨Nat.le_of_ble_eq_true rfl, Nat.le_of_ble_eq_true rfl⟩) ⟨pT.blind, pT.call⟩ rfl rfl hl.1 rfl (lv_room (Nat.le_of_ble_eq_true rfl)) dX1_make_92 ⟨Nat.le_of_ble_eq_true rfl, Nat.le_of_ble_eq_true rfl⟩).run (fun r_9 hr_9 => ?_)
      subst hr_9
      rw [asRefN (show uu < 2 ^ 30 by omega)]
      refine va_iast hx hb hK hP hD hS 1 0 rfl rfl (isReg hgd.1) dX1_make_95 (fun H locs hP hD hS => ?_)
      have hP : va_P (dC, dI) vwCl [(cx, .inr (1, [.ref ar, .ref ha, .ref hz, .int col, .int mov])), (ar, .inl (cI, 8, .inl (upd rg ip.toNatClampNeg (nI (2 * uu + 1))))), (ha, .inr (0, [.ref wa, .int (nI (uu + Fd + 1)), .int (ob + 1)])), (wa, .inl (cI, n, .inl (va_cpy (fun _ => 0) (upd f uu (nI (2 * Fd) ||| iq)) 0 (uu + 1) Fd))), (hz, .inr (0, [.ref wz, .int us2, .int ob2])), (wz, .inl (cI, n, .inl f2))] H := hP
      have hD : va_D A [(cx, .inr (1, [.ref ar, .ref ha, .ref hz, .int col, .int mov])), (ar, .inl (cI, 8, .inl (upd rg ip.toNatClampNeg (nI (2 * uu + 1))))), (ha, .inr (0, [.ref wa, .int (nI (uu + Fd + 1)), .int (ob + 1)])), (wa, .inl (cI, n, .inl (va_cpy (fun _ => 0) (upd f uu (nI (2 * Fd) ||| iq)) 0 (uu + 1) Fd))), (hz, .inr (0, [.ref wz, .int us2, .int ob2])), (wz, .inl (cI, n, .inl f2))] := hD
      refine lv_iload hx hb dX1_make_96 (lv_at hl 0 rfl) ?_
      refine vx_ret ?_
      refine W.widen (k := 5) (n := 30) (Nat.le_of_ble_eq_true rfl) (Nat.le_of_ble_eq_true rfl) ?_
      have hP9 := hP.sub (ws' := [(cx, .inr (1, [.ref ar, .ref ha, .ref hz, .int col, .int mov])), (ar, .inl (cI, 8, .inl (upd rg ip.toNatClampNeg (nI (2 * uu + 1))))), (ha, .inr (0, [.ref wa, .int (nI (uu + Fd + 1)), .int (ob + 1)])), (wa, .inl (cI, n, .inl (va_cpy (fun _ => 0) (upd f uu (nI (2 * Fd) ||| iq)) 0 (uu + 1) Fd))), (hz, .inr (0, [.ref wz, .int us2, .int ob2])), (wz, .inl (cI, n, .inl f2))]) [0, 1, 2, 3, 4, 5] rfl
      have hD9 := hD.sub (ws' := [(cx, .inr (1, [.ref ar, .ref ha, .ref hz, .int col, .int mov])), (ar, .inl (cI, 8, .inl (upd rg ip.toNatClampNeg (nI (2 * uu + 1))))), (ha, .inr (0, [.ref wa, .int (nI (uu + Fd + 1)), .int (ob + 1)])), (wa, .inl (cI, n, .inl (va_cpy (fun _ => 0) (upd f uu (nI (2 * Fd) ||| iq)) 0 (uu + 1) Fd))), (hz, .inr (0, [.ref wz, .int us2, .int ob2])), (wz, .inl (cI, n, .inl f2))]) [0, 1, 2, 3, 4, 5] (by decide) rfl
      have hK9 := hK.sub (tys' := [(cI, .int)]) [0] rfl
      exact W.iret (v := nI uu) hx hb hr (fun t ht hW => ⟨⟨_, (upd rg ip.toNatClampNeg (nI (2 * uu + 1)), nI (uu + Fd + 1), ob + 1, va_cpy (fun _ => 0) (upd f uu (nI (2 * Fd) ||| iq)) 0 (uu + 1) Fd, us2, ob2, f2, col, mov), rfl, ⟨rfl, rfl⟩, by rw [ht]; exact hP9, va_K.moved hW.alike hK9, hD9⟩, hS.F ht⟩) hS.2.2 dX1_make_98
    · refine lv_iload_n hx hb dX1_make_8 rfl (lv_at hl 2 rfl) ?_
      refine lv_iconst (v := 1) hx hb dX1_make_9 (by decide) ?_
      refine lv_icmp_ne (tgt := 24) hx hb dX1_make_10 (by decide) (fun c_10 => ?_) (fun c_10 => ?_)
      · exact absurd hkd (fun q => q.elim c_4 c_10)
      · refine lv_iload_n hx hb dX1_make_13 rfl (lv_at hl 3 rfl) ?_
        refine lv_if_lt (tgt := 24) hx hb dX1_make_14 (by decide) (fun h => absurd h hgd.2.2.2.1) (fun _ => ?_)
        refine lv_iload_n hx hb dX1_make_17 rfl (lv_at hl 3 rfl) ?_
        refine lv_sipush (v := 200) hx hb dX1_make_18 (by decide) ?_
        refine lv_icmp_le (tgt := 34) hx hb dX1_make_21 (by decide) (fun _ => ?_) (fun h => absurd hgd.2.2.2.2 h)
        refine lv_aload_n hx hb dX1_make_34 rfl (lv_at hl 0 rfl) ?_
        refine va_get (D := (dC, dI)) (ci := 1) (v := .ref ha) (C := RX1) (T := TX1) (N := 5) hx hb ht iX1 hown hK hP 0 rfl rfl 1 (by decide) (ht _ g_39) (fun _ h9 => h9) rfl dX1_make_35 ?_
        refine lv_iconst (v := 1) hx hb dX1_make_38 (by decide) ?_
        refine lv_iload_n hx hb dX1_make_39 rfl (lv_at hl 3 rfl) ?_
        refine lv_iadd hx hb dX1_make_40 ?_
        have hPc := hP.sub (ws' := [(ha, .inr (0, [.ref wa, .int (nI uu), .int ob])), (wa, .inl (cI, n, .inl f))]) [2, 3] rfl
        have hKc := hK.sub (tys' := [(cI, .int)]) [0] rfl
        refine vp_callSi (va_runV (As := [.int (1 + (nI Fd))]) (rest := []) ⟨hx, hb, hml, hown, ht⟩ (ctX0_hasRoomFor l dC dI cI ha wa n (nI uu) ob f (1 + (nI Fd)) ) (cwV 1 ht gcX1_35 rfl rfl rfl (by decide +kernel) ⟨Nat.le_of_ble_eq_true rfl, Nat.le_of_ble_eq_true rfl⟩) ⟨pS.blind, va_recv hKc hPc (ci := 0) (q0 := 0) rfl rfl, pS.call hPc hKc hE⟩ rfl rfl hl.1 rfl (lv_room (Nat.le_of_ble_eq_true rfl)) dX1_make_41 ⟨Nat.le_of_ble_eq_true rfl, Nat.le_of_ble_eq_true rfl⟩).run (fun r_11 hr_11 => ?_)
        subst hr_11
        refine lv_if_ne (tgt := 51) hx hb dX1_make_44 (by decide) (fun _ => ?_) (fun h => absurd h (by rw [hrI (by omega) (by omega) (by omega), if_neg (by omega)]; decide))
        refine lv_aload_n hx hb dX1_make_51 rfl (lv_at hl 0 rfl) ?_
        refine va_get (D := (dC, dI)) (ci := 1) (v := .ref ha) (C := RX1) (T := TX1) (N := 5) hx hb ht iX1 hown hK hP 0 rfl rfl 1 (by decide) (ht _ g_39) (fun _ h9 => h9) rfl dX1_make_52 ?_
        refine lv_iconst (v := 1) hx hb dX1_make_55 (by decide) ?_
        refine lv_iload_n hx hb dX1_make_56 rfl (lv_at hl 3 rfl) ?_
        refine lv_iadd hx hb dX1_make_57 ?_
        have hPc := hP.sub (ws' := [(ha, .inr (0, [.ref wa, .int (nI uu), .int ob])), (wa, .inl (cI, n, .inl f))]) [2, 3] rfl
        have hKc := hK.sub (tys' := [(cI, .int)]) [0] rfl
        refine vp_callSi (va_runV (As := [.int (1 + (nI Fd))]) (rest := []) ⟨hx, hb, hml, hown, ht⟩ (ctX0_hasRoomFor l dC dI cI ha wa n (nI uu) ob f (1 + (nI Fd)) ) (cwV 1 ht gcX1_35 rfl rfl rfl (by decide +kernel) ⟨Nat.le_of_ble_eq_true rfl, Nat.le_of_ble_eq_true rfl⟩) ⟨pS.blind, va_recv hKc hPc (ci := 0) (q0 := 0) rfl rfl, pS.call hPc hKc hE⟩ rfl rfl hl.1 rfl (lv_room (Nat.le_of_ble_eq_true rfl)) dX1_make_58 ⟨Nat.le_of_ble_eq_true rfl, Nat.le_of_ble_eq_true rfl⟩).run (fun r_12 hr_12 => ?_)
        subst hr_12
        refine lv_if_ne (tgt := 74) hx hb dX1_make_61 (by decide) (fun _ => ?_) (fun h => absurd h (by rw [hrI (by omega) (by omega) (by omega), if_neg (by omega)]; decide))
        refine lv_aload_n hx hb dX1_make_74 rfl (lv_at hl 0 rfl) ?_
        refine va_get (D := (dC, dI)) (ci := 1) (v := .ref ha) (C := RX1) (T := TX1) (N := 5) hx hb ht iX1 hown hK hP 0 rfl rfl 1 (by decide) (ht _ g_39) (fun _ h9 => h9) rfl dX1_make_75 ?_
        refine lv_iload_n hx hb dX1_make_78 rfl (lv_at hl 2 rfl) ?_
        refine lv_iload_n hx hb dX1_make_79 rfl (lv_at hl 3 rfl) ?_
        have hPc := hP.sub (ws' := [(ha, .inr (0, [.ref wa, .int (nI uu), .int ob])), (wa, .inl (cI, n, .inl f))]) [2, 3] rfl
        have hKc := hK.sub (tys' := [(cI, .int)]) [0] rfl
        have hDc := hD.sub (ws' := [(ha, .inr (0, [.ref wa, .int (nI uu), .int ob])), (wa, .inl (cI, n, .inl f))]) [2, 3] (by decide) rfl
        have hFc := va_free (wc := [(ha, .inr (0, [.ref wa, .int (nI uu), .int ob])), (wa, .inl (cI, n, .inl f))]) hD hS hA [2, 3] rfl
        refine va_calli (va_runV (As := [.int iq, .int (nI Fd)]) (rest := []) ⟨hx, hb, hml, hown, ht⟩ (ctX0_addObject l dC dI cI ha wa n (nI uu) ob f iq (nI Fd) uu Fd _ hn rfl rfl (by omega) (by omega)) (cwV 2 ht gcX1_47 rfl rfl rfl (by decide +kernel) ⟨Nat.le_of_ble_eq_true rfl, Nat.le_of_ble_eq_true rfl⟩) ⟨pM.blind, va_recv hKc hPc (ci := 0) (q0 := 0) rfl rfl, pM.call hPc hKc hDc hE⟩ rfl rfl hl.1 rfl (lv_room (Nat.le_of_ble_eq_true rfl)) dX1_make_80 ⟨Nat.le_of_ble_eq_true rfl, Nat.le_of_ble_eq_true rfl⟩) hS (fun q _ h => hFc q h) hFc (fun r_14 u_13 t H1 locs ht9 hvm hw hB hz1 hk1 hS => ?_)
        obtain ⟨rfl, rfl⟩ : r_14 = nI uu ∧ u_13 = (nI (uu + Fd + 1), ob + 1, va_cpy (fun _ => 0) (upd f uu (nI (2 * Fd) ||| iq)) 0 (uu + 1) Fd) := ⟨(Prod.mk.inj hw).1, (Prod.mk.inj hw).2⟩
        obtain ⟨hP1, hK1, hD1⟩ := hB
        rw [ht9] at hP1
        obtain ⟨hP, hD⟩ := va_join (wr := [(cx, .inr (1, [.ref ar, .ref ha, .ref hz, .int col, .int mov])), (ar, .inl (cI, 8, .inl rg)), (hz, .inr (0, [.ref wz, .int us2, .int ob2])), (wz, .inl (cI, n, .inl f2))]) (w1 := [(ha, .inr (0, [.ref wa, .int (nI (uu + Fd + 1)), .int (ob + 1)])), (wa, .inl (cI, n, .inl (va_cpy (fun _ => 0) (upd f uu (nI (2 * Fd) ||| iq)) 0 (uu + 1) Fd)))]) hP hD [2, 3] [0, 1, 4, 5] rfl rfl (by decide) (by decide) hk1 hFc hP1 hD1
        generalize H1 = H at hP hS ⊢
        have hP := hP.sub (ws' := [(cx, .inr (1, [.ref ar, .ref ha, .ref hz, .int col, .int mov])), (ar, .inl (cI, 8, .inl rg)), (ha, .inr (0, [.ref wa, .int (nI (uu + Fd + 1)), .int (ob + 1)])), (wa, .inl (cI, n, .inl (va_cpy (fun _ => 0) (upd f uu (nI (2 * Fd) ||| iq)) 0 (uu + 1) Fd))), (hz, .inr (0, [.ref wz, .int us2, .int ob2])), (wz, .inl (cI, n, .inl f2))]) [0, 1, 4, 5, 2, 3] rfl
        have hD := hD.sub (ws' := [(cx, .inr (1, [.ref ar, .ref ha, .ref hz, .int col, .int mov])), (ar, .inl (cI, 8, .inl rg)), (ha, .inr (0, [.ref wa, .int (nI (uu + Fd + 1)), .int (ob + 1)])), (wa, .inl (cI, n, .inl (va_cpy (fun _ => 0) (upd f uu (nI (2 * Fd) ||| iq)) 0 (uu + 1) Fd))), (hz, .inr (0, [.ref wz, .int us2, .int ob2])), (wz, .inl (cI, n, .inl f2))]) [0, 1, 4, 5, 2, 3] (by decide) rfl
        refine lv_istore (lv' := [(4, .int (nI uu)), (0, .ref cx), (1, .int ip), (2, .int iq), (3, .int (nI Fd))]) hx hb dX1_make_83 hl (by decide) rfl (fun ls hl => ?_)
        refine lv_aload_n hx hb dX1_make_85 rfl (lv_at hl 1 rfl) ?_
        refine va_get (D := (dC, dI)) (ci := 1) (v := .ref ar) (C := RX1) (T := TX1) (N := 5) hx hb ht iX1 hown hK hP 0 rfl rfl 0 (by decide) (ht _ g_38) (fun _ h9 => h9) rfl dX1_make_86 ?_
        refine lv_iload_n hx hb dX1_make_89 rfl (lv_at hl 2 rfl) ?_
        refine lv_iload hx hb dX1_make_90 (lv_at hl 0 rfl) ?_
        refine vp_callSi (va_runS (As := [.int (nI uu)]) (rest := [.int ip, .ref ar]) ⟨hx, hb, hml, hown, ht⟩ (ctX1_asReference l (nI uu)) (cwS 1 ht gcX1_51 rfl rfl rfl (by decide +kernel) ⟨Nat.le_of_ble_eq_true rfl, Nat.le_of_ble_eq_true rfl⟩) ⟨pT.blind, pT.call⟩ rfl rfl hl.1 rfl (lv_room (Nat.le_of_ble_eq_true rfl)) dX1_make_92 ⟨Nat.le_of_ble_eq_true rfl, Nat.le_of_ble_eq_true rfl⟩).run (fun r_15 hr_15 => ?_)
        subst hr_15
        rw [asRefN (show uu < 2 ^ 30 by omega)]
        refine va_iast hx hb hK hP hD hS 1 0 rfl rfl (isReg hgd.1) dX1_make_95 (fun H locs hP hD hS => ?_)
        have hP : va_P (dC, dI) vwCl [(cx, .inr (1, [.ref ar, .ref ha, .ref hz, .int col, .int mov])), (ar, .inl (cI, 8, .inl (upd rg ip.toNatClampNeg (nI (2 * uu + 1))))), (ha, .inr (0, [.ref wa, .int (nI (uu + Fd + 1)), .int (ob + 1)])), (wa, .inl (cI, n, .inl (va_cpy (fun _ => 0) (upd f uu (nI (2 * Fd) ||| iq)) 0 (uu + 1) Fd))), (hz, .inr (0, [.ref wz, .int us2, .int ob2])), (wz, .inl (cI, n, .inl f2))] H := hP
        have hD : va_D A [(cx, .inr (1, [.ref ar, .ref ha, .ref hz, .int col, .int mov])), (ar, .inl (cI, 8, .inl (upd rg ip.toNatClampNeg (nI (2 * uu + 1))))), (ha, .inr (0, [.ref wa, .int (nI (uu + Fd + 1)), .int (ob + 1)])), (wa, .inl (cI, n, .inl (va_cpy (fun _ => 0) (upd f uu (nI (2 * Fd) ||| iq)) 0 (uu + 1) Fd))), (hz, .inr (0, [.ref wz, .int us2, .int ob2])), (wz, .inl (cI, n, .inl f2))] := hD
        refine lv_iload hx hb dX1_make_96 (lv_at hl 0 rfl) ?_
        refine vx_ret ?_
        refine W.widen (k := 5) (n := 30) (Nat.le_of_ble_eq_true rfl) (Nat.le_of_ble_eq_true rfl) ?_
        have hP9 := hP.sub (ws' := [(cx, .inr (1, [.ref ar, .ref ha, .ref hz, .int col, .int mov])), (ar, .inl (cI, 8, .inl (upd rg ip.toNatClampNeg (nI (2 * uu + 1))))), (ha, .inr (0, [.ref wa, .int (nI (uu + Fd + 1)), .int (ob + 1)])), (wa, .inl (cI, n, .inl (va_cpy (fun _ => 0) (upd f uu (nI (2 * Fd) ||| iq)) 0 (uu + 1) Fd))), (hz, .inr (0, [.ref wz, .int us2, .int ob2])), (wz, .inl (cI, n, .inl f2))]) [0, 1, 2, 3, 4, 5] rfl
        have hD9 := hD.sub (ws' := [(cx, .inr (1, [.ref ar, .ref ha, .ref hz, .int col, .int mov])), (ar, .inl (cI, 8, .inl (upd rg ip.toNatClampNeg (nI (2 * uu + 1))))), (ha, .inr (0, [.ref wa, .int (nI (uu + Fd + 1)), .int (ob + 1)])), (wa, .inl (cI, n, .inl (va_cpy (fun _ => 0) (upd f uu (nI (2 * Fd) ||| iq)) 0 (uu + 1) Fd))), (hz, .inr (0, [.ref wz, .int us2, .int ob2])), (wz, .inl (cI, n, .inl f2))]) [0, 1, 2, 3, 4, 5] (by decide) rfl
        have hK9 := hK.sub (tys' := [(cI, .int)]) [0] rfl
        exact W.iret (v := nI uu) hx hb hr (fun t ht hW => ⟨⟨_, (upd rg ip.toNatClampNeg (nI (2 * uu + 1)), nI (uu + Fd + 1), ob + 1, va_cpy (fun _ => 0) (upd f uu (nI (2 * Fd) ||| iq)) 0 (uu + 1) Fd, us2, ob2, f2, col, mov), rfl, ⟨rfl, rfl⟩, by rw [ht]; exact hP9, va_K.moved hW.alike hK9, hD9⟩, hS.F ht⟩) hS.2.2 dX1_make_98
abbrev atX1_make_2 (dC : Nat → ClassId) (dI : Nat → Nat → Nat) (cI : ClassId) (A : Nat → Prop) (cx : Nat) (ar : Nat) (ha : Nat) (wa : Nat) (hz : Nat) (wz : Nat) (n : Nat) (u : (Nat → Int32) × Int32 × Int32 × (Nat → Int32) × Int32 × Int32 × (Nat → Int32) × Int32 × Int32) (t : State) : Prop := va_P (dC, dI) vwCl [(cx, .inr (1, [.ref ar, .ref hz, .ref ha, .int u.2.2.2.2.2.2.2.1, .int u.2.2.2.2.2.2.2.2])), (ar, .inl (cI, 8, .inl u.1)), (ha, .inr (0, [.ref wa, .int u.2.1, .int u.2.2.1])), (wa, .inl (cI, n, .inl u.2.2.2.1)), (hz, .inr (0, [.ref wz, .int u.2.2.2.2.1, .int u.2.2.2.2.2.1])), (wz, .inl (cI, n, .inl u.2.2.2.2.2.2.1))] t.heap ∧ va_K (dC, dI) vwCl [(cI, .int)] t ∧ va_D A [(cx, .inr (1, [.ref ar, .ref hz, .ref ha, .int u.2.2.2.2.2.2.2.1, .int u.2.2.2.2.2.2.2.2])), (ar, .inl (cI, 8, .inl u.1)), (ha, .inr (0, [.ref wa, .int u.2.1, .int u.2.2.1])), (wa, .inl (cI, n, .inl u.2.2.2.1)), (hz, .inr (0, [.ref wz, .int u.2.2.2.2.1, .int u.2.2.2.2.2.1])), (wz, .inl (cI, n, .inl u.2.2.2.2.2.2.1))]
set_option maxHeartbeats 4000000 in
set_option maxRecDepth 100000 in
theorem ctX1_make_2 (l : Launch) (hl9 : l.stackTraces = false) (dC : Nat → ClassId) (dI : Nat → Nat → Nat) (cI : ClassId) (sa : Nat → Nat) (cx : Nat) (ar : Nat) (ha : Nat) (wa : Nat) (hz : Nat) (wz : Nat) (n : Nat) (col : Int32) (mov : Int32) (rg : Nat → Int32) (us : Int32) (ob : Int32) (f : Nat → Int32) (us2 : Int32) (ob2 : Int32) (f2 : Nat → Int32) (ip : Int32) (iq : Int32) (ir : Int32) (Fd : Nat) (uu : Nat) (so : Nat → Int32) (rs : Nat → Int32) (sz : Nat) (hn : n < 2 ^ 31) (hF31 : Fd < 2 ^ 31) (hgd : gdA ip iq ir) (hir : ir = nI Fd) (hus : us = nI uu) (hwf : hWf uu n f so) (hrg : rgOK uu so rs rg) (hfull : n < uu + 1 + Fd) (hfit : (tot f (allL uu f so rs rg)) + 1 + Fd ≤ n) : vx_Met l yX1_make (kX1_make :: gT) ({ frames := 7, cells := 5, slots := 30, locals := 145 }) (va_Pc [.ref cx, .int ip, .int iq, .int ir] (pY (dC, dI) [(cx, .inr (1, [.ref ar, .ref ha, .ref hz, .int col, .int mov])), (ar, .inl (cI, 8, .inl rg)), (ha, .inr (0, [.ref wa, .int us, .int ob])), (wa, .inl (cI, n, .inl f)), (hz, .inr (0, [.ref wz, .int us2, .int ob2])), (wz, .inl (cI, n, .inl f2))] [(cI, .int)] sa sz)) (va_Qi (fun (r : Int32) (u : (Nat → Int32) × Int32 × Int32 × (Nat → Int32) × Int32 × Int32 × (Nat → Int32) × Int32 × Int32) => r = nI (tot f (allL uu f so rs rg)) ∧ ∃ rg2 fa2 fb2, rgI f rs rg rg2 8 (allL uu f so rs rg) ∧ scI uu n f so (allL uu f so rs rg) (tot f (allL uu f so rs rg)) fb2 ∧ u = (upd rg2 ip.toNatClampNeg (nI (2 * (tot f (allL uu f so rs rg)) + 1)), us, ob, fa2, nI ((tot f (allL uu f so rs rg)) + Fd + 1), nI (allL uu f so rs rg).length + 1, va_cpy (fun _ => 0) (upd fb2 (tot f (allL uu f so rs rg)) (nI (2 * Fd) ||| iq)) 0 ((tot f (allL uu f so rs rg)) + 1) Fd, col + 1, mov + nI (tot f (allL uu f so rs rg)))) (atX1_make_2 dC dI cI (va_A [(cx, .inr (1, [.ref ar, .ref ha, .ref hz, .int col, .int mov])), (ar, .inl (cI, 8, .inl rg)), (ha, .inr (0, [.ref wa, .int us, .int ob])), (wa, .inl (cI, n, .inl f)), (hz, .inr (0, [.ref wz, .int us2, .int ob2])), (wz, .inl (cI, n, .inl f2))] sz) cx ar ha wa hz wz n) (va_A [(cx, .inr (1, [.ref ar, .ref ha, .ref hz, .int col, .int mov])), (ar, .inl (cI, 8, .inl rg)), (ha, .inr (0, [.ref wa, .int us, .int ob])), (wa, .inl (cI, n, .inl f)), (hz, .inr (0, [.ref wz, .int us2, .int ob2])), (wz, .inl (cI, n, .inl f2))] sz)) (vx_X (fun v : Nat × ((Nat → Int32) × Int32 × Int32 × (Nat → Int32) × Int32 × Int32 × (Nat → Int32) × Int32 × Int32) => False) (fun E v t => E = exN v.1 ∧ atX1_make_2 dC dI cI (va_A [(cx, .inr (1, [.ref ar, .ref ha, .ref hz, .int col, .int mov])), (ar, .inl (cI, 8, .inl rg)), (ha, .inr (0, [.ref wa, .int us, .int ob])), (wa, .inl (cI, n, .inl f)), (hz, .inr (0, [.ref wz, .int us2, .int ob2])), (wz, .inl (cI, n, .inl f2))] sz) cx ar ha wa hz wz n v.2 t) (va_A [(cx, .inr (1, [.ref ar, .ref ha, .ref hz, .int col, .int mov])), (ar, .inl (cI, 8, .inl rg)), (ha, .inr (0, [.ref wa, .int us, .int ob])), (wa, .inl (cI, n, .inl f)), (hz, .inr (0, [.ref wz, .int us2, .int ob2])), (wz, .inl (cI, n, .inl f2))] sz)) 5 30 (va_A [(cx, .inr (1, [.ref ar, .ref ha, .ref hz, .int col, .int mov])), (ar, .inl (cI, 8, .inl rg)), (ha, .inr (0, [.ref wa, .int us, .int ob])), (wa, .inl (cI, n, .inl f)), (hz, .inr (0, [.ref wz, .int us2, .int ob2])), (wz, .inl (cI, n, .inl f2))] sz) := by
  have hFd9 : Fd ≤ 200 := fdB hir hgd
  subst hir
  subst hus
  refine vx_ofW (cc := cX1_make) (maxL := 5) (ret := (some .int)) (by decide) rfl ?_
  intro p e s m args below meth c s₁ B hml hEx hv
  obtain ⟨rfl, hsz, hP, hK, hD0, hE, hX⟩ := hv
  have hx := B.exec
  have hb := B.bytes
  have hr := B.returns
  have ht : ∀ w ∈ gT, w.before ([.ref cx, .int ip, .int iq, .int (nI Fd)] : List Value).toArray s = true := fun w h => atoms_spec (ws := kX1_make :: gT) B.pre w (List.mem_cons_of_mem _ h)
  have hown : s.vm.findClass RX1 = some m.cls := findClass_of_methodNamed B.named
  have hlocks := B.notSynchronized
  subst hsz
  have hD := hD0.self (sz := s.heap.size)
  generalize hAe : va_A [(cx, .inr (1, [.ref ar, .ref ha, .ref hz, .int col, .int mov])), (ar, .inl (cI, 8, .inl rg)), (ha, .inr (0, [.ref wa, .int (nI uu), .int ob])), (wa, .inl (cI, n, .inl f)), (hz, .inr (0, [.ref wz, .int us2, .int ob2])), (wz, .inl (cI, n, .inl f2))] s.heap.size = A at hD hX ⊢
  have hA : ∀ q : Nat, s.heap.size ≤ q → A q := fun q h => by rw [← hAe]; exact Or.inr h
  have hS : va_S A s.heap s.heap [] := va_S.rf
  have hl := lv_entry ([.ref cx, .int ip, .int iq, .int (nI Fd)]) (n := 5) (Nat.le_of_ble_eq_true rfl)
  rw [lg_entry_eq]
  generalize (lg_sl ([.ref cx, .int ip, .int iq, .int (nI Fd)]) ++ List.replicate (5 - (lg_sl ([.ref cx, .int ip, .int iq, .int (nI Fd)])).length) Slot.unset).toArray = ls at hl ⊢
  have hl : lv_has ls 5 [(0, .ref cx), (1, .int ip), (2, .int iq), (3, .int (nI Fd))] := hl
  refine lv_iload_n hx hb dX1_make_0 rfl (lv_at hl 1 rfl) ?_
  have hPc := hP.sub (ws' := []) [] rfl
  have hKc := hK.sub (tys' := []) [] rfl
  have hFc := nilF hS hA
  refine vx_callv (vx_runS (As := [.int ip]) (rest := []) ⟨hx, hb, hml, hown, ht⟩ (ctX1_requireRegister l hl9 dC dI cI sa ip _ ) (cwS 1 ht gcX1_25 rfl rfl rfl (by decide +kernel) ⟨Nat.le_of_ble_eq_true rfl, Nat.le_of_ble_eq_true rfl⟩) ⟨pR.blind, pR.call hPc hKc hE hX hS hFc⟩ rfl rfl hl.1 rfl (lv_room (Nat.le_of_ble_eq_true rfl)) dX1_make_1 ⟨Nat.le_of_ble_eq_true rfl, Nat.le_of_ble_eq_true rfl⟩) hS (fun q _ h => hFc q h) hFc (fun q _ h => hFc q h) (fun E ce q9 u_1 t H1 locs ht9 hvm hp hB hz1 hk1 hS hce hcv hcl => ?_) (fun u_1 t H1 locs ht9 hvm hw hB hz1 hk1 hS => ?_)
  · obtain ⟨hpe, hpk⟩ := hp
    obtain rfl : u_1 = ((fX1_requireRegister ip).1, (fX1_requireRegister ip).2.2) := by rw [hpe]
    exact absurd (rr_is.mpr hgd.1) hpk
  · have c_3 : (fX1_requireRegister ip).1 = 0 := by rw [hw]
    have hP := rKeep hP hk1
    generalize H1 = H at hP hS ⊢
    have hb1 := hwf.1
    have hnb := hwf.2.1
    have htt := (allCL hwf hrg).1.bd
    have hkd := kd01.mp ⟨hgd.2.1, hgd.2.2.1⟩
    refine lv_iload_n hx hb dX1_make_4 rfl (lv_at hl 2 rfl) ?_
    refine lv_if_eq (tgt := 13) hx hb dX1_make_5 (by decide) (fun c_4 => ?_) (fun c_4 => ?_)
    · refine lv_iload_n hx hb dX1_make_13 rfl (lv_at hl 3 rfl) ?_
      refine lv_if_lt (tgt := 24) hx hb dX1_make_14 (by decide) (fun h => absurd h hgd.2.2.2.1) (fun _ => ?_)
      refine lv_iload_n hx hb dX1_make_17 rfl (lv_at hl 3 rfl) ?_
      refine lv_sipush (v := 200) hx hb dX1_make_18 (by decide) ?_
      refine lv_icmp_le (tgt := 34) hx hb dX1_make_21 (by decide) (fun _ => ?_) (fun h => absurd hgd.2.2.2.2 h)
      refine lv_aload_n hx hb dX1_make_34 rfl (lv_at hl 0 rfl) ?_
      refine va_get (D := (dC, dI)) (ci := 1) (v := .ref ha) (C := RX1) (T := TX1) (N := 5) hx hb ht iX1 hown hK hP 0 rfl rfl 1 (by decide) (ht _ g_39) (fun _ h9 => h9) rfl dX1_make_35 ?_
      refine lv_iconst (v := 1) hx hb dX1_make_38 (by decide) ?_
      refine lv_iload_n hx hb dX1_make_39 rfl (lv_at hl 3 rfl) ?_
      refine lv_iadd hx hb dX1_make_40 ?_
      have hPc := hP.sub (ws' := [(ha, .inr (0, [.ref wa, .int (nI uu), .int ob])), (wa, .inl (cI, n, .inl f))]) [2, 3] rfl
      have hKc := hK.sub (tys' := [(cI, .int)]) [0] rfl
      refine vp_callSi (va_runV (As := [.int (1 + (nI Fd))]) (rest := []) ⟨hx, hb, hml, hown, ht⟩ (ctX0_hasRoomFor l dC dI cI ha wa n (nI uu) ob f (1 + (nI Fd)) ) (cwV 1 ht gcX1_35 rfl rfl rfl (by decide +kernel) ⟨Nat.le_of_ble_eq_true rfl, Nat.le_of_ble_eq_true rfl⟩) ⟨pS.blind, va_recv hKc hPc (ci := 0) (q0 := 0) rfl rfl, pS.call hPc hKc hE⟩ rfl rfl hl.1 rfl (lv_room (Nat.le_of_ble_eq_true rfl)) dX1_make_41 ⟨Nat.le_of_ble_eq_true rfl, Nat.le_of_ble_eq_true rfl⟩).run (fun r_5 hr_5 => ?_)
      subst hr_5
      refine lv_if_ne (tgt := 51) hx hb dX1_make_44 (by decide) (fun h => absurd (by rw [hrI (by omega) (by omega) (by omega), if_pos hfull]) h) (fun _ => ?_)
      refine lv_aload_n hx hb dX1_make_47 rfl (lv_at hl 0 rfl) ?_
      have hPc := hP.sub (ws' := [(cx, .inr (1, [.ref ar, .ref ha, .ref hz, .int col, .int mov])), (ar, .inl (cI, 8, .inl rg)), (ha, .inr (0, [.ref wa, .int (nI uu), .int ob])), (wa, .inl (cI, n, .inl f)), (hz, .inr (0, [.ref wz, .int us2, .int ob2])), (wz, .inl (cI, n, .inl f2))]) [0, 1, 2, 3, 4, 5] rfl
      have hKc := hK.sub (tys' := [(cI, .int)]) [0] rfl
      have hDc := hD.sub (ws' := [(cx, .inr (1, [.ref ar, .ref ha, .ref hz, .int col, .int mov])), (ar, .inl (cI, 8, .inl rg)), (ha, .inr (0, [.ref wa, .int (nI uu), .int ob])), (wa, .inl (cI, n, .inl f)), (hz, .inr (0, [.ref wz, .int us2, .int ob2])), (wz, .inl (cI, n, .inl f2))]) [0, 1, 2, 3, 4, 5] (by decide) rfl
      have hFc := va_free (wc := [(cx, .inr (1, [.ref ar, .ref ha, .ref hz, .int col, .int mov])), (ar, .inl (cI, 8, .inl rg)), (ha, .inr (0, [.ref wa, .int (nI uu), .int ob])), (wa, .inl (cI, n, .inl f)), (hz, .inr (0, [.ref wz, .int us2, .int ob2])), (wz, .inl (cI, n, .inl f2))]) hD hS hA [0, 1, 2, 3, 4, 5] rfl
      refine va_callv (va_runV (As := []) (rest := []) ⟨hx, hb, hml, hown, ht⟩ (ctX1_moveToSpare l dC dI cI cx ar ha wa hz wz n col mov rg (nI uu) ob f us2 ob2 f2 uu so rs _ hn hwf hrg) (cwV 0 ht gcX1_39 rfl rfl rfl (by decide +kernel) ⟨Nat.le_of_ble_eq_true rfl, Nat.le_of_ble_eq_true rfl⟩) ⟨pM.blind, va_recv hKc hPc (ci := 1) (q0 := 0) rfl rfl, pM.call hPc hKc hDc hE⟩ rfl rfl hl.1 rfl (lv_room (Nat.le_of_ble_eq_true rfl)) dX1_make_48 ⟨Nat.le_of_ble_eq_true rfl, Nat.le_of_ble_eq_true rfl⟩) hS (fun q _ h => hFc q h) hFc (fun u_6 t H1 locs ht9 hvm hw hB hz1 hk1 hS => ?_)
      have hRu_6 := hw
      obtain ⟨hP1, hK1, hD1⟩ := hB
      rw [ht9] at hP1
      obtain ⟨hP, hD⟩ := va_join (wr := []) (w1 := [(cx, .inr (1, [.ref ar, .ref hz, .ref ha, .int u_6.2.2.2.2.2.1, .int u_6.2.2.2.2.2.2])), (ar, .inl (cI, 8, .inl u_6.1)), (ha, .inr (0, [.ref wa, .int (nI uu), .int ob])), (wa, .inl (cI, n, .inl u_6.2.1)), (hz, .inr (0, [.ref wz, .int u_6.2.2.1, .int u_6.2.2.2.1])), (wz, .inl (cI, n, .inl u_6.2.2.2.2.1))]) hP hD [0, 1, 2, 3, 4, 5] [] rfl rfl (by decide) (by decide) hk1 hFc hP1 hD1
      generalize H1 = H at hP hS ⊢
      have hP := hP.sub (ws' := [(cx, .inr (1, [.ref ar, .ref hz, .ref ha, .int u_6.2.2.2.2.2.1, .int u_6.2.2.2.2.2.2])), (ar, .inl (cI, 8, .inl u_6.1)), (ha, .inr (0, [.ref wa, .int (nI uu), .int ob])), (wa, .inl (cI, n, .inl u_6.2.1)), (hz, .inr (0, [.ref wz, .int u_6.2.2.1, .int u_6.2.2.2.1])), (wz, .inl (cI, n, .inl u_6.2.2.2.2.1))]) [0, 1, 2, 3, 4, 5] rfl
      have hD := hD.sub (ws' := [(cx, .inr (1, [.ref ar, .ref hz, .ref ha, .int u_6.2.2.2.2.2.1, .int u_6.2.2.2.2.2.2])), (ar, .inl (cI, 8, .inl u_6.1)), (ha, .inr (0, [.ref wa, .int (nI uu), .int ob])), (wa, .inl (cI, n, .inl u_6.2.1)), (hz, .inr (0, [.ref wz, .int u_6.2.2.1, .int u_6.2.2.2.1])), (wz, .inl (cI, n, .inl u_6.2.2.2.2.1))]) [0, 1, 2, 3, 4, 5] (by decide) rfl
      obtain ⟨g1, g2, g3, g4, g5, g6⟩ := hRu_6
      obtain ⟨rg2, fa2, w1, w2, fb2, w3, w4⟩ := u_6
      obtain rfl : w1 = nI (tot f (allL uu f so rs rg)) := g2
      obtain rfl : w2 = nI (allL uu f so rs rg).length := g3
      obtain rfl : w3 = col + 1 := g5
      obtain rfl : w4 = mov + nI (tot f (allL uu f so rs rg)) := g6
      have hP : va_P (dC, dI) vwCl [(cx, .inr (1, [.ref ar, .ref hz, .ref ha, .int (col + 1), .int (mov + nI (tot f (allL uu f so rs rg)))])), (ar, .inl (cI, 8, .inl rg2)), (ha, .inr (0, [.ref wa, .int (nI uu), .int ob])), (wa, .inl (cI, n, .inl fa2)), (hz, .inr (0, [.ref wz, .int (nI (tot f (allL uu f so rs rg))), .int (nI (allL uu f so rs rg).length)])), (wz, .inl (cI, n, .inl fb2))] H := hP
      have hD : va_D A [(cx, .inr (1, [.ref ar, .ref hz, .ref ha, .int (col + 1), .int (mov + nI (tot f (allL uu f so rs rg)))])), (ar, .inl (cI, 8, .inl rg2)), (ha, .inr (0, [.ref wa, .int (nI uu), .int ob])), (wa, .inl (cI, n, .inl fa2)), (hz, .inr (0, [.ref wz, .int (nI (tot f (allL uu f so rs rg))), .int (nI (allL uu f so rs rg).length)])), (wz, .inl (cI, n, .inl fb2))] := hD
      refine lv_aload_n hx hb dX1_make_51 rfl (lv_at hl 0 rfl) ?_
      refine va_get (D := (dC, dI)) (ci := 1) (v := .ref hz) (C := RX1) (T := TX1) (N := 5) hx hb ht iX1 hown hK hP 0 rfl rfl 1 (by decide) (ht _ g_39) (fun _ h9 => h9) rfl dX1_make_52 ?_
      refine lv_iconst (v := 1) hx hb dX1_make_55 (by decide) ?_
      refine lv_iload_n hx hb dX1_make_56 rfl (lv_at hl 3 rfl) ?_
      refine lv_iadd hx hb dX1_make_57 ?_
      have hPc := hP.sub (ws' := [(hz, .inr (0, [.ref wz, .int (nI (tot f (allL uu f so rs rg))), .int (nI (allL uu f so rs rg).length)])), (wz, .inl (cI, n, .inl fb2))]) [4, 5] rfl
      have hKc := hK.sub (tys' := [(cI, .int)]) [0] rfl
      refine vp_callSi (va_runV (As := [.int (1 + (nI Fd))]) (rest := []) ⟨hx, hb, hml, hown, ht⟩ (ctX0_hasRoomFor l dC dI cI hz wz n (nI (tot f (allL uu f so rs rg))) (nI (allL uu f so rs rg).length) fb2 (1 + (nI Fd)) ) (cwV 1 ht gcX1_35 rfl rfl rfl (by decide +kernel) ⟨Nat.le_of_ble_eq_true rfl, Nat.le_of_ble_eq_true rfl⟩) ⟨pS.blind, va_recv hKc hPc (ci := 0) (q0 := 0) rfl rfl, pS.call hPc hKc hE⟩ rfl rfl hl.1 rfl (lv_room (Nat.le_of_ble_eq_true rfl)) dX1_make_58 ⟨Nat.le_of_ble_eq_true rfl, Nat.le_of_ble_eq_true rfl⟩).run (fun r_7 hr_7 => ?_)
      subst hr_7
      refine lv_if_ne (tgt := 74) hx hb dX1_make_61 (by decide) (fun _ => ?_) (fun h => absurd h (by rw [hrI (by omega) (by omega) (by omega), if_neg (by omega)]; decide))
      refine lv_aload_n hx hb dX1_make_74 rfl (lv_at hl 0 rfl) ?_
      refine va_get (D := (dC, dI)) (ci := 1) (v := .ref hz) (C := RX1) (T := TX1) (N := 5) hx hb ht iX1 hown hK hP 0 rfl rfl 1 (by decide) (ht _ g_39) (fun _ h9 => h9) rfl dX1_make_75 ?_
      refine lv_iload_n hx hb dX1_make_78 rfl (lv_at hl 2 rfl) ?_
      refine lv_iload_n hx hb dX1_make_79 rfl (lv_at hl 3 rfl) ?_
      have hPc := hP.sub (ws' := [(hz, .inr (0, [.ref wz, .int (nI (tot f (allL uu f so rs rg))), .int (nI (allL uu f so rs rg).length)])), (wz, .inl (cI, n, .inl fb2))]) [4, 5] rfl
      have hKc := hK.sub (tys' := [(cI, .int)]) [0] rfl
      have hDc := hD.sub (ws' := [(hz, .inr (0, [.ref wz, .int (nI (tot f (allL uu f so rs rg))), .int (nI (allL uu f so rs rg).length)])), (wz, .inl (cI, n, .inl fb2))]) [4, 5] (by decide) rfl
      have hFc := va_free (wc := [(hz, .inr (0, [.ref wz, .int (nI (tot f (allL uu f so rs rg))), .int (nI (allL uu f so rs rg).length)])), (wz, .inl (cI, n, .inl fb2))]) hD hS hA [4, 5] rfl
      refine va_calli (va_runV (As := [.int iq, .int (nI Fd)]) (rest := []) ⟨hx, hb, hml, hown, ht⟩ (ctX0_addObject l dC dI cI hz wz n (nI (tot f (allL uu f so rs rg))) (nI (allL uu f so rs rg).length) fb2 iq (nI Fd) (tot f (allL uu f so rs rg)) Fd _ hn rfl rfl (by omega) (by omega)) (cwV 2 ht gcX1_47 rfl rfl rfl (by decide +kernel) ⟨Nat.le_of_ble_eq_true rfl, Nat.le_of_ble_eq_true rfl⟩) ⟨pM.blind, va_recv hKc hPc (ci := 0) (q0 := 0) rfl rfl, pM.call hPc hKc hDc hE⟩ rfl rfl hl.1 rfl (lv_room (Nat.le_of_ble_eq_true rfl)) dX1_make_80 ⟨Nat.le_of_ble_eq_true rfl, Nat.le_of_ble_eq_true rfl⟩) hS (fun q _ h => hFc q h) hFc (fun r_9 u_8 t H1 locs ht9 hvm hw hB hz1 hk1 hS => ?_)
      obtain ⟨rfl, rfl⟩ : r_9 = nI (tot f (allL uu f so rs rg)) ∧ u_8 = (nI ((tot f (allL uu f so rs rg)) + Fd + 1), (nI (allL uu f so rs rg).length) + 1, va_cpy (fun _ => 0) (upd fb2 (tot f (allL uu f so rs rg)) (nI (2 * Fd) ||| iq)) 0 ((tot f (allL uu f so rs rg)) + 1) Fd) := ⟨(Prod.mk.inj hw).1, (Prod.mk.inj hw).2⟩
      obtain ⟨hP1, hK1, hD1⟩ := hB
      rw [ht9] at hP1
      obtain ⟨hP, hD⟩ := va_join (wr := [(cx, .inr (1, [.ref ar, .ref hz, .ref ha, .int (col + 1), .int (mov + nI (tot f (allL uu f so rs rg)))])), (ar, .inl (cI, 8, .inl rg2)), (ha, .inr (0, [.ref wa, .int (nI uu), .int ob])), (wa, .inl (cI, n, .inl fa2))]) (w1 := [(hz, .inr (0, [.ref wz, .int (nI ((tot f (allL uu f so rs rg)) + Fd + 1)), .int ((nI (allL uu f so rs rg).length) + 1)])), (wz, .inl (cI, n, .inl (va_cpy (fun _ => 0) (upd fb2 (tot f (allL uu f so rs rg)) (nI (2 * Fd) ||| iq)) 0 ((tot f (allL uu f so rs rg)) + 1) Fd)))]) hP hD [4, 5] [0, 1, 2, 3] rfl rfl (by decide) (by decide) hk1 hFc hP1 hD1
      generalize H1 = H at hP hS ⊢
      have hP := hP.sub (ws' := [(cx, .inr (1, [.ref ar, .ref hz, .ref ha, .int (col + 1), .int (mov + nI (tot f (allL uu f so rs rg)))])), (ar, .inl (cI, 8, .inl rg2)), (ha, .inr (0, [.ref wa, .int (nI uu), .int ob])), (wa, .inl (cI, n, .inl fa2)), (hz, .inr (0, [.ref wz, .int (nI ((tot f (allL uu f so rs rg)) + Fd + 1)), .int ((nI (allL uu f so rs rg).length) + 1)])), (wz, .inl (cI, n, .inl (va_cpy (fun _ => 0) (upd fb2 (tot f (allL uu f so rs rg)) (nI (2 * Fd) ||| iq)) 0 ((tot f (allL uu f so rs rg)) + 1) Fd)))]) [0, 1, 2, 3, 4, 5] rfl
      have hD := hD.sub (ws' := [(cx, .inr (1, [.ref ar, .ref hz, .ref ha, .int (col + 1), .int (mov + nI (tot f (allL uu f so rs rg)))])), (ar, .inl (cI, 8, .inl rg2)), (ha, .inr (0, [.ref wa, .int (nI uu), .int ob])), (wa, .inl (cI, n, .inl fa2)), (hz, .inr (0, [.ref wz, .int (nI ((tot f (allL uu f so rs rg)) + Fd + 1)), .int ((nI (allL uu f so rs rg).length) + 1)])), (wz, .inl (cI, n, .inl (va_cpy (fun _ => 0) (upd fb2 (tot f (allL uu f so rs rg)) (nI (2 * Fd) ||| iq)) 0 ((tot f (allL uu f so rs rg)) + 1) Fd)))]) [0, 1, 2, 3, 4, 5] (by decide) rfl
      refine lv_istore (lv' := [(4, .int (nI (tot f (allL uu f so rs rg)))), (0, .ref cx), (1, .int ip), (2, .int iq), (3, .int (nI Fd))]) hx hb dX1_make_83 hl (by decide) rfl (fun ls hl => ?_)
      refine lv_aload_n hx hb dX1_make_85 rfl (lv_at hl 1 rfl) ?_
      refine va_get (D := (dC, dI)) (ci := 1) (v := .ref ar) (C := RX1) (T := TX1) (N := 5) hx hb ht iX1 hown hK hP 0 rfl rfl 0 (by decide) (ht _ g_38) (fun _ h9 => h9) rfl dX1_make_86 ?_
      refine lv_iload_n hx hb dX1_make_89 rfl (lv_at hl 2 rfl) ?_
      refine lv_iload hx hb dX1_make_90 (lv_at hl 0 rfl) ?_
      refine vp_callSi (va_runS (As := [.int (nI (tot f (allL uu f so rs rg)))]) (rest := [.int ip, .ref ar]) ⟨hx, hb, hml, hown, ht⟩ (ctX1_asReference l (nI (tot f (allL uu f so rs rg)))) (cwS 1 ht gcX1_51 rfl rfl rfl (by decide +kernel) ⟨Nat.le_of_ble_eq_true rfl, Nat.le_of_ble_eq_true rfl⟩) ⟨pT.blind, pT.call⟩ rfl rfl hl.1 rfl (lv_room (Nat.le_of_ble_eq_true rfl)) dX1_make_92 ⟨Nat.le_of_ble_eq_true rfl, Nat.le_of_ble_eq_true rfl⟩).run (fun r_10 hr_10 => ?_)
      subst hr_10
      rw [asRefN (show (tot f (allL uu f so rs rg)) < 2 ^ 30 by omega)]
      refine va_iast hx hb hK hP hD hS 1 0 rfl rfl (isReg hgd.1) dX1_make_95 (fun H locs hP hD hS => ?_)
      have hP : va_P (dC, dI) vwCl [(cx, .inr (1, [.ref ar, .ref hz, .ref ha, .int (col + 1), .int (mov + nI (tot f (allL uu f so rs rg)))])), (ar, .inl (cI, 8, .inl (upd rg2 ip.toNatClampNeg (nI (2 * (tot f (allL uu f so rs rg)) + 1))))), (ha, .inr (0, [.ref wa, .int (nI uu), .int ob])), (wa, .inl (cI, n, .inl fa2)), (hz, .inr (0, [.ref wz, .int (nI ((tot f (allL uu f so rs rg)) + Fd + 1)), .int ((nI (allL uu f so rs rg).length) + 1)])), (wz, .inl (cI, n, .inl (va_cpy (fun _ => 0) (upd fb2 (tot f (allL uu f so rs rg)) (nI (2 * Fd) ||| iq)) 0 ((tot f (allL uu f so rs rg)) + 1) Fd)))] H := hP
      have hD : va_D A [(cx, .inr (1, [.ref ar, .ref hz, .ref ha, .int (col + 1), .int (mov + nI (tot f (allL uu f so rs rg)))])), (ar, .inl (cI, 8, .inl (upd rg2 ip.toNatClampNeg (nI (2 * (tot f (allL uu f so rs rg)) + 1))))), (ha, .inr (0, [.ref wa, .int (nI uu), .int ob])), (wa, .inl (cI, n, .inl fa2)), (hz, .inr (0, [.ref wz, .int (nI ((tot f (allL uu f so rs rg)) + Fd + 1)), .int ((nI (allL uu f so rs rg).length) + 1)])), (wz, .inl (cI, n, .inl (va_cpy (fun _ => 0) (upd fb2 (tot f (allL uu f so rs rg)) (nI (2 * Fd) ||| iq)) 0 ((tot f (allL uu f so rs rg)) + 1) Fd)))] := hD
      refine lv_iload hx hb dX1_make_96 (lv_at hl 0 rfl) ?_
      refine vx_ret ?_
      refine W.widen (k := 5) (n := 30) (Nat.le_of_ble_eq_true rfl) (Nat.le_of_ble_eq_true rfl) ?_
      have hP9 := hP.sub (ws' := [(cx, .inr (1, [.ref ar, .ref hz, .ref ha, .int (col + 1), .int (mov + nI (tot f (allL uu f so rs rg)))])), (ar, .inl (cI, 8, .inl (upd rg2 ip.toNatClampNeg (nI (2 * (tot f (allL uu f so rs rg)) + 1))))), (ha, .inr (0, [.ref wa, .int (nI uu), .int ob])), (wa, .inl (cI, n, .inl fa2)), (hz, .inr (0, [.ref wz, .int (nI ((tot f (allL uu f so rs rg)) + Fd + 1)), .int ((nI (allL uu f so rs rg).length) + 1)])), (wz, .inl (cI, n, .inl (va_cpy (fun _ => 0) (upd fb2 (tot f (allL uu f so rs rg)) (nI (2 * Fd) ||| iq)) 0 ((tot f (allL uu f so rs rg)) + 1) Fd)))]) [0, 1, 2, 3, 4, 5] rfl
      have hD9 := hD.sub (ws' := [(cx, .inr (1, [.ref ar, .ref hz, .ref ha, .int (col + 1), .int (mov + nI (tot f (allL uu f so rs rg)))])), (ar, .inl (cI, 8, .inl (upd rg2 ip.toNatClampNeg (nI (2 * (tot f (allL uu f so rs rg)) + 1))))), (ha, .inr (0, [.ref wa, .int (nI uu), .int ob])), (wa, .inl (cI, n, .inl fa2)), (hz, .inr (0, [.ref wz, .int (nI ((tot f (allL uu f so rs rg)) + Fd + 1)), .int ((nI (allL uu f so rs rg).length) + 1)])), (wz, .inl (cI, n, .inl (va_cpy (fun _ => 0) (upd fb2 (tot f (allL uu f so rs rg)) (nI (2 * Fd) ||| iq)) 0 ((tot f (allL uu f so rs rg)) + 1) Fd)))]) [0, 1, 2, 3, 4, 5] (by decide) rfl
      have hK9 := hK.sub (tys' := [(cI, .int)]) [0] rfl
      exact W.iret (v := nI (tot f (allL uu f so rs rg))) hx hb hr (fun t ht hW => ⟨⟨_, (upd rg2 ip.toNatClampNeg (nI (2 * (tot f (allL uu f so rs rg)) + 1)), (nI uu), ob, fa2, nI ((tot f (allL uu f so rs rg)) + Fd + 1), (nI (allL uu f so rs rg).length) + 1, va_cpy (fun _ => 0) (upd fb2 (tot f (allL uu f so rs rg)) (nI (2 * Fd) ||| iq)) 0 ((tot f (allL uu f so rs rg)) + 1) Fd, (col + 1), (mov + nI (tot f (allL uu f so rs rg)))), rfl, ⟨rfl, rg2, fa2, fb2, g1, g4, rfl⟩, by rw [ht]; exact hP9, va_K.moved hW.alike hK9, hD9⟩, hS.F ht⟩) hS.2.2 dX1_make_98
    · refine lv_iload_n hx hb dX1_make_8 rfl (lv_at hl 2 rfl) ?_
      refine lv_iconst (v := 1) hx hb dX1_make_9 (by decide) ?_
      refine lv_icmp_ne (tgt := 24) hx hb dX1_make_10 (by decide) (fun c_11 => ?_) (fun c_11 => ?_)
      · exact absurd hkd (fun q => q.elim c_4 c_11)
      · refine lv_iload_n hx hb dX1_make_13 rfl (lv_at hl 3 rfl) ?_
        refine lv_if_lt (tgt := 24) hx hb dX1_make_14 (by decide) (fun h => absurd h hgd.2.2.2.1) (fun _ => ?_)
        refine lv_iload_n hx hb dX1_make_17 rfl (lv_at hl 3 rfl) ?_
        refine lv_sipush (v := 200) hx hb dX1_make_18 (by decide) ?_
        refine lv_icmp_le (tgt := 34) hx hb dX1_make_21 (by decide) (fun _ => ?_) (fun h => absurd hgd.2.2.2.2 h)
        refine lv_aload_n hx hb dX1_make_34 rfl (lv_at hl 0 rfl) ?_
        refine va_get (D := (dC, dI)) (ci := 1) (v := .ref ha) (C := RX1) (T := TX1) (N := 5) hx hb ht iX1 hown hK hP 0 rfl rfl 1 (by decide) (ht _ g_39) (fun _ h9 => h9) rfl dX1_make_35 ?_
        refine lv_iconst (v := 1) hx hb dX1_make_38 (by decide) ?_
        refine lv_iload_n hx hb dX1_make_39 rfl (lv_at hl 3 rfl) ?_
        refine lv_iadd hx hb dX1_make_40 ?_
        have hPc := hP.sub (ws' := [(ha, .inr (0, [.ref wa, .int (nI uu), .int ob])), (wa, .inl (cI, n, .inl f))]) [2, 3] rfl
        have hKc := hK.sub (tys' := [(cI, .int)]) [0] rfl
        refine vp_callSi (va_runV (As := [.int (1 + (nI Fd))]) (rest := []) ⟨hx, hb, hml, hown, ht⟩ (ctX0_hasRoomFor l dC dI cI ha wa n (nI uu) ob f (1 + (nI Fd)) ) (cwV 1 ht gcX1_35 rfl rfl rfl (by decide +kernel) ⟨Nat.le_of_ble_eq_true rfl, Nat.le_of_ble_eq_true rfl⟩) ⟨pS.blind, va_recv hKc hPc (ci := 0) (q0 := 0) rfl rfl, pS.call hPc hKc hE⟩ rfl rfl hl.1 rfl (lv_room (Nat.le_of_ble_eq_true rfl)) dX1_make_41 ⟨Nat.le_of_ble_eq_true rfl, Nat.le_of_ble_eq_true rfl⟩).run (fun r_12 hr_12 => ?_)
        subst hr_12
        refine lv_if_ne (tgt := 51) hx hb dX1_make_44 (by decide) (fun h => absurd (by rw [hrI (by omega) (by omega) (by omega), if_pos hfull]) h) (fun _ => ?_)
        refine lv_aload_n hx hb dX1_make_47 rfl (lv_at hl 0 rfl) ?_
        have hPc := hP.sub (ws' := [(cx, .inr (1, [.ref ar, .ref ha, .ref hz, .int col, .int mov])), (ar, .inl (cI, 8, .inl rg)), (ha, .inr (0, [.ref wa, .int (nI uu), .int ob])), (wa, .inl (cI, n, .inl f)), (hz, .inr (0, [.ref wz, .int us2, .int ob2])), (wz, .inl (cI, n, .inl f2))]) [0, 1, 2, 3, 4, 5] rfl
        have hKc := hK.sub (tys' := [(cI, .int)]) [0] rfl
        have hDc := hD.sub (ws' := [(cx, .inr (1, [.ref ar, .ref ha, .ref hz, .int col, .int mov])), (ar, .inl (cI, 8, .inl rg)), (ha, .inr (0, [.ref wa, .int (nI uu), .int ob])), (wa, .inl (cI, n, .inl f)), (hz, .inr (0, [.ref wz, .int us2, .int ob2])), (wz, .inl (cI, n, .inl f2))]) [0, 1, 2, 3, 4, 5] (by decide) rfl
        have hFc := va_free (wc := [(cx, .inr (1, [.ref ar, .ref ha, .ref hz, .int col, .int mov])), (ar, .inl (cI, 8, .inl rg)), (ha, .inr (0, [.ref wa, .int (nI uu), .int ob])), (wa, .inl (cI, n, .inl f)), (hz, .inr (0, [.ref wz, .int us2, .int ob2])), (wz, .inl (cI, n, .inl f2))]) hD hS hA [0, 1, 2, 3, 4, 5] rfl
        refine va_callv (va_runV (As := []) (rest := []) ⟨hx, hb, hml, hown, ht⟩ (ctX1_moveToSpare l dC dI cI cx ar ha wa hz wz n col mov rg (nI uu) ob f us2 ob2 f2 uu so rs _ hn hwf hrg) (cwV 0 ht gcX1_39 rfl rfl rfl (by decide +kernel) ⟨Nat.le_of_ble_eq_true rfl, Nat.le_of_ble_eq_true rfl⟩) ⟨pM.blind, va_recv hKc hPc (ci := 1) (q0 := 0) rfl rfl, pM.call hPc hKc hDc hE⟩ rfl rfl hl.1 rfl (lv_room (Nat.le_of_ble_eq_true rfl)) dX1_make_48 ⟨Nat.le_of_ble_eq_true rfl, Nat.le_of_ble_eq_true rfl⟩) hS (fun q _ h => hFc q h) hFc (fun u_13 t H1 locs ht9 hvm hw hB hz1 hk1 hS => ?_)
        have hRu_13 := hw
        obtain ⟨hP1, hK1, hD1⟩ := hB
        rw [ht9] at hP1
        obtain ⟨hP, hD⟩ := va_join (wr := []) (w1 := [(cx, .inr (1, [.ref ar, .ref hz, .ref ha, .int u_13.2.2.2.2.2.1, .int u_13.2.2.2.2.2.2])), (ar, .inl (cI, 8, .inl u_13.1)), (ha, .inr (0, [.ref wa, .int (nI uu), .int ob])), (wa, .inl (cI, n, .inl u_13.2.1)), (hz, .inr (0, [.ref wz, .int u_13.2.2.1, .int u_13.2.2.2.1])), (wz, .inl (cI, n, .inl u_13.2.2.2.2.1))]) hP hD [0, 1, 2, 3, 4, 5] [] rfl rfl (by decide) (by decide) hk1 hFc hP1 hD1
        generalize H1 = H at hP hS ⊢
        have hP := hP.sub (ws' := [(cx, .inr (1, [.ref ar, .ref hz, .ref ha, .int u_13.2.2.2.2.2.1, .int u_13.2.2.2.2.2.2])), (ar, .inl (cI, 8, .inl u_13.1)), (ha, .inr (0, [.ref wa, .int (nI uu), .int ob])), (wa, .inl (cI, n, .inl u_13.2.1)), (hz, .inr (0, [.ref wz, .int u_13.2.2.1, .int u_13.2.2.2.1])), (wz, .inl (cI, n, .inl u_13.2.2.2.2.1))]) [0, 1, 2, 3, 4, 5] rfl
        have hD := hD.sub (ws' := [(cx, .inr (1, [.ref ar, .ref hz, .ref ha, .int u_13.2.2.2.2.2.1, .int u_13.2.2.2.2.2.2])), (ar, .inl (cI, 8, .inl u_13.1)), (ha, .inr (0, [.ref wa, .int (nI uu), .int ob])), (wa, .inl (cI, n, .inl u_13.2.1)), (hz, .inr (0, [.ref wz, .int u_13.2.2.1, .int u_13.2.2.2.1])), (wz, .inl (cI, n, .inl u_13.2.2.2.2.1))]) [0, 1, 2, 3, 4, 5] (by decide) rfl
        obtain ⟨g1, g2, g3, g4, g5, g6⟩ := hRu_13
        obtain ⟨rg2, fa2, w1, w2, fb2, w3, w4⟩ := u_13
        obtain rfl : w1 = nI (tot f (allL uu f so rs rg)) := g2
        obtain rfl : w2 = nI (allL uu f so rs rg).length := g3
        obtain rfl : w3 = col + 1 := g5
        obtain rfl : w4 = mov + nI (tot f (allL uu f so rs rg)) := g6
        have hP : va_P (dC, dI) vwCl [(cx, .inr (1, [.ref ar, .ref hz, .ref ha, .int (col + 1), .int (mov + nI (tot f (allL uu f so rs rg)))])), (ar, .inl (cI, 8, .inl rg2)), (ha, .inr (0, [.ref wa, .int (nI uu), .int ob])), (wa, .inl (cI, n, .inl fa2)), (hz, .inr (0, [.ref wz, .int (nI (tot f (allL uu f so rs rg))), .int (nI (allL uu f so rs rg).length)])), (wz, .inl (cI, n, .inl fb2))] H := hP
        have hD : va_D A [(cx, .inr (1, [.ref ar, .ref hz, .ref ha, .int (col + 1), .int (mov + nI (tot f (allL uu f so rs rg)))])), (ar, .inl (cI, 8, .inl rg2)), (ha, .inr (0, [.ref wa, .int (nI uu), .int ob])), (wa, .inl (cI, n, .inl fa2)), (hz, .inr (0, [.ref wz, .int (nI (tot f (allL uu f so rs rg))), .int (nI (allL uu f so rs rg).length)])), (wz, .inl (cI, n, .inl fb2))] := hD
        refine lv_aload_n hx hb dX1_make_51 rfl (lv_at hl 0 rfl) ?_
        refine va_get (D := (dC, dI)) (ci := 1) (v := .ref hz) (C := RX1) (T := TX1) (N := 5) hx hb ht iX1 hown hK hP 0 rfl rfl 1 (by decide) (ht _ g_39) (fun _ h9 => h9) rfl dX1_make_52 ?_
        refine lv_iconst (v := 1) hx hb dX1_make_55 (by decide) ?_
        refine lv_iload_n hx hb dX1_make_56 rfl (lv_at hl 3 rfl) ?_
        refine lv_iadd hx hb dX1_make_57 ?_
        have hPc := hP.sub (ws' := [(hz, .inr (0, [.ref wz, .int (nI (tot f (allL uu f so rs rg))), .int (nI (allL uu f so rs rg).length)])), (wz, .inl (cI, n, .inl fb2))]) [4, 5] rfl
        have hKc := hK.sub (tys' := [(cI, .int)]) [0] rfl
        refine vp_callSi (va_runV (As := [.int (1 + (nI Fd))]) (rest := []) ⟨hx, hb, hml, hown, ht⟩ (ctX0_hasRoomFor l dC dI cI hz wz n (nI (tot f (allL uu f so rs rg))) (nI (allL uu f so rs rg).length) fb2 (1 + (nI Fd)) ) (cwV 1 ht gcX1_35 rfl rfl rfl (by decide +kernel) ⟨Nat.le_of_ble_eq_true rfl, Nat.le_of_ble_eq_true rfl⟩) ⟨pS.blind, va_recv hKc hPc (ci := 0) (q0 := 0) rfl rfl, pS.call hPc hKc hE⟩ rfl rfl hl.1 rfl (lv_room (Nat.le_of_ble_eq_true rfl)) dX1_make_58 ⟨Nat.le_of_ble_eq_true rfl, Nat.le_of_ble_eq_true rfl⟩).run (fun r_14 hr_14 => ?_)
        subst hr_14
        refine lv_if_ne (tgt := 74) hx hb dX1_make_61 (by decide) (fun _ => ?_) (fun h => absurd h (by rw [hrI (by omega) (by omega) (by omega), if_neg (by omega)]; decide))
        refine lv_aload_n hx hb dX1_make_74 rfl (lv_at hl 0 rfl) ?_
        refine va_get (D := (dC, dI)) (ci := 1) (v := .ref hz) (C := RX1) (T := TX1) (N := 5) hx hb ht iX1 hown hK hP 0 rfl rfl 1 (by decide) (ht _ g_39) (fun _ h9 => h9) rfl dX1_make_75 ?_
        refine lv_iload_n hx hb dX1_make_78 rfl (lv_at hl 2 rfl) ?_
        refine lv_iload_n hx hb dX1_make_79 rfl (lv_at hl 3 rfl) ?_
        have hPc := hP.sub (ws' := [(hz, .inr (0, [.ref wz, .int (nI (tot f (allL uu f so rs rg))), .int (nI (allL uu f so rs rg).length)])), (wz, .inl (cI, n, .inl fb2))]) [4, 5] rfl
        have hKc := hK.sub (tys' := [(cI, .int)]) [0] rfl
        have hDc := hD.sub (ws' := [(hz, .inr (0, [.ref wz, .int (nI (tot f (allL uu f so rs rg))), .int (nI (allL uu f so rs rg).length)])), (wz, .inl (cI, n, .inl fb2))]) [4, 5] (by decide) rfl
        have hFc := va_free (wc := [(hz, .inr (0, [.ref wz, .int (nI (tot f (allL uu f so rs rg))), .int (nI (allL uu f so rs rg).length)])), (wz, .inl (cI, n, .inl fb2))]) hD hS hA [4, 5] rfl
        refine va_calli (va_runV (As := [.int iq, .int (nI Fd)]) (rest := []) ⟨hx, hb, hml, hown, ht⟩ (ctX0_addObject l dC dI cI hz wz n (nI (tot f (allL uu f so rs rg))) (nI (allL uu f so rs rg).length) fb2 iq (nI Fd) (tot f (allL uu f so rs rg)) Fd _ hn rfl rfl (by omega) (by omega)) (cwV 2 ht gcX1_47 rfl rfl rfl (by decide +kernel) ⟨Nat.le_of_ble_eq_true rfl, Nat.le_of_ble_eq_true rfl⟩) ⟨pM.blind, va_recv hKc hPc (ci := 0) (q0 := 0) rfl rfl, pM.call hPc hKc hDc hE⟩ rfl rfl hl.1 rfl (lv_room (Nat.le_of_ble_eq_true rfl)) dX1_make_80 ⟨Nat.le_of_ble_eq_true rfl, Nat.le_of_ble_eq_true rfl⟩) hS (fun q _ h => hFc q h) hFc (fun r_16 u_15 t H1 locs ht9 hvm hw hB hz1 hk1 hS => ?_)
        obtain ⟨rfl, rfl⟩ : r_16 = nI (tot f (allL uu f so rs rg)) ∧ u_15 = (nI ((tot f (allL uu f so rs rg)) + Fd + 1), (nI (allL uu f so rs rg).length) + 1, va_cpy (fun _ => 0) (upd fb2 (tot f (allL uu f so rs rg)) (nI (2 * Fd) ||| iq)) 0 ((tot f (allL uu f so rs rg)) + 1) Fd) := ⟨(Prod.mk.inj hw).1, (Prod.mk.inj hw).2⟩
        obtain ⟨hP1, hK1, hD1⟩ := hB
        rw [ht9] at hP1
        obtain ⟨hP, hD⟩ := va_join (wr := [(cx, .inr (1, [.ref ar, .ref hz, .ref ha, .int (col + 1), .int (mov + nI (tot f (allL uu f so rs rg)))])), (ar, .inl (cI, 8, .inl rg2)), (ha, .inr (0, [.ref wa, .int (nI uu), .int ob])), (wa, .inl (cI, n, .inl fa2))]) (w1 := [(hz, .inr (0, [.ref wz, .int (nI ((tot f (allL uu f so rs rg)) + Fd + 1)), .int ((nI (allL uu f so rs rg).length) + 1)])), (wz, .inl (cI, n, .inl (va_cpy (fun _ => 0) (upd fb2 (tot f (allL uu f so rs rg)) (nI (2 * Fd) ||| iq)) 0 ((tot f (allL uu f so rs rg)) + 1) Fd)))]) hP hD [4, 5] [0, 1, 2, 3] rfl rfl (by decide) (by decide) hk1 hFc hP1 hD1
        generalize H1 = H at hP hS ⊢
        have hP := hP.sub (ws' := [(cx, .inr (1, [.ref ar, .ref hz, .ref ha, .int (col + 1), .int (mov + nI (tot f (allL uu f so rs rg)))])), (ar, .inl (cI, 8, .inl rg2)), (ha, .inr (0, [.ref wa, .int (nI uu), .int ob])), (wa, .inl (cI, n, .inl fa2)), (hz, .inr (0, [.ref wz, .int (nI ((tot f (allL uu f so rs rg)) + Fd + 1)), .int ((nI (allL uu f so rs rg).length) + 1)])), (wz, .inl (cI, n, .inl (va_cpy (fun _ => 0) (upd fb2 (tot f (allL uu f so rs rg)) (nI (2 * Fd) ||| iq)) 0 ((tot f (allL uu f so rs rg)) + 1) Fd)))]) [0, 1, 2, 3, 4, 5] rfl
        have hD := hD.sub (ws' := [(cx, .inr (1, [.ref ar, .ref hz, .ref ha, .int (col + 1), .int (mov + nI (tot f (allL uu f so rs rg)))])), (ar, .inl (cI, 8, .inl rg2)), (ha, .inr (0, [.ref wa, .int (nI uu), .int ob])), (wa, .inl (cI, n, .inl fa2)), (hz, .inr (0, [.ref wz, .int (nI ((tot f (allL uu f so rs rg)) + Fd + 1)), .int ((nI (allL uu f so rs rg).length) + 1)])), (wz, .inl (cI, n, .inl (va_cpy (fun _ => 0) (upd fb2 (tot f (allL uu f so rs rg)) (nI (2 * Fd) ||| iq)) 0 ((tot f (allL uu f so rs rg)) + 1) Fd)))]) [0, 1, 2, 3, 4, 5] (by decide) rfl
        refine lv_istore (lv' := [(4, .int (nI (tot f (allL uu f so rs rg)))), (0, .ref cx), (1, .int ip), (2, .int iq), (3, .int (nI Fd))]) hx hb dX1_make_83 hl (by decide) rfl (fun ls hl => ?_)
        refine lv_aload_n hx hb dX1_make_85 rfl (lv_at hl 1 rfl) ?_
        refine va_get (D := (dC, dI)) (ci := 1) (v := .ref ar) (C := RX1) (T := TX1) (N := 5) hx hb ht iX1 hown hK hP 0 rfl rfl 0 (by decide) (ht _ g_38) (fun _ h9 => h9) rfl dX1_make_86 ?_
        refine lv_iload_n hx hb dX1_make_89 rfl (lv_at hl 2 rfl) ?_
        refine lv_iload hx hb dX1_make_90 (lv_at hl 0 rfl) ?_
        refine vp_callSi (va_runS (As := [.int (nI (tot f (allL uu f so rs rg)))]) (rest := [.int ip, .ref ar]) ⟨hx, hb, hml, hown, ht⟩ (ctX1_asReference l (nI (tot f (allL uu f so rs rg)))) (cwS 1 ht gcX1_51 rfl rfl rfl (by decide +kernel) ⟨Nat.le_of_ble_eq_true rfl, Nat.le_of_ble_eq_true rfl⟩) ⟨pT.blind, pT.call⟩ rfl rfl hl.1 rfl (lv_room (Nat.le_of_ble_eq_true rfl)) dX1_make_92 ⟨Nat.le_of_ble_eq_true rfl, Nat.le_of_ble_eq_true rfl⟩).run (fun r_17 hr_17 => ?_)
        subst hr_17
        rw [asRefN (show (tot f (allL uu f so rs rg)) < 2 ^ 30 by omega)]
        refine va_iast hx hb hK hP hD hS 1 0 rfl rfl (isReg hgd.1) dX1_make_95 (fun H locs hP hD hS => ?_)
        have hP : va_P (dC, dI) vwCl [(cx, .inr (1, [.ref ar, .ref hz, .ref ha, .int (col + 1), .int (mov + nI (tot f (allL uu f so rs rg)))])), (ar, .inl (cI, 8, .inl (upd rg2 ip.toNatClampNeg (nI (2 * (tot f (allL uu f so rs rg)) + 1))))), (ha, .inr (0, [.ref wa, .int (nI uu), .int ob])), (wa, .inl (cI, n, .inl fa2)), (hz, .inr (0, [.ref wz, .int (nI ((tot f (allL uu f so rs rg)) + Fd + 1)), .int ((nI (allL uu f so rs rg).length) + 1)])), (wz, .inl (cI, n, .inl (va_cpy (fun _ => 0) (upd fb2 (tot f (allL uu f so rs rg)) (nI (2 * Fd) ||| iq)) 0 ((tot f (allL uu f so rs rg)) + 1) Fd)))] H := hP
        have hD : va_D A [(cx, .inr (1, [.ref ar, .ref hz, .ref ha, .int (col + 1), .int (mov + nI (tot f (allL uu f so rs rg)))])), (ar, .inl (cI, 8, .inl (upd rg2 ip.toNatClampNeg (nI (2 * (tot f (allL uu f so rs rg)) + 1))))), (ha, .inr (0, [.ref wa, .int (nI uu), .int ob])), (wa, .inl (cI, n, .inl fa2)), (hz, .inr (0, [.ref wz, .int (nI ((tot f (allL uu f so rs rg)) + Fd + 1)), .int ((nI (allL uu f so rs rg).length) + 1)])), (wz, .inl (cI, n, .inl (va_cpy (fun _ => 0) (upd fb2 (tot f (allL uu f so rs rg)) (nI (2 * Fd) ||| iq)) 0 ((tot f (allL uu f so rs rg)) + 1) Fd)))] := hD
        refine lv_iload hx hb dX1_make_96 (lv_at hl 0 rfl) ?_
        refine vx_ret ?_
        refine W.widen (k := 5) (n := 30) (Nat.le_of_ble_eq_true rfl) (Nat.le_of_ble_eq_true rfl) ?_
        have hP9 := hP.sub (ws' := [(cx, .inr (1, [.ref ar, .ref hz, .ref ha, .int (col + 1), .int (mov + nI (tot f (allL uu f so rs rg)))])), (ar, .inl (cI, 8, .inl (upd rg2 ip.toNatClampNeg (nI (2 * (tot f (allL uu f so rs rg)) + 1))))), (ha, .inr (0, [.ref wa, .int (nI uu), .int ob])), (wa, .inl (cI, n, .inl fa2)), (hz, .inr (0, [.ref wz, .int (nI ((tot f (allL uu f so rs rg)) + Fd + 1)), .int ((nI (allL uu f so rs rg).length) + 1)])), (wz, .inl (cI, n, .inl (va_cpy (fun _ => 0) (upd fb2 (tot f (allL uu f so rs rg)) (nI (2 * Fd) ||| iq)) 0 ((tot f (allL uu f so rs rg)) + 1) Fd)))]) [0, 1, 2, 3, 4, 5] rfl
        have hD9 := hD.sub (ws' := [(cx, .inr (1, [.ref ar, .ref hz, .ref ha, .int (col + 1), .int (mov + nI (tot f (allL uu f so rs rg)))])), (ar, .inl (cI, 8, .inl (upd rg2 ip.toNatClampNeg (nI (2 * (tot f (allL uu f so rs rg)) + 1))))), (ha, .inr (0, [.ref wa, .int (nI uu), .int ob])), (wa, .inl (cI, n, .inl fa2)), (hz, .inr (0, [.ref wz, .int (nI ((tot f (allL uu f so rs rg)) + Fd + 1)), .int ((nI (allL uu f so rs rg).length) + 1)])), (wz, .inl (cI, n, .inl (va_cpy (fun _ => 0) (upd fb2 (tot f (allL uu f so rs rg)) (nI (2 * Fd) ||| iq)) 0 ((tot f (allL uu f so rs rg)) + 1) Fd)))]) [0, 1, 2, 3, 4, 5] (by decide) rfl
        have hK9 := hK.sub (tys' := [(cI, .int)]) [0] rfl
        exact W.iret (v := nI (tot f (allL uu f so rs rg))) hx hb hr (fun t ht hW => ⟨⟨_, (upd rg2 ip.toNatClampNeg (nI (2 * (tot f (allL uu f so rs rg)) + 1)), (nI uu), ob, fa2, nI ((tot f (allL uu f so rs rg)) + Fd + 1), (nI (allL uu f so rs rg).length) + 1, va_cpy (fun _ => 0) (upd fb2 (tot f (allL uu f so rs rg)) (nI (2 * Fd) ||| iq)) 0 ((tot f (allL uu f so rs rg)) + 1) Fd, (col + 1), (mov + nI (tot f (allL uu f so rs rg)))), rfl, ⟨rfl, rg2, fa2, fb2, g1, g4, rfl⟩, by rw [ht]; exact hP9, va_K.moved hW.alike hK9, hD9⟩, hS.F ht⟩) hS.2.2 dX1_make_98
abbrev atX1_make_3 (dC : Nat → ClassId) (dI : Nat → Nat → Nat) (cI : ClassId) (A : Nat → Prop) (cx : Nat) (ar : Nat) (ha : Nat) (wa : Nat) (hz : Nat) (wz : Nat) (n : Nat) (u : (Nat → Int32) × Int32 × Int32 × (Nat → Int32) × Int32 × Int32 × (Nat → Int32) × Int32 × Int32) (t : State) : Prop := va_P (dC, dI) vwCl [(cx, .inr (1, [.ref ar, .ref hz, .ref ha, .int u.2.2.2.2.2.2.2.1, .int u.2.2.2.2.2.2.2.2])), (ar, .inl (cI, 8, .inl u.1)), (ha, .inr (0, [.ref wa, .int u.2.1, .int u.2.2.1])), (wa, .inl (cI, n, .inl u.2.2.2.1)), (hz, .inr (0, [.ref wz, .int u.2.2.2.2.1, .int u.2.2.2.2.2.1])), (wz, .inl (cI, n, .inl u.2.2.2.2.2.2.1))] t.heap ∧ va_K (dC, dI) vwCl [(cI, .int)] t ∧ va_D A [(cx, .inr (1, [.ref ar, .ref hz, .ref ha, .int u.2.2.2.2.2.2.2.1, .int u.2.2.2.2.2.2.2.2])), (ar, .inl (cI, 8, .inl u.1)), (ha, .inr (0, [.ref wa, .int u.2.1, .int u.2.2.1])), (wa, .inl (cI, n, .inl u.2.2.2.1)), (hz, .inr (0, [.ref wz, .int u.2.2.2.2.1, .int u.2.2.2.2.2.1])), (wz, .inl (cI, n, .inl u.2.2.2.2.2.2.1))]
set_option maxHeartbeats 4000000 in
set_option maxRecDepth 100000 in
theorem ctX1_make_3 (l : Launch) (hl9 : l.stackTraces = false) (dC : Nat → ClassId) (dI : Nat → Nat → Nat) (cI : ClassId) (sa : Nat → Nat) (cx : Nat) (ar : Nat) (ha : Nat) (wa : Nat) (hz : Nat) (wz : Nat) (n : Nat) (col : Int32) (mov : Int32) (rg : Nat → Int32) (us : Int32) (ob : Int32) (f : Nat → Int32) (us2 : Int32) (ob2 : Int32) (f2 : Nat → Int32) (ip : Int32) (iq : Int32) (ir : Int32) (Fd : Nat) (uu : Nat) (so : Nat → Int32) (rs : Nat → Int32) (sz : Nat) (hn : n < 2 ^ 31) (hF31 : Fd < 2 ^ 31) (hgd : gdA ip iq ir) (hir : ir = nI Fd) (hus : us = nI uu) (hwf : hWf uu n f so) (hrg : rgOK uu so rs rg) (hfull : n < uu + 1 + Fd) (hfit : n < (tot f (allL uu f so rs rg)) + 1 + Fd) : vx_Met l yX1_make (kX1_make :: gT) ({ frames := 7, cells := 5, slots := 30, locals := 145 }) (va_Pc [.ref cx, .int ip, .int iq, .int ir] (pY (dC, dI) [(cx, .inr (1, [.ref ar, .ref ha, .ref hz, .int col, .int mov])), (ar, .inl (cI, 8, .inl rg)), (ha, .inr (0, [.ref wa, .int us, .int ob])), (wa, .inl (cI, n, .inl f)), (hz, .inr (0, [.ref wz, .int us2, .int ob2])), (wz, .inl (cI, n, .inl f2))] [(cI, .int)] sa sz)) (va_Qi (fun (r : Int32) (u : (Nat → Int32) × Int32 × Int32 × (Nat → Int32) × Int32 × Int32 × (Nat → Int32) × Int32 × Int32) => False) (atX1_make_3 dC dI cI (va_A [(cx, .inr (1, [.ref ar, .ref ha, .ref hz, .int col, .int mov])), (ar, .inl (cI, 8, .inl rg)), (ha, .inr (0, [.ref wa, .int us, .int ob])), (wa, .inl (cI, n, .inl f)), (hz, .inr (0, [.ref wz, .int us2, .int ob2])), (wz, .inl (cI, n, .inl f2))] sz) cx ar ha wa hz wz n) (va_A [(cx, .inr (1, [.ref ar, .ref ha, .ref hz, .int col, .int mov])), (ar, .inl (cI, 8, .inl rg)), (ha, .inr (0, [.ref wa, .int us, .int ob])), (wa, .inl (cI, n, .inl f)), (hz, .inr (0, [.ref wz, .int us2, .int ob2])), (wz, .inl (cI, n, .inl f2))] sz)) (vx_X (fun v : Nat × ((Nat → Int32) × Int32 × Int32 × (Nat → Int32) × Int32 × Int32 × (Nat → Int32) × Int32 × Int32) => v.1 = 2 ∧ ∃ rg2 fa2 fb2, rgI f rs rg rg2 8 (allL uu f so rs rg) ∧ scI uu n f so (allL uu f so rs rg) (tot f (allL uu f so rs rg)) fb2 ∧ v.2 = (rg2, us, ob, fa2, nI (tot f (allL uu f so rs rg)), nI (allL uu f so rs rg).length, fb2, col + 1, mov + nI (tot f (allL uu f so rs rg)))) (fun E v t => E = exN v.1 ∧ atX1_make_3 dC dI cI (va_A [(cx, .inr (1, [.ref ar, .ref ha, .ref hz, .int col, .int mov])), (ar, .inl (cI, 8, .inl rg)), (ha, .inr (0, [.ref wa, .int us, .int ob])), (wa, .inl (cI, n, .inl f)), (hz, .inr (0, [.ref wz, .int us2, .int ob2])), (wz, .inl (cI, n, .inl f2))] sz) cx ar ha wa hz wz n v.2 t) (va_A [(cx, .inr (1, [.ref ar, .ref ha, .ref hz, .int col, .int mov])), (ar, .inl (cI, 8, .inl rg)), (ha, .inr (0, [.ref wa, .int us, .int ob])), (wa, .inl (cI, n, .inl f)), (hz, .inr (0, [.ref wz, .int us2, .int ob2])), (wz, .inl (cI, n, .inl f2))] sz)) 5 30 (va_A [(cx, .inr (1, [.ref ar, .ref ha, .ref hz, .int col, .int mov])), (ar, .inl (cI, 8, .inl rg)), (ha, .inr (0, [.ref wa, .int us, .int ob])), (wa, .inl (cI, n, .inl f)), (hz, .inr (0, [.ref wz, .int us2, .int ob2])), (wz, .inl (cI, n, .inl f2))] sz) := by
  have hFd9 : Fd ≤ 200 := fdB hir hgd
  subst hir
  subst hus
  refine vx_ofW (cc := cX1_make) (maxL := 5) (ret := (some .int)) (by decide) rfl ?_
  intro p e s m args below meth c s₁ B hml hEx hv
  obtain ⟨rfl, hsz, hP, hK, hD0, hE, hX⟩ := hv
  have hx := B.exec
  have hb := B.bytes
  have hr := B.returns
  have ht : ∀ w ∈ gT, w.before ([.ref cx, .int ip, .int iq, .int (nI Fd)] : List Value).toArray s = true := fun w h => atoms_spec (ws := kX1_make :: gT) B.pre w (List.mem_cons_of_mem _ h)
  have hown : s.vm.findClass RX1 = some m.cls := findClass_of_methodNamed B.named
  have hlocks := B.notSynchronized
  subst hsz
  have hD := hD0.self (sz := s.heap.size)
  generalize hAe : va_A [(cx, .inr (1, [.ref ar, .ref ha, .ref hz, .int col, .int mov])), (ar, .inl (cI, 8, .inl rg)), (ha, .inr (0, [.ref wa, .int (nI uu), .int ob])), (wa, .inl (cI, n, .inl f)), (hz, .inr (0, [.ref wz, .int us2, .int ob2])), (wz, .inl (cI, n, .inl f2))] s.heap.size = A at hD hX ⊢
  have hA : ∀ q : Nat, s.heap.size ≤ q → A q := fun q h => by rw [← hAe]; exact Or.inr h
  have hS : va_S A s.heap s.heap [] := va_S.rf
  have hl := lv_entry ([.ref cx, .int ip, .int iq, .int (nI Fd)]) (n := 5) (Nat.le_of_ble_eq_true rfl)
  rw [lg_entry_eq]
  generalize (lg_sl ([.ref cx, .int ip, .int iq, .int (nI Fd)]) ++ List.replicate (5 - (lg_sl ([.ref cx, .int ip, .int iq, .int (nI Fd)])).length) Slot.unset).toArray = ls at hl ⊢
  have hl : lv_has ls 5 [(0, .ref cx), (1, .int ip), (2, .int iq), (3, .int (nI Fd))] := hl
  refine lv_iload_n hx hb dX1_make_0 rfl (lv_at hl 1 rfl) ?_
  have hPc := hP.sub (ws' := []) [] rfl
  have hKc := hK.sub (tys' := []) [] rfl
  have hFc := nilF hS hA
  refine vx_callv (vx_runS (As := [.int ip]) (rest := []) ⟨hx, hb, hml, hown, ht⟩ (ctX1_requireRegister l hl9 dC dI cI sa ip _ ) (cwS 1 ht gcX1_25 rfl rfl rfl (by decide +kernel) ⟨Nat.le_of_ble_eq_true rfl, Nat.le_of_ble_eq_true rfl⟩) ⟨pR.blind, pR.call hPc hKc hE hX hS hFc⟩ rfl rfl hl.1 rfl (lv_room (Nat.le_of_ble_eq_true rfl)) dX1_make_1 ⟨Nat.le_of_ble_eq_true rfl, Nat.le_of_ble_eq_true rfl⟩) hS (fun q _ h => hFc q h) hFc (fun q _ h => hFc q h) (fun E ce q9 u_1 t H1 locs ht9 hvm hp hB hz1 hk1 hS hce hcv hcl => ?_) (fun u_1 t H1 locs ht9 hvm hw hB hz1 hk1 hS => ?_)
  · obtain ⟨hpe, hpk⟩ := hp
    obtain rfl : u_1 = ((fX1_requireRegister ip).1, (fX1_requireRegister ip).2.2) := by rw [hpe]
    exact absurd (rr_is.mpr hgd.1) hpk
  · have c_3 : (fX1_requireRegister ip).1 = 0 := by rw [hw]
    have hP := rKeep hP hk1
    generalize H1 = H at hP hS ⊢
    have hb1 := hwf.1
    have hnb := hwf.2.1
    have htt := (allCL hwf hrg).1.bd
    have hkd := kd01.mp ⟨hgd.2.1, hgd.2.2.1⟩
    refine lv_iload_n hx hb dX1_make_4 rfl (lv_at hl 2 rfl) ?_
    refine lv_if_eq (tgt := 13) hx hb dX1_make_5 (by decide) (fun c_4 => ?_) (fun c_4 => ?_)
    · refine lv_iload_n hx hb dX1_make_13 rfl (lv_at hl 3 rfl) ?_
      refine lv_if_lt (tgt := 24) hx hb dX1_make_14 (by decide) (fun h => absurd h hgd.2.2.2.1) (fun _ => ?_)
      refine lv_iload_n hx hb dX1_make_17 rfl (lv_at hl 3 rfl) ?_
      refine lv_sipush (v := 200) hx hb dX1_make_18 (by decide) ?_
      refine lv_icmp_le (tgt := 34) hx hb dX1_make_21 (by decide) (fun _ => ?_) (fun h => absurd hgd.2.2.2.2 h)
      refine lv_aload_n hx hb dX1_make_34 rfl (lv_at hl 0 rfl) ?_
      refine va_get (D := (dC, dI)) (ci := 1) (v := .ref ha) (C := RX1) (T := TX1) (N := 5) hx hb ht iX1 hown hK hP 0 rfl rfl 1 (by decide) (ht _ g_39) (fun _ h9 => h9) rfl dX1_make_35 ?_
      refine lv_iconst (v := 1) hx hb dX1_make_38 (by decide) ?_
      refine lv_iload_n hx hb dX1_make_39 rfl (lv_at hl 3 rfl) ?_
      refine lv_iadd hx hb dX1_make_40 ?_
      have hPc := hP.sub (ws' := [(ha, .inr (0, [.ref wa, .int (nI uu), .int ob])), (wa, .inl (cI, n, .inl f))]) [2, 3] rfl
      have hKc := hK.sub (tys' := [(cI, .int)]) [0] rfl
      refine vp_callSi (va_runV (As := [.int (1 + (nI Fd))]) (rest := []) ⟨hx, hb, hml, hown, ht⟩ (ctX0_hasRoomFor l dC dI cI ha wa n (nI uu) ob f (1 + (nI Fd)) ) (cwV 1 ht gcX1_35 rfl rfl rfl (by decide +kernel) ⟨Nat.le_of_ble_eq_true rfl, Nat.le_of_ble_eq_true rfl⟩) ⟨pS.blind, va_recv hKc hPc (ci := 0) (q0 := 0) rfl rfl, pS.call hPc hKc hE⟩ rfl rfl hl.1 rfl (lv_room (Nat.le_of_ble_eq_true rfl)) dX1_make_41 ⟨Nat.le_of_ble_eq_true rfl, Nat.le_of_ble_eq_true rfl⟩).run (fun r_5 hr_5 => ?_)
      subst hr_5
      refine lv_if_ne (tgt := 51) hx hb dX1_make_44 (by decide) (fun h => absurd (by rw [hrI (by omega) (by omega) (by omega), if_pos hfull]) h) (fun _ => ?_)
      refine lv_aload_n hx hb dX1_make_47 rfl (lv_at hl 0 rfl) ?_
      have hPc := hP.sub (ws' := [(cx, .inr (1, [.ref ar, .ref ha, .ref hz, .int col, .int mov])), (ar, .inl (cI, 8, .inl rg)), (ha, .inr (0, [.ref wa, .int (nI uu), .int ob])), (wa, .inl (cI, n, .inl f)), (hz, .inr (0, [.ref wz, .int us2, .int ob2])), (wz, .inl (cI, n, .inl f2))]) [0, 1, 2, 3, 4, 5] rfl
      have hKc := hK.sub (tys' := [(cI, .int)]) [0] rfl
      have hDc := hD.sub (ws' := [(cx, .inr (1, [.ref ar, .ref ha, .ref hz, .int col, .int mov])), (ar, .inl (cI, 8, .inl rg)), (ha, .inr (0, [.ref wa, .int (nI uu), .int ob])), (wa, .inl (cI, n, .inl f)), (hz, .inr (0, [.ref wz, .int us2, .int ob2])), (wz, .inl (cI, n, .inl f2))]) [0, 1, 2, 3, 4, 5] (by decide) rfl
      have hFc := va_free (wc := [(cx, .inr (1, [.ref ar, .ref ha, .ref hz, .int col, .int mov])), (ar, .inl (cI, 8, .inl rg)), (ha, .inr (0, [.ref wa, .int (nI uu), .int ob])), (wa, .inl (cI, n, .inl f)), (hz, .inr (0, [.ref wz, .int us2, .int ob2])), (wz, .inl (cI, n, .inl f2))]) hD hS hA [0, 1, 2, 3, 4, 5] rfl
      refine va_callv (va_runV (As := []) (rest := []) ⟨hx, hb, hml, hown, ht⟩ (ctX1_moveToSpare l dC dI cI cx ar ha wa hz wz n col mov rg (nI uu) ob f us2 ob2 f2 uu so rs _ hn hwf hrg) (cwV 0 ht gcX1_39 rfl rfl rfl (by decide +kernel) ⟨Nat.le_of_ble_eq_true rfl, Nat.le_of_ble_eq_true rfl⟩) ⟨pM.blind, va_recv hKc hPc (ci := 1) (q0 := 0) rfl rfl, pM.call hPc hKc hDc hE⟩ rfl rfl hl.1 rfl (lv_room (Nat.le_of_ble_eq_true rfl)) dX1_make_48 ⟨Nat.le_of_ble_eq_true rfl, Nat.le_of_ble_eq_true rfl⟩) hS (fun q _ h => hFc q h) hFc (fun u_6 t H1 locs ht9 hvm hw hB hz1 hk1 hS => ?_)
      have hRu_6 := hw
      obtain ⟨hP1, hK1, hD1⟩ := hB
      rw [ht9] at hP1
      obtain ⟨hP, hD⟩ := va_join (wr := []) (w1 := [(cx, .inr (1, [.ref ar, .ref hz, .ref ha, .int u_6.2.2.2.2.2.1, .int u_6.2.2.2.2.2.2])), (ar, .inl (cI, 8, .inl u_6.1)), (ha, .inr (0, [.ref wa, .int (nI uu), .int ob])), (wa, .inl (cI, n, .inl u_6.2.1)), (hz, .inr (0, [.ref wz, .int u_6.2.2.1, .int u_6.2.2.2.1])), (wz, .inl (cI, n, .inl u_6.2.2.2.2.1))]) hP hD [0, 1, 2, 3, 4, 5] [] rfl rfl (by decide) (by decide) hk1 hFc hP1 hD1
      generalize H1 = H at hP hS ⊢
      have hP := hP.sub (ws' := [(cx, .inr (1, [.ref ar, .ref hz, .ref ha, .int u_6.2.2.2.2.2.1, .int u_6.2.2.2.2.2.2])), (ar, .inl (cI, 8, .inl u_6.1)), (ha, .inr (0, [.ref wa, .int (nI uu), .int ob])), (wa, .inl (cI, n, .inl u_6.2.1)), (hz, .inr (0, [.ref wz, .int u_6.2.2.1, .int u_6.2.2.2.1])), (wz, .inl (cI, n, .inl u_6.2.2.2.2.1))]) [0, 1, 2, 3, 4, 5] rfl
      have hD := hD.sub (ws' := [(cx, .inr (1, [.ref ar, .ref hz, .ref ha, .int u_6.2.2.2.2.2.1, .int u_6.2.2.2.2.2.2])), (ar, .inl (cI, 8, .inl u_6.1)), (ha, .inr (0, [.ref wa, .int (nI uu), .int ob])), (wa, .inl (cI, n, .inl u_6.2.1)), (hz, .inr (0, [.ref wz, .int u_6.2.2.1, .int u_6.2.2.2.1])), (wz, .inl (cI, n, .inl u_6.2.2.2.2.1))]) [0, 1, 2, 3, 4, 5] (by decide) rfl
      obtain ⟨g1, g2, g3, g4, g5, g6⟩ := hRu_6
      obtain ⟨rg2, fa2, w1, w2, fb2, w3, w4⟩ := u_6
      obtain rfl : w1 = nI (tot f (allL uu f so rs rg)) := g2
      obtain rfl : w2 = nI (allL uu f so rs rg).length := g3
      obtain rfl : w3 = col + 1 := g5
      obtain rfl : w4 = mov + nI (tot f (allL uu f so rs rg)) := g6
      have hP : va_P (dC, dI) vwCl [(cx, .inr (1, [.ref ar, .ref hz, .ref ha, .int (col + 1), .int (mov + nI (tot f (allL uu f so rs rg)))])), (ar, .inl (cI, 8, .inl rg2)), (ha, .inr (0, [.ref wa, .int (nI uu), .int ob])), (wa, .inl (cI, n, .inl fa2)), (hz, .inr (0, [.ref wz, .int (nI (tot f (allL uu f so rs rg))), .int (nI (allL uu f so rs rg).length)])), (wz, .inl (cI, n, .inl fb2))] H := hP
      have hD : va_D A [(cx, .inr (1, [.ref ar, .ref hz, .ref ha, .int (col + 1), .int (mov + nI (tot f (allL uu f so rs rg)))])), (ar, .inl (cI, 8, .inl rg2)), (ha, .inr (0, [.ref wa, .int (nI uu), .int ob])), (wa, .inl (cI, n, .inl fa2)), (hz, .inr (0, [.ref wz, .int (nI (tot f (allL uu f so rs rg))), .int (nI (allL uu f so rs rg).length)])), (wz, .inl (cI, n, .inl fb2))] := hD
      refine lv_aload_n hx hb dX1_make_51 rfl (lv_at hl 0 rfl) ?_
      refine va_get (D := (dC, dI)) (ci := 1) (v := .ref hz) (C := RX1) (T := TX1) (N := 5) hx hb ht iX1 hown hK hP 0 rfl rfl 1 (by decide) (ht _ g_39) (fun _ h9 => h9) rfl dX1_make_52 ?_
      refine lv_iconst (v := 1) hx hb dX1_make_55 (by decide) ?_
      refine lv_iload_n hx hb dX1_make_56 rfl (lv_at hl 3 rfl) ?_
      refine lv_iadd hx hb dX1_make_57 ?_
      have hPc := hP.sub (ws' := [(hz, .inr (0, [.ref wz, .int (nI (tot f (allL uu f so rs rg))), .int (nI (allL uu f so rs rg).length)])), (wz, .inl (cI, n, .inl fb2))]) [4, 5] rfl
      have hKc := hK.sub (tys' := [(cI, .int)]) [0] rfl
      refine vp_callSi (va_runV (As := [.int (1 + (nI Fd))]) (rest := []) ⟨hx, hb, hml, hown, ht⟩ (ctX0_hasRoomFor l dC dI cI hz wz n (nI (tot f (allL uu f so rs rg))) (nI (allL uu f so rs rg).length) fb2 (1 + (nI Fd)) ) (cwV 1 ht gcX1_35 rfl rfl rfl (by decide +kernel) ⟨Nat.le_of_ble_eq_true rfl, Nat.le_of_ble_eq_true rfl⟩) ⟨pS.blind, va_recv hKc hPc (ci := 0) (q0 := 0) rfl rfl, pS.call hPc hKc hE⟩ rfl rfl hl.1 rfl (lv_room (Nat.le_of_ble_eq_true rfl)) dX1_make_58 ⟨Nat.le_of_ble_eq_true rfl, Nat.le_of_ble_eq_true rfl⟩).run (fun r_7 hr_7 => ?_)
      subst hr_7
      refine lv_if_ne (tgt := 74) hx hb dX1_make_61 (by decide) (fun h => absurd (by rw [hrI (by omega) (by omega) (by omega), if_pos hfit]) h) (fun _ => ?_)
      have hP9 := hP.sub (ws' := [(cx, .inr (1, [.ref ar, .ref hz, .ref ha, .int (col + 1), .int (mov + nI (tot f (allL uu f so rs rg)))])), (ar, .inl (cI, 8, .inl rg2)), (ha, .inr (0, [.ref wa, .int (nI uu), .int ob])), (wa, .inl (cI, n, .inl fa2)), (hz, .inr (0, [.ref wz, .int (nI (tot f (allL uu f so rs rg))), .int (nI (allL uu f so rs rg).length)])), (wz, .inl (cI, n, .inl fb2))]) [0, 1, 2, 3, 4, 5] rfl
      have hD9 := hD.sub (ws' := [(cx, .inr (1, [.ref ar, .ref hz, .ref ha, .int (col + 1), .int (mov + nI (tot f (allL uu f so rs rg)))])), (ar, .inl (cI, 8, .inl rg2)), (ha, .inr (0, [.ref wa, .int (nI uu), .int ob])), (wa, .inl (cI, n, .inl fa2)), (hz, .inr (0, [.ref wz, .int (nI (tot f (allL uu f so rs rg))), .int (nI (allL uu f so rs rg).length)])), (wz, .inl (cI, n, .inl fb2))]) [0, 1, 2, 3, 4, 5] (by decide) rfl
      have hK9 := hK.sub (tys' := [(cI, .int)]) [0] rfl
      exact vx_throwS (own := RX1) (cls := "java/lang/IllegalStateException") (names := ["java/lang/RuntimeException", "java/lang/Exception"]) hx hb hl9 hown (by decide +kernel) (by decide +kernel) (ht _ g_197) (ht _ g_8) hX.s44 (thS ht hE) toS hX.zU hX.zN hS (hl.1.trans hml.symm) dX1_make_64 dX1_make_67 dX1_make_68 dX1_make_70 dX1_make_73 (fun x hx => (hEx x hx).elim) (Nat.le_of_ble_eq_true rfl) (Nat.le_of_ble_eq_true rfl) (Nat.le_of_ble_eq_true rfl) (Nat.le_of_ble_eq_true rfl) hlocks (fun t ha hsz hk => ⟨(2, (rg2, (nI uu), ob, fa2, (nI (tot f (allL uu f so rs rg))), (nI (allL uu f so rs rg).length), fb2, (col + 1), (mov + nI (tot f (allL uu f so rs rg))))), ⟨rfl, rg2, fa2, fb2, g1, g4, rfl⟩, ⟨rfl, hP9.kept (fun k q hq => hk q.1 (hP9 k q hq).lt), va_K.moved ha hK9, hD9⟩, Nat.le_trans hS.1 hsz, fun q h1 h2 => (hk q (Nat.lt_of_lt_of_le h1 hS.1)).trans (hS.2.1 q h1 h2)⟩) hS.2.2 (Nat.le_of_ble_eq_true rfl) (Nat.le_of_ble_eq_true rfl)
    · refine lv_iload_n hx hb dX1_make_8 rfl (lv_at hl 2 rfl) ?_
      refine lv_iconst (v := 1) hx hb dX1_make_9 (by decide) ?_
      refine lv_icmp_ne (tgt := 24) hx hb dX1_make_10 (by decide) (fun c_8 => ?_) (fun c_8 => ?_)
      · exact absurd hkd (fun q => q.elim c_4 c_8)
      · refine lv_iload_n hx hb dX1_make_13 rfl (lv_at hl 3 rfl) ?_
        refine lv_if_lt (tgt := 24) hx hb dX1_make_14 (by decide) (fun h => absurd h hgd.2.2.2.1) (fun _ => ?_)
        refine lv_iload_n hx hb dX1_make_17 rfl (lv_at hl 3 rfl) ?_
        refine lv_sipush (v := 200) hx hb dX1_make_18 (by decide) ?_
        refine lv_icmp_le (tgt := 34) hx hb dX1_make_21 (by decide) (fun _ => ?_) (fun h => absurd hgd.2.2.2.2 h)
        refine lv_aload_n hx hb dX1_make_34 rfl (lv_at hl 0 rfl) ?_
        refine va_get (D := (dC, dI)) (ci := 1) (v := .ref ha) (C := RX1) (T := TX1) (N := 5) hx hb ht iX1 hown hK hP 0 rfl rfl 1 (by decide) (ht _ g_39) (fun _ h9 => h9) rfl dX1_make_35 ?_
        refine lv_iconst (v := 1) hx hb dX1_make_38 (by decide) ?_
        refine lv_iload_n hx hb dX1_make_39 rfl (lv_at hl 3 rfl) ?_
        refine lv_iadd hx hb dX1_make_40 ?_
        have hPc := hP.sub (ws' := [(ha, .inr (0, [.ref wa, .int (nI uu), .int ob])), (wa, .inl (cI, n, .inl f))]) [2, 3] rfl
        have hKc := hK.sub (tys' := [(cI, .int)]) [0] rfl
        refine vp_callSi (va_runV (As := [.int (1 + (nI Fd))]) (rest := []) ⟨hx, hb, hml, hown, ht⟩ (ctX0_hasRoomFor l dC dI cI ha wa n (nI uu) ob f (1 + (nI Fd)) ) (cwV 1 ht gcX1_35 rfl rfl rfl (by decide +kernel) ⟨Nat.le_of_ble_eq_true rfl, Nat.le_of_ble_eq_true rfl⟩) ⟨pS.blind, va_recv hKc hPc (ci := 0) (q0 := 0) rfl rfl, pS.call hPc hKc hE⟩ rfl rfl hl.1 rfl (lv_room (Nat.le_of_ble_eq_true rfl)) dX1_make_41 ⟨Nat.le_of_ble_eq_true rfl, Nat.le_of_ble_eq_true rfl⟩).run (fun r_9 hr_9 => ?_)
        subst hr_9
        refine lv_if_ne (tgt := 51) hx hb dX1_make_44 (by decide) (fun h => absurd (by rw [hrI (by omega) (by omega) (by omega), if_pos hfull]) h) (fun _ => ?_)
        refine lv_aload_n hx hb dX1_make_47 rfl (lv_at hl 0 rfl) ?_
        have hPc := hP.sub (ws' := [(cx, .inr (1, [.ref ar, .ref ha, .ref hz, .int col, .int mov])), (ar, .inl (cI, 8, .inl rg)), (ha, .inr (0, [.ref wa, .int (nI uu), .int ob])), (wa, .inl (cI, n, .inl f)), (hz, .inr (0, [.ref wz, .int us2, .int ob2])), (wz, .inl (cI, n, .inl f2))]) [0, 1, 2, 3, 4, 5] rfl
        have hKc := hK.sub (tys' := [(cI, .int)]) [0] rfl
        have hDc := hD.sub (ws' := [(cx, .inr (1, [.ref ar, .ref ha, .ref hz, .int col, .int mov])), (ar, .inl (cI, 8, .inl rg)), (ha, .inr (0, [.ref wa, .int (nI uu), .int ob])), (wa, .inl (cI, n, .inl f)), (hz, .inr (0, [.ref wz, .int us2, .int ob2])), (wz, .inl (cI, n, .inl f2))]) [0, 1, 2, 3, 4, 5] (by decide) rfl
        have hFc := va_free (wc := [(cx, .inr (1, [.ref ar, .ref ha, .ref hz, .int col, .int mov])), (ar, .inl (cI, 8, .inl rg)), (ha, .inr (0, [.ref wa, .int (nI uu), .int ob])), (wa, .inl (cI, n, .inl f)), (hz, .inr (0, [.ref wz, .int us2, .int ob2])), (wz, .inl (cI, n, .inl f2))]) hD hS hA [0, 1, 2, 3, 4, 5] rfl
        refine va_callv (va_runV (As := []) (rest := []) ⟨hx, hb, hml, hown, ht⟩ (ctX1_moveToSpare l dC dI cI cx ar ha wa hz wz n col mov rg (nI uu) ob f us2 ob2 f2 uu so rs _ hn hwf hrg) (cwV 0 ht gcX1_39 rfl rfl rfl (by decide +kernel) ⟨Nat.le_of_ble_eq_true rfl, Nat.le_of_ble_eq_true rfl⟩) ⟨pM.blind, va_recv hKc hPc (ci := 1) (q0 := 0) rfl rfl, pM.call hPc hKc hDc hE⟩ rfl rfl hl.1 rfl (lv_room (Nat.le_of_ble_eq_true rfl)) dX1_make_48 ⟨Nat.le_of_ble_eq_true rfl, Nat.le_of_ble_eq_true rfl⟩) hS (fun q _ h => hFc q h) hFc (fun u_10 t H1 locs ht9 hvm hw hB hz1 hk1 hS => ?_)
        have hRu_10 := hw
        obtain ⟨hP1, hK1, hD1⟩ := hB
        rw [ht9] at hP1
        obtain ⟨hP, hD⟩ := va_join (wr := []) (w1 := [(cx, .inr (1, [.ref ar, .ref hz, .ref ha, .int u_10.2.2.2.2.2.1, .int u_10.2.2.2.2.2.2])), (ar, .inl (cI, 8, .inl u_10.1)), (ha, .inr (0, [.ref wa, .int (nI uu), .int ob])), (wa, .inl (cI, n, .inl u_10.2.1)), (hz, .inr (0, [.ref wz, .int u_10.2.2.1, .int u_10.2.2.2.1])), (wz, .inl (cI, n, .inl u_10.2.2.2.2.1))]) hP hD [0, 1, 2, 3, 4, 5] [] rfl rfl (by decide) (by decide) hk1 hFc hP1 hD1
        generalize H1 = H at hP hS ⊢
        have hP := hP.sub (ws' := [(cx, .inr (1, [.ref ar, .ref hz, .ref ha, .int u_10.2.2.2.2.2.1, .int u_10.2.2.2.2.2.2])), (ar, .inl (cI, 8, .inl u_10.1)), (ha, .inr (0, [.ref wa, .int (nI uu), .int ob])), (wa, .inl (cI, n, .inl u_10.2.1)), (hz, .inr (0, [.ref wz, .int u_10.2.2.1, .int u_10.2.2.2.1])), (wz, .inl (cI, n, .inl u_10.2.2.2.2.1))]) [0, 1, 2, 3, 4, 5] rfl
        have hD := hD.sub (ws' := [(cx, .inr (1, [.ref ar, .ref hz, .ref ha, .int u_10.2.2.2.2.2.1, .int u_10.2.2.2.2.2.2])), (ar, .inl (cI, 8, .inl u_10.1)), (ha, .inr (0, [.ref wa, .int (nI uu), .int ob])), (wa, .inl (cI, n, .inl u_10.2.1)), (hz, .inr (0, [.ref wz, .int u_10.2.2.1, .int u_10.2.2.2.1])), (wz, .inl (cI, n, .inl u_10.2.2.2.2.1))]) [0, 1, 2, 3, 4, 5] (by decide) rfl
        obtain ⟨g1, g2, g3, g4, g5, g6⟩ := hRu_10
        obtain ⟨rg2, fa2, w1, w2, fb2, w3, w4⟩ := u_10
        obtain rfl : w1 = nI (tot f (allL uu f so rs rg)) := g2
        obtain rfl : w2 = nI (allL uu f so rs rg).length := g3
        obtain rfl : w3 = col + 1 := g5
        obtain rfl : w4 = mov + nI (tot f (allL uu f so rs rg)) := g6
        have hP : va_P (dC, dI) vwCl [(cx, .inr (1, [.ref ar, .ref hz, .ref ha, .int (col + 1), .int (mov + nI (tot f (allL uu f so rs rg)))])), (ar, .inl (cI, 8, .inl rg2)), (ha, .inr (0, [.ref wa, .int (nI uu), .int ob])), (wa, .inl (cI, n, .inl fa2)), (hz, .inr (0, [.ref wz, .int (nI (tot f (allL uu f so rs rg))), .int (nI (allL uu f so rs rg).length)])), (wz, .inl (cI, n, .inl fb2))] H := hP
        have hD : va_D A [(cx, .inr (1, [.ref ar, .ref hz, .ref ha, .int (col + 1), .int (mov + nI (tot f (allL uu f so rs rg)))])), (ar, .inl (cI, 8, .inl rg2)), (ha, .inr (0, [.ref wa, .int (nI uu), .int ob])), (wa, .inl (cI, n, .inl fa2)), (hz, .inr (0, [.ref wz, .int (nI (tot f (allL uu f so rs rg))), .int (nI (allL uu f so rs rg).length)])), (wz, .inl (cI, n, .inl fb2))] := hD
        refine lv_aload_n hx hb dX1_make_51 rfl (lv_at hl 0 rfl) ?_
        refine va_get (D := (dC, dI)) (ci := 1) (v := .ref hz) (C := RX1) (T := TX1) (N := 5) hx hb ht iX1 hown hK hP 0 rfl rfl 1 (by decide) (ht _ g_39) (fun _ h9 => h9) rfl dX1_make_52 ?_
        refine lv_iconst (v := 1) hx hb dX1_make_55 (by decide) ?_
        refine lv_iload_n hx hb dX1_make_56 rfl (lv_at hl 3 rfl) ?_
        refine lv_iadd hx hb dX1_make_57 ?_
        have hPc := hP.sub (ws' := [(hz, .inr (0, [.ref wz, .int (nI (tot f (allL uu f so rs rg))), .int (nI (allL uu f so rs rg).length)])), (wz, .inl (cI, n, .inl fb2))]) [4, 5] rfl
        have hKc := hK.sub (tys' := [(cI, .int)]) [0] rfl
        refine vp_callSi (va_runV (As := [.int (1 + (nI Fd))]) (rest := []) ⟨hx, hb, hml, hown, ht⟩ (ctX0_hasRoomFor l dC dI cI hz wz n (nI (tot f (allL uu f so rs rg))) (nI (allL uu f so rs rg).length) fb2 (1 + (nI Fd)) ) (cwV 1 ht gcX1_35 rfl rfl rfl (by decide +kernel) ⟨Nat.le_of_ble_eq_true rfl, Nat.le_of_ble_eq_true rfl⟩) ⟨pS.blind, va_recv hKc hPc (ci := 0) (q0 := 0) rfl rfl, pS.call hPc hKc hE⟩ rfl rfl hl.1 rfl (lv_room (Nat.le_of_ble_eq_true rfl)) dX1_make_58 ⟨Nat.le_of_ble_eq_true rfl, Nat.le_of_ble_eq_true rfl⟩).run (fun r_11 hr_11 => ?_)
        subst hr_11
        refine lv_if_ne (tgt := 74) hx hb dX1_make_61 (by decide) (fun h => absurd (by rw [hrI (by omega) (by omega) (by omega), if_pos hfit]) h) (fun _ => ?_)
        have hP9 := hP.sub (ws' := [(cx, .inr (1, [.ref ar, .ref hz, .ref ha, .int (col + 1), .int (mov + nI (tot f (allL uu f so rs rg)))])), (ar, .inl (cI, 8, .inl rg2)), (ha, .inr (0, [.ref wa, .int (nI uu), .int ob])), (wa, .inl (cI, n, .inl fa2)), (hz, .inr (0, [.ref wz, .int (nI (tot f (allL uu f so rs rg))), .int (nI (allL uu f so rs rg).length)])), (wz, .inl (cI, n, .inl fb2))]) [0, 1, 2, 3, 4, 5] rfl
        have hD9 := hD.sub (ws' := [(cx, .inr (1, [.ref ar, .ref hz, .ref ha, .int (col + 1), .int (mov + nI (tot f (allL uu f so rs rg)))])), (ar, .inl (cI, 8, .inl rg2)), (ha, .inr (0, [.ref wa, .int (nI uu), .int ob])), (wa, .inl (cI, n, .inl fa2)), (hz, .inr (0, [.ref wz, .int (nI (tot f (allL uu f so rs rg))), .int (nI (allL uu f so rs rg).length)])), (wz, .inl (cI, n, .inl fb2))]) [0, 1, 2, 3, 4, 5] (by decide) rfl
        have hK9 := hK.sub (tys' := [(cI, .int)]) [0] rfl
        exact vx_throwS (own := RX1) (cls := "java/lang/IllegalStateException") (names := ["java/lang/RuntimeException", "java/lang/Exception"]) hx hb hl9 hown (by decide +kernel) (by decide +kernel) (ht _ g_197) (ht _ g_8) hX.s44 (thS ht hE) toS hX.zU hX.zN hS (hl.1.trans hml.symm) dX1_make_64 dX1_make_67 dX1_make_68 dX1_make_70 dX1_make_73 (fun x hx => (hEx x hx).elim) (Nat.le_of_ble_eq_true rfl) (Nat.le_of_ble_eq_true rfl) (Nat.le_of_ble_eq_true rfl) (Nat.le_of_ble_eq_true rfl) hlocks (fun t ha hsz hk => ⟨(2, (rg2, (nI uu), ob, fa2, (nI (tot f (allL uu f so rs rg))), (nI (allL uu f so rs rg).length), fb2, (col + 1), (mov + nI (tot f (allL uu f so rs rg))))), ⟨rfl, rg2, fa2, fb2, g1, g4, rfl⟩, ⟨rfl, hP9.kept (fun k q hq => hk q.1 (hP9 k q hq).lt), va_K.moved ha hK9, hD9⟩, Nat.le_trans hS.1 hsz, fun q h1 h2 => (hk q (Nat.lt_of_lt_of_le h1 hS.1)).trans (hS.2.1 q h1 h2)⟩) hS.2.2 (Nat.le_of_ble_eq_true rfl) (Nat.le_of_ble_eq_true rfl)
