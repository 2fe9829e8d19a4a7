theorem sw_lk2 {x : Int32} {o0 o1 d : Int} (h0 : ¬ x = 0) (h1 : ¬ x = 1) : Op.lookupswitch.offset (#[(0, o0), (1, o1)] : Array (Int × Int)).toList d x.toInt = d := by
  have a0 : x.toInt ≠ 0 := tiNe h0
  have a1 : x.toInt ≠ 1 := tiNe h1
  show Op.lookupswitch.offset [(0, o0), (1, o1)] d x.toInt = d
  rw [Op.lookupswitch.offset_cons, if_neg (by first | exact fun h => a0 h.symm | exact a0), Op.lookupswitch.offset_cons, if_neg (by first | exact fun h => a1 h.symm | exact a1), Op.lookupswitch.offset_nil]
/-- sortAt's walk through the objects -/
def srI (u : Nat) (f so : Nat → Int32) (j fs nf : Nat) : Prop := (j = 0 ∧ fs = 0 ∧ nf = 0) ∨ (fs < j ∧ j ≤ nf ∧ fs < u ∧ so fs = 0 ∧ nf = fs + oF f fs + 1)
theorem srI.at {u n : Nat} {f so : Nat → Int32} {j fs nf : Nat} (hw : hWf u n f so) (h : srI u f so j fs nf) (hj : j < u) (e : j = nf) : so j = 0 ∧ srI u f so (j + 1) j (j + 1 + oF f j) := by
  have s0 : so j = 0 := by
    rcases h with ⟨h1, h2, h3⟩ | ⟨h1, h2, h3, h4, h5⟩
    · rw [h1]; exact hw.2.2.1 (by omega)
    · have := (hw.2.2.2.1 fs h3 h4).2.2.2.2 (by omega)
      rw [e, h5]; exact this
  exact ⟨s0, Or.inr ⟨by omega, by omega, hj, s0, by omega⟩⟩
theorem srI.in {u : Nat} {f so : Nat → Int32} {j fs nf : Nat} (h : srI u f so j fs nf) (e : ¬ j = nf) : srI u f so (j + 1) fs nf := by
  rcases h with ⟨h1, h2, h3⟩ | ⟨h1, h2, h3, h4, h5⟩
  · omega
  · exact Or.inr ⟨by omega, by omega, h3, h4, h5⟩
theorem srI.nf {u n : Nat} {f so : Nat → Int32} {j fs nf : Nat} (hw : hWf u n f so) (h : srI u f so j fs nf) : nf ≤ u ∧ fs ≤ u := by
  rcases h with ⟨h1, h2, h3⟩ | ⟨h1, h2, h3, h4, h5⟩
  · omega
  · have := (hw.2.2.2.1 fs h3 h4).2.2.1; omega
theorem srI.out {u n : Nat} {f so : Nat → Int32} {k fs nf : Nat} (hw : hWf u n f so) (h : srI u f so (k + 1) fs nf) (e : ¬ k = fs) : fs < k ∧ fs < u ∧ so fs = 0 ∧ ((oK f fs = 1 ∧ so k = 3) ∨ (oK f fs = 0 ∧ (so k = 1 ∨ so k = 2))) := by
  rcases h with ⟨h1, h2, h3⟩ | ⟨h1, h2, h3, h4, h5⟩
  · omega
  · have h6 := (hw.2.2.2.1 fs h3 h4).2.2.2.1 (k - fs) (by omega) (by omega)
    rw [show fs + (k - fs) = k by omega] at h6
    exact ⟨by omega, h3, h4, h6⟩
theorem srt3 {u n : Nat} {f so : Nat → Int32} {k fs nf : Nat} (hw : hWf u n f so) (h : srI u f so (k + 1) fs nf) (e : ¬ k = fs) (c : fX0_kindAt n f (nI fs) = 1) : so k = 3 := by
  obtain ⟨h1, h2, h3, h4⟩ := h.out hw e
  have hb := hw.1
  have hb2 := hw.2.1
  rw [kndI (by omega) (by omega) (hw.2.2.2.1 fs h2 h3).1 rfl] at c
  rcases h4 with ⟨-, q⟩ | ⟨q, -⟩
  · exact q
  · rw [q] at c; exact absurd c (by decide)
theorem srt2 {u n : Nat} {f so : Nat → Int32} {k fs nf : Nat} (hw : hWf u n f so) (hk : k < u) (h : srI u f so (k + 1) fs nf) (e : ¬ k = fs) (c : ¬ fX0_kindAt n f (nI fs) = 1) (d : ¬ fX1_isReference (fX0_wordAt n f (nI k)) = 0) : so k = 2 := by
  obtain ⟨h1, h2, h3, h4⟩ := h.out hw e
  have hb := hw.1
  have hb2 := hw.2.1
  rw [kndI (by omega) (by omega) (hw.2.2.2.1 fs h2 h3).1 rfl] at c
  rw [waI (by omega) (by omega)] at d
  rcases h4 with ⟨q, -⟩ | ⟨-, q | q⟩
  · rw [q] at c; exact absurd rfl c
  · exact absurd (isRefE (hw.2.2.2.2.2 k hk q)) d
  · exact q
theorem srt1 {u n : Nat} {f so : Nat → Int32} {k fs nf : Nat} (hw : hWf u n f so) (hk : k < u) (h : srI u f so (k + 1) fs nf) (e : ¬ k = fs) (c : ¬ fX0_kindAt n f (nI fs) = 1) (d : fX1_isReference (fX0_wordAt n f (nI k)) = 0) : so k = 1 := by
  obtain ⟨h1, h2, h3, h4⟩ := h.out hw e
  have hb := hw.1
  have hb2 := hw.2.1
  rw [kndI (by omega) (by omega) (hw.2.2.2.1 fs h2 h3).1 rfl] at c
  rw [waI (by omega) (by omega)] at d
  rcases h4 with ⟨q, -⟩ | ⟨-, q | q⟩
  · rw [q] at c; exact absurd rfl c
  · exact q
  · obtain ⟨p, p1, p2, p3⟩ := hw.2.2.2.2.1 k hk q
    rw [p3, isRefO (by omega)] at d; exact absurd d (by decide)
theorem holdsI {u : Nat} {x : Int32} (hu : u < 2 ^ 31) (h : ¬ fX0_holds (nI u) x = 0) : x = nI x.toNatClampNeg ∧ x.toNatClampNeg < u := by
  unfold fX0_holds at h
  by_cases h0 : x < 0
  · rw [if_pos h0] at h; exact absurd rfl h
  · rw [if_neg h0] at h
    by_cases h1 : nI u ≤ x
    · rw [if_pos h1] at h; exact absurd rfl h
    · obtain ⟨j, hj, e, -, e2, -⟩ := pk_mu h0 h1 hu
      rw [e2]; exact ⟨e, hj⟩
theorem hrI {n u F : Nat} (hn : n < 2 ^ 30) (hu : u ≤ n) (hF : F < 2 ^ 30) : fX0_hasRoomFor n (nI u) (1 + nI F) = if n < u + 1 + F then 0 else 1 := by
  unfold fX0_hasRoomFor
  rw [pk_sub hu, Int32.add_comm, nI_1]
  by_cases e : n < u + 1 + F
  · rw [if_pos e, if_pos (nI_lt (by omega) (by omega))]
  · rw [if_neg e, if_neg (nI_nlt (by omega) (by omega))]
def fX0_sortAt (so : Nat → Int32) (kp : Nat) : Int32 := so kp
set_option maxHeartbeats 4000000 in
set_option maxRecDepth 100000 in
theorem ctX0_sortAt (l : Launch) (dC : Nat → ClassId) (dI : Nat → Nat → Nat) (cI : ClassId) (ha : Nat) (wa : Nat) (n : Nat) (us : Int32) (ob : Int32) (f : Nat → Int32) (ip : Int32) (uu : Nat) (so : Nat → Int32) (kp : Nat) (hn : n < 2 ^ 31) (hwf : hWf uu n f so) (hus : us = nI uu) (hip : ip = nI kp) (hkp : kp < uu) : Met l yX0_sortAt (kX0_sortAt :: gT) ({ frames := 2, cells := 0, slots := 0, locals := 43 }) (va_Pc [.ref ha, .int ip] (pS (dC, dI) [(ha, .inr (0, [.ref wa, .int us, .int ob])), (wa, .inl (cI, n, .inl f))] [(cI, .int)])) (vp_Si (fun r => r = fX0_sortAt so kp)) 0 0 (fun _ => False) := by
  subst hus
  subst hip
  refine Met.ofW (cc := cX0_sortAt) (maxL := 5) (ret := (some .int)) (by decide) rfl ?_
  intro p e s m args below meth c s₁ B hml hv
  obtain ⟨rfl, hP, hK, hE⟩ := hv
  have hx := B.exec
  have hb := B.bytes
  have hr := B.returns
  have ht : ∀ w ∈ gT, w.before ([.ref ha, .int (nI kp)] : List Value).toArray s = true := fun w h => atoms_spec (ws := kX0_sortAt :: gT) B.pre w (List.mem_cons_of_mem _ h)
  have hown : s.vm.findClass RX0 = some m.cls := findClass_of_methodNamed B.named
  have hlocks := B.notSynchronized
  have hl := lv_entry ([.ref ha, .int (nI kp)]) (n := 5) (Nat.le_of_ble_eq_true rfl)
  rw [lg_entry_eq]
  generalize (lg_sl ([.ref ha, .int (nI kp)]) ++ List.replicate (5 - (lg_sl ([.ref ha, .int (nI kp)])).length) Slot.unset).toArray = ls at hl ⊢
  have hl : lv_has ls 5 [(0, .ref ha), (1, .int (nI kp))] := hl
  refine lv_iconst (v := 0) hx hb dX0_sortAt_0 (by decide) ?_
  refine lv_istore_n (lv' := [(2, .int 0), (0, .ref ha), (1, .int (nI kp))]) hx hb dX0_sortAt_1 rfl hl (by decide) rfl (fun ls hl => ?_)
  refine lv_iconst (v := 0) hx hb dX0_sortAt_2 (by decide) ?_
  refine lv_istore_n (lv' := [(3, .int 0), (2, .int 0), (0, .ref ha), (1, .int (nI kp))]) hx hb dX0_sortAt_3 rfl hl (by decide) rfl (fun ls hl => ?_)
  refine lv_iconst (v := 0) hx hb dX0_sortAt_4 (by decide) ?_
  refine lv_istore (lv' := [(4, .int 0), (3, .int 0), (2, .int 0), (0, .ref ha), (1, .int (nI kp))]) hx hb dX0_sortAt_5 hl (by decide) rfl (fun ls hl => ?_)
  have hb1 := hwf.1
  have hb2 := hwf.2.1
  have hloop : ∀ (d : Nat) (j : Nat) (fs : Nat) (nf : Nat), (hd : j + d = kp + 1) → (hsr : srI uu f so j fs nf) → ∀ (ls : Array Slot), lv_has ls 5 [(0, .ref ha), (1, .int (nI kp)), (2, .int (nI fs)), (3, .int (nI nf)), (4, .int (nI j))] → W p l e (headSpec (kX0_sortAt :: gT) ({ frames := 2, cells := 0, slots := 0, locals := 43 })).room s m ([.ref ha, .int (nI kp)] : List Value).toArray below meth c s.heap [] 0 0 (MQ below (vp_Si (fun r => r = fX0_sortAt so kp)) ([.ref ha, .int (nI kp)] : List Value).toArray s 0 0 (fun _ => False)) (F0 m 7 ls []) := by
    intro d
    induction d with
    | zero =>
      intro j fs nf hd hsr ls hl
      have hnf := hsr.nf hwf
      refine lv_iload hx hb dX0_sortAt_7 (lv_at hl 4 rfl) ?_
      refine lv_iload_n hx hb dX0_sortAt_9 rfl (lv_at hl 1 rfl) ?_
      refine lv_icmp_gt (tgt := 49) hx hb dX0_sortAt_10 (by decide) (fun _ => ?_) (fun h => absurd (nI_lt (by omega) (by omega)) h)
      have hjk : j = kp + 1 := by omega
      rw [hjk] at hsr
      refine lv_iload_n hx hb dX0_sortAt_49 rfl (lv_at hl 1 rfl) ?_
      refine lv_iload_n hx hb dX0_sortAt_50 rfl (lv_at hl 2 rfl) ?_
      refine lv_icmp_ne (tgt := 56) hx hb dX0_sortAt_51 (by decide) (fun c_1 => ?_) (fun c_1 => ?_)
      · refine lv_aload_n hx hb dX0_sortAt_56 rfl (lv_at hl 0 rfl) ?_
        refine lv_iload_n hx hb dX0_sortAt_57 rfl (lv_at hl 2 rfl) ?_
        have hPc := hP.sub (ws' := [(ha, .inr (0, [.ref wa, .int (nI uu), .int ob])), (wa, .inl (cI, n, .inl f))]) [0, 1] rfl
        have hKc := hK.sub (tys' := [(cI, .int)]) [0] rfl
        refine vp_callSi (va_runV (As := [.int (nI fs)]) (rest := []) ⟨hx, hb, hml, hown, ht⟩ (ctX0_kindAt l dC dI cI ha wa n (nI uu) ob f (nI fs) hn) (cwV 1 ht gcX0_29 rfl rfl rfl (by decide +kernel) ⟨Nat.le_of_ble_eq_true rfl, Nat.le_of_ble_eq_true rfl⟩) ⟨pS.blind, va_recv hKc hPc (ci := 0) (q0 := 0) rfl rfl, pS.call hPc hKc hE⟩ rfl rfl hl.1 rfl (lv_room (Nat.le_of_ble_eq_true rfl)) dX0_sortAt_58 ⟨Nat.le_of_ble_eq_true rfl, Nat.le_of_ble_eq_true rfl⟩).run (fun r_2 hr_2 => ?_)
        subst hr_2
        refine lv_iconst (v := 1) hx hb dX0_sortAt_61 (by decide) ?_
        refine lv_icmp_ne (tgt := 67) hx hb dX0_sortAt_62 (by decide) (fun c_3 => ?_) (fun c_3 => ?_)
        · refine lv_aload_n hx hb dX0_sortAt_67 rfl (lv_at hl 0 rfl) ?_
          refine lv_iload_n hx hb dX0_sortAt_68 rfl (lv_at hl 1 rfl) ?_
          have hPc := hP.sub (ws' := [(ha, .inr (0, [.ref wa, .int (nI uu), .int ob])), (wa, .inl (cI, n, .inl f))]) [0, 1] rfl
          have hKc := hK.sub (tys' := [(cI, .int)]) [0] rfl
          refine vp_callSi (va_runV (As := [.int (nI kp)]) (rest := []) ⟨hx, hb, hml, hown, ht⟩ (ctX0_wordAt l dC dI cI ha wa n (nI uu) ob f (nI kp) hn) (cwV 1 ht gcX0_22 rfl rfl rfl (by decide +kernel) ⟨Nat.le_of_ble_eq_true rfl, Nat.le_of_ble_eq_true rfl⟩) ⟨pS.blind, va_recv hKc hPc (ci := 0) (q0 := 0) rfl rfl, pS.call hPc hKc hE⟩ rfl rfl hl.1 rfl (lv_room (Nat.le_of_ble_eq_true rfl)) dX0_sortAt_69 ⟨Nat.le_of_ble_eq_true rfl, Nat.le_of_ble_eq_true rfl⟩).run (fun r_4 hr_4 => ?_)
          subst hr_4
          refine vp_callSi (va_runSN (As := [.int (fX0_wordAt n f (nI kp))]) (rest := []) ⟨hx, hb, hml, hown, ht⟩ (ctX1_isReference l (fX0_wordAt n f (nI kp))) ⟨va_cnB 1 ht gcX0_32 rfl rfl rfl hE.n70 (ht _ g_1) (by decide +kernel) ⟨Nat.le_of_ble_eq_true rfl, Nat.le_of_ble_eq_true rfl⟩, ht _ g_71, trivial⟩ ⟨pT.blind, pT.call⟩ rfl rfl hl.1 rfl (lv_room (Nat.le_of_ble_eq_true rfl)) dX0_sortAt_72 ⟨Nat.le_of_ble_eq_true rfl, Nat.le_of_ble_eq_true rfl⟩).run (fun r_5 hr_5 => ?_)
          subst hr_5
          refine lv_if_eq (tgt := 82) hx hb dX0_sortAt_75 (by decide) (fun c_6 => ?_) (fun c_6 => ?_)
          · refine lv_iconst (v := 1) hx hb dX0_sortAt_82 (by decide) ?_
            have hkf : ¬ kp = fs := fun q => c_1 (by rw [q])
            exact W.iret (v := 1) hx hb hr (fun t ht hW => ⟨_, rfl, (srt1 hwf hkp hsr hkf c_3 c_6).symm, ht⟩) (fun q hq => nomatch hq) dX0_sortAt_83
          · refine lv_iconst (v := 2) hx hb dX0_sortAt_78 (by decide) ?_
            refine lv_goto (tgt := 83) hx hb dX0_sortAt_79 (by decide) ?_
            have hkf : ¬ kp = fs := fun q => c_1 (by rw [q])
            exact W.iret (v := 2) hx hb hr (fun t ht hW => ⟨_, rfl, (srt2 hwf hkp hsr hkf c_3 c_6).symm, ht⟩) (fun q hq => nomatch hq) dX0_sortAt_83
        · refine lv_iconst (v := 3) hx hb dX0_sortAt_65 (by decide) ?_
          have hkf : ¬ kp = fs := fun q => c_1 (by rw [q])
          exact W.iret (v := 3) hx hb hr (fun t ht hW => ⟨_, rfl, (srt3 hwf hsr hkf c_3).symm, ht⟩) (fun q hq => nomatch hq) dX0_sortAt_66
      · refine lv_iconst (v := 0) hx hb dX0_sortAt_54 (by decide) ?_
        have hkf : kp = fs := (nI_eq (by omega) (by omega)).mp c_1
        have h09 : so kp = 0 := by rcases hsr with ⟨q, -, -⟩ | ⟨-, -, -, q, -⟩; exact absurd q (Nat.succ_ne_zero _); rw [hkf]; exact q
        exact W.iret (v := 0) hx hb hr (fun t ht hW => ⟨_, rfl, h09.symm, ht⟩) (fun q hq => nomatch hq) dX0_sortAt_55
    | succ d ih =>
      intro j fs nf hd hsr ls hl
      have hnf := hsr.nf hwf
      refine lv_iload hx hb dX0_sortAt_7 (lv_at hl 4 rfl) ?_
      refine lv_iload_n hx hb dX0_sortAt_9 rfl (lv_at hl 1 rfl) ?_
      refine lv_icmp_gt (tgt := 49) hx hb dX0_sortAt_10 (by decide) (fun h => absurd h (nI_nlt (by omega) (by omega))) (fun _ => ?_)
      refine lv_iload hx hb dX0_sortAt_13 (lv_at hl 4 rfl) ?_
      refine lv_aload_n hx hb dX0_sortAt_15 rfl (lv_at hl 0 rfl) ?_
      refine va_get (D := (dC, dI)) (ci := 0) (v := .int (nI uu)) (C := RX0) (T := TX0) (N := 3) hx hb ht iX0 hown hK hP 0 rfl rfl 1 (by decide) (ht _ g_26) (fun _ h9 => h9) rfl dX0_sortAt_16 ?_
      refine lv_icmp_ge (tgt := 49) hx hb dX0_sortAt_19 (by decide) (fun h => absurd h (nI_ge (by omega) (by omega))) (fun _ => ?_)
      refine lv_iload hx hb dX0_sortAt_22 (lv_at hl 4 rfl) ?_
      refine lv_iload_n hx hb dX0_sortAt_24 rfl (lv_at hl 3 rfl) ?_
      refine lv_icmp_ne (tgt := 43) hx hb dX0_sortAt_25 (by decide) (fun c_7 => ?_) (fun c_7 => ?_)
      · obtain ⟨x_8, ex_8⟩ : ∃ y : Int32, y = nI j + 1 := ⟨_, rfl⟩
        refine lv_iinc (v := x_8) (lv' := [(4, .int x_8), (0, .ref ha), (1, .int (nI kp)), (2, .int (nI fs)), (3, .int (nI nf))]) hx hb dX0_sortAt_43 hl (k := 4) rfl (by rw [ex_8]; rfl) (by decide) rfl (fun ls hl => ?_)
        refine lv_goto (tgt := 7) hx hb dX0_sortAt_46 (by decide) ?_
        rw [ex_8, nI_1] at hl
        exact ih (j + 1) fs nf (by omega) (hsr.in (fun q => c_7 (by rw [q]))) ls (lv_sub hl [1, 2, 3, 4, 0] rfl)
      · have hq9 := hsr.at hwf (by omega) ((nI_eq (by omega) (by omega)).mp c_7)
        have e2 : nI j + 1 + fX0_fieldsAt n f (nI j) = nI (j + 1 + oF f j) := by rw [fldI hn (by omega) (hwf.2.2.2.1 j (by omega) hq9.1).1 rfl, nI_1, nI_add]
        refine lv_iload hx hb dX0_sortAt_28 (lv_at hl 4 rfl) ?_
        refine lv_istore_n (lv' := [(2, .int (nI j)), (0, .ref ha), (1, .int (nI kp)), (3, .int (nI nf)), (4, .int (nI j))]) hx hb dX0_sortAt_30 rfl hl (by decide) rfl (fun ls hl => ?_)
        refine lv_iload hx hb dX0_sortAt_31 (lv_at hl 4 rfl) ?_
        refine lv_iconst (v := 1) hx hb dX0_sortAt_33 (by decide) ?_
        refine lv_iadd hx hb dX0_sortAt_34 ?_
        refine lv_aload_n hx hb dX0_sortAt_35 rfl (lv_at hl 1 rfl) ?_
        refine lv_iload hx hb dX0_sortAt_36 (lv_at hl 4 rfl) ?_
        have hPc := hP.sub (ws' := [(ha, .inr (0, [.ref wa, .int (nI uu), .int ob])), (wa, .inl (cI, n, .inl f))]) [0, 1] rfl
        have hKc := hK.sub (tys' := [(cI, .int)]) [0] rfl
        refine vp_callSi (va_runV (As := [.int (nI j)]) (rest := [.int ((nI j) + 1)]) ⟨hx, hb, hml, hown, ht⟩ (ctX0_fieldsAt l dC dI cI ha wa n (nI uu) ob f (nI j) hn) (cwV 1 ht gcX0_26 rfl rfl rfl (by decide +kernel) ⟨Nat.le_of_ble_eq_true rfl, Nat.le_of_ble_eq_true rfl⟩) ⟨pS.blind, va_recv hKc hPc (ci := 0) (q0 := 0) rfl rfl, pS.call hPc hKc hE⟩ rfl rfl hl.1 rfl (lv_room (Nat.le_of_ble_eq_true rfl)) dX0_sortAt_38 ⟨Nat.le_of_ble_eq_true rfl, Nat.le_of_ble_eq_true rfl⟩).run (fun r_9 hr_9 => ?_)
        subst hr_9
        refine lv_iadd hx hb dX0_sortAt_41 ?_
        refine lv_istore_n (lv' := [(3, .int (((nI j) + 1) + (fX0_fieldsAt n f (nI j)))), (2, .int (nI j)), (0, .ref ha), (1, .int (nI kp)), (4, .int (nI j))]) hx hb dX0_sortAt_42 rfl hl (by decide) rfl (fun ls hl => ?_)
        obtain ⟨x_10, ex_10⟩ : ∃ y : Int32, y = nI j + 1 := ⟨_, rfl⟩
        refine lv_iinc (v := x_10) (lv' := [(4, .int x_10), (3, .int (((nI j) + 1) + (fX0_fieldsAt n f (nI j)))), (2, .int (nI j)), (0, .ref ha), (1, .int (nI kp))]) hx hb dX0_sortAt_43 hl (k := 4) rfl (by rw [ex_10]; rfl) (by decide) rfl (fun ls hl => ?_)
        refine lv_goto (tgt := 7) hx hb dX0_sortAt_46 (by decide) ?_
        rw [e2] at hl
        rw [ex_10, nI_1] at hl
        exact ih (j + 1) j (j + 1 + oF f j) (by omega) hq9.2 ls (lv_sub hl [3, 4, 2, 1, 0] rfl)
  exact hloop (kp + 1) 0 0 0 (by omega) (Or.inl ⟨rfl, rfl, rfl⟩) ls (lv_sub hl [3, 4, 2, 1, 0] rfl)
def fX1_look (n : Nat) (us : Int32) (f : Nat → Int32) (so : Nat → Int32) (ip : Int32) (iq : Int32) : Nat × Int32 × Unit := (if fX0_holds us ip = 0 then (3, 0, ()) else (if iq = 0 then (0, fX0_sortAt so ip.toNatClampNeg, ()) else (if iq = 1 then (if fX0_sortAt so ip.toNatClampNeg = 1 then (0, fX1_content (fX0_wordAt n f ip), ()) else (if fX0_sortAt so ip.toNatClampNeg = 2 then (0, fX1_content (fX0_wordAt n f ip), ()) else (0, fX0_wordAt n f ip, ()))) else (3, 0, ()))))
set_option maxHeartbeats 4000000 in
set_option maxRecDepth 100000 in
theorem ctX1_look (l : Launch) (hl9 : l.stackTraces = false) (dC : Nat → ClassId) (dI : Nat → Nat → Nat) (cI : ClassId) (sa : Nat → Nat) (cx : Nat) (ar : Nat) (ha : Nat) (wa : Nat) (hz : Nat) (wz : Nat) (n : Nat) (col : Int32) (mov : Int32) (rg : Nat → Int32) (us : Int32) (ob : Int32) (f : Nat → Int32) (us2 : Int32) (ob2 : Int32) (f2 : Nat → Int32) (ip : Int32) (iq : Int32) (uu : Nat) (so : Nat → Int32) (sz : Nat) (hn : n < 2 ^ 31) (hwf : hWf uu n f so) (hus : us = nI uu) : vx_Met l yX1_look (kX1_look :: gT) ({ frames := 7, cells := 5, slots := 30, locals := 120 }) (va_Pc [.ref cx, .int ip, .int iq] (pR (dC, dI) [(cx, .inr (1, [.ref ar, .ref ha, .ref hz, .int col, .int mov])), (ar, .inl (cI, 8, .inl rg)), (ha, .inr (0, [.ref wa, .int us, .int ob])), (wa, .inl (cI, n, .inl f)), (hz, .inr (0, [.ref wz, .int us2, .int ob2])), (wz, .inl (cI, n, .inl f2))] [(cI, .int)] sa sz)) (va_Qi (fun (r : Int32) (u : Unit) => fX1_look n us f so ip iq = (0, r, u)) (fun _ _ => True) (va_A [] sz)) (vx_X (fun v : Nat × Unit => fX1_look n us f so ip iq = (v.1, 0, v.2) ∧ v.1 ≠ 0) (fun E v _ => E = exN v.1) (va_A [] sz)) 5 30 (va_A [] sz) := by
  refine vx_ofW (cc := cX1_look) (maxL := 5) (ret := (some .int)) (by decide) rfl ?_
  intro p e s m args below meth c s₁ B hml hEx hv
  obtain ⟨rfl, hsz, hP, hK, hE, hX⟩ := hv
  have hx := B.exec
  have hb := B.bytes
  have hr := B.returns
  have ht : ∀ w ∈ gT, w.before ([.ref cx, .int ip, .int iq] : List Value).toArray s = true := fun w h => atoms_spec (ws := kX1_look :: gT) B.pre w (List.mem_cons_of_mem _ h)
  have hown : s.vm.findClass RX1 = some m.cls := findClass_of_methodNamed B.named
  have hlocks := B.notSynchronized
  subst hsz
  generalize hAe : va_A [] s.heap.size = A at hX ⊢
  have hA : ∀ q : Nat, s.heap.size ≤ q → A q := fun q h => by rw [← hAe]; exact Or.inr h
  have hS : va_S A s.heap s.heap [] := va_S.rf
  have hl := lv_entry ([.ref cx, .int ip, .int iq]) (n := 5) (Nat.le_of_ble_eq_true rfl)
  rw [lg_entry_eq]
  generalize (lg_sl ([.ref cx, .int ip, .int iq]) ++ List.replicate (5 - (lg_sl ([.ref cx, .int ip, .int iq])).length) Slot.unset).toArray = ls at hl ⊢
  have hl : lv_has ls 5 [(0, .ref cx), (1, .int ip), (2, .int iq)] := hl
  refine lv_aload_n hx hb dX1_look_0 rfl (lv_at hl 0 rfl) ?_
  refine va_get (D := (dC, dI)) (ci := 1) (v := .ref ha) (C := RX1) (T := TX1) (N := 5) hx hb ht iX1 hown hK hP 0 rfl rfl 1 (by decide) (ht _ g_39) (fun _ h9 => h9) rfl dX1_look_1 ?_
  refine lv_iload_n hx hb dX1_look_4 rfl (lv_at hl 1 rfl) ?_
  have hPc := hP.sub (ws' := [(ha, .inr (0, [.ref wa, .int us, .int ob])), (wa, .inl (cI, n, .inl f))]) [2, 3] rfl
  have hKc := hK.sub (tys' := [(cI, .int)]) [0] rfl
  refine vp_callSi (va_runV (As := [.int ip]) (rest := []) ⟨hx, hb, hml, hown, ht⟩ (ctX0_holds l dC dI cI ha wa n us ob f ip ) (cwV 1 ht gcX1_96 rfl rfl rfl (by decide +kernel) ⟨Nat.le_of_ble_eq_true rfl, Nat.le_of_ble_eq_true rfl⟩) ⟨pS.blind, va_recv hKc hPc (ci := 0) (q0 := 0) rfl rfl, pS.call hPc hKc hE⟩ rfl rfl hl.1 rfl (lv_room (Nat.le_of_ble_eq_true rfl)) dX1_look_5 ⟨Nat.le_of_ble_eq_true rfl, Nat.le_of_ble_eq_true rfl⟩).run (fun r_1 hr_1 => ?_)
  subst hr_1
  refine lv_if_ne (tgt := 21) hx hb dX1_look_8 (by decide) (fun c_2 => ?_) (fun c_2 => ?_)
  · refine lv_aload_n hx hb dX1_look_21 rfl (lv_at hl 0 rfl) ?_
    refine va_get (D := (dC, dI)) (ci := 1) (v := .ref ha) (C := RX1) (T := TX1) (N := 5) hx hb ht iX1 hown hK hP 0 rfl rfl 1 (by decide) (ht _ g_39) (fun _ h9 => h9) rfl dX1_look_22 ?_
    refine lv_iload_n hx hb dX1_look_25 rfl (lv_at hl 1 rfl) ?_
    have hho := holdsI (u := uu) (x := ip) (by have := hwf.1; have := hwf.2.1; omega) (by rw [← hus]; exact c_2)
    have hPc := hP.sub (ws' := [(ha, .inr (0, [.ref wa, .int us, .int ob])), (wa, .inl (cI, n, .inl f))]) [2, 3] rfl
    have hKc := hK.sub (tys' := [(cI, .int)]) [0] rfl
    refine vp_callSi (va_runV (As := [.int ip]) (rest := []) ⟨hx, hb, hml, hown, ht⟩ (ctX0_sortAt l dC dI cI ha wa n us ob f ip uu so ip.toNatClampNeg hn hwf hus hho.1 hho.2) (cwV 1 ht gcX1_101 rfl rfl rfl (by decide +kernel) ⟨Nat.le_of_ble_eq_true rfl, Nat.le_of_ble_eq_true rfl⟩) ⟨pS.blind, va_recv hKc hPc (ci := 0) (q0 := 0) rfl rfl, pS.call hPc hKc hE⟩ rfl rfl hl.1 rfl (lv_room (Nat.le_of_ble_eq_true rfl)) dX1_look_26 ⟨Nat.le_of_ble_eq_true rfl, Nat.le_of_ble_eq_true rfl⟩).run (fun r_3 hr_3 => ?_)
    subst hr_3
    refine lv_istore_n (lv' := [(3, .int (fX0_sortAt so ip.toNatClampNeg)), (0, .ref cx), (1, .int ip), (2, .int iq)]) hx hb dX1_look_29 rfl hl (by decide) rfl (fun ls hl => ?_)
    refine lv_aload_n hx hb dX1_look_30 rfl (lv_at hl 1 rfl) ?_
    refine va_get (D := (dC, dI)) (ci := 1) (v := .ref ha) (C := RX1) (T := TX1) (N := 5) hx hb ht iX1 hown hK hP 0 rfl rfl 1 (by decide) (ht _ g_39) (fun _ h9 => h9) rfl dX1_look_31 ?_
    refine lv_iload_n hx hb dX1_look_34 rfl (lv_at hl 2 rfl) ?_
    have hPc := hP.sub (ws' := [(ha, .inr (0, [.ref wa, .int us, .int ob])), (wa, .inl (cI, n, .inl f))]) [2, 3] rfl
    have hKc := hK.sub (tys' := [(cI, .int)]) [0] rfl
    refine vp_callSi (va_runV (As := [.int ip]) (rest := []) ⟨hx, hb, hml, hown, ht⟩ (ctX0_wordAt l dC dI cI ha wa n us ob f ip hn) (cwV 1 ht gcX1_81 rfl rfl rfl (by decide +kernel) ⟨Nat.le_of_ble_eq_true rfl, Nat.le_of_ble_eq_true rfl⟩) ⟨pS.blind, va_recv hKc hPc (ci := 0) (q0 := 0) rfl rfl, pS.call hPc hKc hE⟩ rfl rfl hl.1 rfl (lv_room (Nat.le_of_ble_eq_true rfl)) dX1_look_35 ⟨Nat.le_of_ble_eq_true rfl, Nat.le_of_ble_eq_true rfl⟩).run (fun r_4 hr_4 => ?_)
    subst hr_4
    refine lv_istore (lv' := [(4, .int (fX0_wordAt n f ip)), (3, .int (fX0_sortAt so ip.toNatClampNeg)), (0, .ref cx), (1, .int ip), (2, .int iq)]) hx hb dX1_look_38 hl (by decide) rfl (fun ls hl => ?_)
    refine lv_iload_n hx hb dX1_look_40 rfl (lv_at hl 4 rfl) ?_
    by_cases c_5 : iq = 0
    · refine lv_lookup (tgt := 68) hx hb dX1_look_41 (by decide) (by rw [c_5]) (by decide) ?_
      refine lv_iload_n hx hb dX1_look_68 rfl (lv_at hl 1 rfl) ?_
      refine vx_ret ?_
      refine W.widen (k := 5) (n := 30) (Nat.le_of_ble_eq_true rfl) (Nat.le_of_ble_eq_true rfl) ?_
      exact W.iret (v := fX0_sortAt so ip.toNatClampNeg) hx hb hr (fun t ht hW => ⟨⟨_, (), rfl, (by simp only [fX1_look, if_neg c_2, if_pos c_5]), trivial⟩, hS.F ht⟩) hS.2.2 dX1_look_69
    · by_cases c_6 : iq = 1
      · refine lv_lookup (tgt := 70) hx hb dX1_look_41 (by decide) (by rw [c_6]) (by decide) ?_
        refine lv_iload_n hx hb dX1_look_70 rfl (lv_at hl 1 rfl) ?_
        refine lv_iconst (v := 1) hx hb dX1_look_71 (by decide) ?_
        refine lv_icmp_eq (tgt := 80) hx hb dX1_look_72 (by decide) (fun c_7 => ?_) (fun c_7 => ?_)
        · refine lv_iload hx hb dX1_look_80 (lv_at hl 0 rfl) ?_
          refine vp_callSi (va_runS (As := [.int (fX0_wordAt n f ip)]) (rest := []) ⟨hx, hb, hml, hown, ht⟩ (ctX1_content l (fX0_wordAt n f ip)) (cwS 1 ht gcX1_58 rfl rfl rfl (by decide +kernel) ⟨Nat.le_of_ble_eq_true rfl, Nat.le_of_ble_eq_true rfl⟩) ⟨pT.blind, pT.call⟩ rfl rfl hl.1 rfl (lv_room (Nat.le_of_ble_eq_true rfl)) dX1_look_82 ⟨Nat.le_of_ble_eq_true rfl, Nat.le_of_ble_eq_true rfl⟩).run (fun r_8 hr_8 => ?_)
          subst hr_8
          refine lv_goto (tgt := 90) hx hb dX1_look_85 (by decide) ?_
          refine vx_ret ?_
          refine W.widen (k := 5) (n := 30) (Nat.le_of_ble_eq_true rfl) (Nat.le_of_ble_eq_true rfl) ?_
          exact W.iret (v := fX1_content (fX0_wordAt n f ip)) hx hb hr (fun t ht hW => ⟨⟨_, (), rfl, (by simp only [fX1_look, if_neg c_2, if_neg c_5, if_pos c_6, if_pos c_7]), trivial⟩, hS.F ht⟩) hS.2.2 dX1_look_90
        · refine lv_iload_n hx hb dX1_look_75 rfl (lv_at hl 1 rfl) ?_
          refine lv_iconst (v := 2) hx hb dX1_look_76 (by decide) ?_
          refine lv_icmp_ne (tgt := 88) hx hb dX1_look_77 (by decide) (fun c_9 => ?_) (fun c_9 => ?_)
          · refine lv_iload hx hb dX1_look_88 (lv_at hl 0 rfl) ?_
            refine vx_ret ?_
            refine W.widen (k := 5) (n := 30) (Nat.le_of_ble_eq_true rfl) (Nat.le_of_ble_eq_true rfl) ?_
            exact W.iret (v := fX0_wordAt n f ip) hx hb hr (fun t ht hW => ⟨⟨_, (), rfl, (by simp only [fX1_look, if_neg c_2, if_neg c_5, if_pos c_6, if_neg c_7, if_neg c_9]), trivial⟩, hS.F ht⟩) hS.2.2 dX1_look_90
          · refine lv_iload hx hb dX1_look_80 (lv_at hl 0 rfl) ?_
            refine vp_callSi (va_runS (As := [.int (fX0_wordAt n f ip)]) (rest := []) ⟨hx, hb, hml, hown, ht⟩ (ctX1_content l (fX0_wordAt n f ip)) (cwS 1 ht gcX1_58 rfl rfl rfl (by decide +kernel) ⟨Nat.le_of_ble_eq_true rfl, Nat.le_of_ble_eq_true rfl⟩) ⟨pT.blind, pT.call⟩ rfl rfl hl.1 rfl (lv_room (Nat.le_of_ble_eq_true rfl)) dX1_look_82 ⟨Nat.le_of_ble_eq_true rfl, Nat.le_of_ble_eq_true rfl⟩).run (fun r_10 hr_10 => ?_)
            subst hr_10
            refine lv_goto (tgt := 90) hx hb dX1_look_85 (by decide) ?_
            refine vx_ret ?_
            refine W.widen (k := 5) (n := 30) (Nat.le_of_ble_eq_true rfl) (Nat.le_of_ble_eq_true rfl) ?_
            exact W.iret (v := fX1_content (fX0_wordAt n f ip)) hx hb hr (fun t ht hW => ⟨⟨_, (), rfl, (by simp only [fX1_look, if_neg c_2, if_neg c_5, if_pos c_6, if_neg c_7, if_pos c_9]), trivial⟩, hS.F ht⟩) hS.2.2 dX1_look_90
      · refine lv_lookup (tgt := 91) hx hb dX1_look_41 (by decide) (sw_lk2 c_5 c_6) (by decide) ?_
        exact vx_throwS (own := RX1) (cls := "java/lang/IndexOutOfBoundsException") (names := ["java/lang/RuntimeException", "java/lang/Exception"]) hx hb hl9 hown (by decide +kernel) (by decide +kernel) (ht _ g_255) (ht _ g_9) hX.s104 (thI ht hE) toI hX.zU hX.zN hS (hl.1.trans hml.symm) dX1_look_91 dX1_look_94 dX1_look_95 dX1_look_97 dX1_look_100 (fun x hx => (hEx x hx).elim) (Nat.le_of_ble_eq_true rfl) (Nat.le_of_ble_eq_true rfl) (Nat.le_of_ble_eq_true rfl) (Nat.le_of_ble_eq_true rfl) hlocks (fun t ha hsz hk => ⟨(3, ()), ⟨(by simp only [fX1_look, if_neg c_2, if_neg c_5, if_neg c_6]), Nat.succ_ne_zero _⟩, rfl, Nat.le_trans hS.1 hsz, fun q h1 h2 => (hk q (Nat.lt_of_lt_of_le h1 hS.1)).trans (hS.2.1 q h1 h2)⟩) hS.2.2 (Nat.le_of_ble_eq_true rfl) (Nat.le_of_ble_eq_true rfl)
  · exact vx_throwS (own := RX1) (cls := "java/lang/IndexOutOfBoundsException") (names := ["java/lang/RuntimeException", "java/lang/Exception"]) hx hb hl9 hown (by decide +kernel) (by decide +kernel) (ht _ g_255) (ht _ g_9) hX.s99 (thI ht hE) toI hX.zU hX.zN hS (hl.1.trans hml.symm) dX1_look_11 dX1_look_14 dX1_look_15 dX1_look_17 dX1_look_20 (fun x hx => (hEx x hx).elim) (Nat.le_of_ble_eq_true rfl) (Nat.le_of_ble_eq_true rfl) (Nat.le_of_ble_eq_true rfl) (Nat.le_of_ble_eq_true rfl) hlocks (fun t ha hsz hk => ⟨(3, ()), ⟨(by simp only [fX1_look, if_pos c_2]), Nat.succ_ne_zero _⟩, rfl, Nat.le_trans hS.1 hsz, fun q h1 h2 => (hk q (Nat.lt_of_lt_of_le h1 hS.1)).trans (hS.2.1 q h1 h2)⟩) hS.2.2 (Nat.le_of_ble_eq_true rfl) (Nat.le_of_ble_eq_true rfl)
abbrev atX1_collect (dC : Nat → ClassId) (dI : Nat → Nat → Nat) (cI : ClassId) (A : Nat → Prop) (cx : Nat) (ar : Nat) (ha : Nat) (wa : Nat) (hz : Nat) (wz : Nat) (n : Nat) (us : Int32) (ob : Int32) (u : (Nat → Int32) × (Nat → Int32) × Int32 × Int32 × (Nat → Int32) × Int32 × Int32) (t : State) : Prop := va_P (dC, dI) vwCl [(cx, .inr (1, [.ref ar, .ref hz, .ref ha, .int u.2.2.2.2.2.1, .int u.2.2.2.2.2.2])), (ar, .inl (cI, 8, .inl u.1)), (ha, .inr (0, [.ref wa, .int us, .int ob])), (wa, .inl (cI, n, .inl u.2.1)), (hz, .inr (0, [.ref wz, .int u.2.2.1, .int u.2.2.2.1])), (wz, .inl (cI, n, .inl u.2.2.2.2.1))] t.heap ∧ va_K (dC, dI) vwCl [(cI, .int)] t ∧ va_D A [(cx, .inr (1, [.ref ar, .ref hz, .ref ha, .int u.2.2.2.2.2.1, .int u.2.2.2.2.2.2])), (ar, .inl (cI, 8, .inl u.1)), (ha, .inr (0, [.ref wa, .int us, .int ob])), (wa, .inl (cI, n, .inl u.2.1)), (hz, .inr (0, [.ref wz, .int u.2.2.1, .int u.2.2.2.1])), (wz, .inl (cI, n, .inl u.2.2.2.2.1))]
set_option maxHeartbeats 4000000 in
set_option maxRecDepth 100000 in
theorem ctX1_collect (l : Launch) (dC : Nat → ClassId) (dI : Nat → Nat → Nat) (cI : ClassId) (cx : Nat) (ar : Nat) (ha : Nat) (wa : Nat) (hz : Nat) (wz : Nat) (n : Nat) (col : Int32) (mov : Int32) (rg : Nat → Int32) (us : Int32) (ob : Int32) (f : Nat → Int32) (us2 : Int32) (ob2 : Int32) (f2 : Nat → Int32) (uu : Nat) (so : Nat → Int32) (rs : Nat → Int32) (sz : Nat) (hn : n < 2 ^ 31) (hwf : hWf uu n f so) (hrg : rgOK uu so rs rg) : Met l yX1_collect (kX1_collect :: gT) ({ frames := 6, cells := 0, slots := 0, locals := 150 }) (va_Pc [.ref cx] (pM (dC, dI) [(cx, .inr (1, [.ref ar, .ref ha, .ref hz, .int col, .int mov])), (ar, .inl (cI, 8, .inl rg)), (ha, .inr (0, [.ref wa, .int us, .int ob])), (wa, .inl (cI, n, .inl f)), (hz, .inr (0, [.ref wz, .int us2, .int ob2])), (wz, .inl (cI, n, .inl f2))] [(cI, .int)] sz)) (va_Qi (fun (r : Int32) (u : (Nat → Int32) × (Nat → Int32) × Int32 × Int32 × (Nat → Int32) × Int32 × Int32) => r = nI (tot f (allL uu f so rs rg)) ∧ rgI f rs rg u.1 8 (allL uu f so rs rg) ∧ u.2.2.1 = nI (tot f (allL uu f so rs rg)) ∧ u.2.2.2.1 = nI (allL uu f so rs rg).length ∧ scI uu n f so (allL uu f so rs rg) (tot f (allL uu f so rs rg)) u.2.2.2.2.1 ∧ u.2.2.2.2.2.1 = col + 1 ∧ u.2.2.2.2.2.2 = mov + nI (tot f (allL uu f so rs rg))) (atX1_collect dC dI cI (va_A [(cx, .inr (1, [.ref ar, .ref ha, .ref hz, .int col, .int mov])), (ar, .inl (cI, 8, .inl rg)), (ha, .inr (0, [.ref wa, .int us, .int ob])), (wa, .inl (cI, n, .inl f)), (hz, .inr (0, [.ref wz, .int us2, .int ob2])), (wz, .inl (cI, n, .inl f2))] sz) cx ar ha wa hz wz n us ob) (va_A [(cx, .inr (1, [.ref ar, .ref ha, .ref hz, .int col, .int mov])), (ar, .inl (cI, 8, .inl rg)), (ha, .inr (0, [.ref wa, .int us, .int ob])), (wa, .inl (cI, n, .inl f)), (hz, .inr (0, [.ref wz, .int us2, .int ob2])), (wz, .inl (cI, n, .inl f2))] sz)) 0 0 (va_A [(cx, .inr (1, [.ref ar, .ref ha, .ref hz, .int col, .int mov])), (ar, .inl (cI, 8, .inl rg)), (ha, .inr (0, [.ref wa, .int us, .int ob])), (wa, .inl (cI, n, .inl f)), (hz, .inr (0, [.ref wz, .int us2, .int ob2])), (wz, .inl (cI, n, .inl f2))] sz) := by
  refine Met.ofW (cc := cX1_collect) (maxL := 1) (ret := (some .int)) (by decide) rfl ?_
  intro p e s m args below meth c s₁ B hml hv
  obtain ⟨rfl, hsz, hP, hK, hD0, hE⟩ := hv
  have hx := B.exec
  have hb := B.bytes
  have hr := B.returns
  have ht : ∀ w ∈ gT, w.before ([.ref cx] : List Value).toArray s = true := fun w h => atoms_spec (ws := kX1_collect :: gT) B.pre w (List.mem_cons_of_mem _ h)
  have hown : s.vm.findClass RX1 = some m.cls := findClass_of_methodNamed B.named
  have hlocks := B.notSynchronized
  subst hsz
  have hD := hD0.self (sz := s.heap.size)
  generalize hAe : va_A [(cx, .inr (1, [.ref ar, .ref ha, .ref hz, .int col, .int mov])), (ar, .inl (cI, 8, .inl rg)), (ha, .inr (0, [.ref wa, .int us, .int ob])), (wa, .inl (cI, n, .inl f)), (hz, .inr (0, [.ref wz, .int us2, .int ob2])), (wz, .inl (cI, n, .inl f2))] s.heap.size = A at hD ⊢
  have hA : ∀ q : Nat, s.heap.size ≤ q → A q := fun q h => by rw [← hAe]; exact Or.inr h
  have hS : va_S A s.heap s.heap [] := va_S.rf
  have hl := lv_entry ([.ref cx]) (n := 1) (Nat.le_of_ble_eq_true rfl)
  rw [lg_entry_eq]
  generalize (lg_sl ([.ref cx]) ++ List.replicate (1 - (lg_sl ([.ref cx])).length) Slot.unset).toArray = ls at hl ⊢
  have hl : lv_has ls 1 [(0, .ref cx)] := hl
  refine lv_aload_n hx hb dX1_collect_0 rfl (lv_at hl 0 rfl) ?_
  have hPc := hP.sub (ws' := [(cx, .inr (1, [.ref ar, .ref ha, .ref hz, .int col, .int mov])), (ar, .inl (cI, 8, .inl rg)), (ha, .inr (0, [.ref wa, .int us, .int ob])), (wa, .inl (cI, n, .inl f)), (hz, .inr (0, [.ref wz, .int us2, .int ob2])), (wz, .inl (cI, n, .inl f2))]) [0, 1, 2, 3, 4, 5] rfl
  have hKc := hK.sub (tys' := [(cI, .int)]) [0] rfl
  have hDc := hD.sub (ws' := [(cx, .inr (1, [.ref ar, .ref ha, .ref hz, .int col, .int mov])), (ar, .inl (cI, 8, .inl rg)), (ha, .inr (0, [.ref wa, .int us, .int ob])), (wa, .inl (cI, n, .inl f)), (hz, .inr (0, [.ref wz, .int us2, .int ob2])), (wz, .inl (cI, n, .inl f2))]) [0, 1, 2, 3, 4, 5] (by decide) rfl
  have hFc := va_free (wc := [(cx, .inr (1, [.ref ar, .ref ha, .ref hz, .int col, .int mov])), (ar, .inl (cI, 8, .inl rg)), (ha, .inr (0, [.ref wa, .int us, .int ob])), (wa, .inl (cI, n, .inl f)), (hz, .inr (0, [.ref wz, .int us2, .int ob2])), (wz, .inl (cI, n, .inl f2))]) hD hS hA [0, 1, 2, 3, 4, 5] rfl
  refine va_callv (va_runV (As := []) (rest := []) ⟨hx, hb, hml, hown, ht⟩ (ctX1_moveToSpare l dC dI cI cx ar ha wa hz wz n col mov rg us ob f us2 ob2 f2 uu so rs _ hn hwf hrg) (cwV 0 ht gcX1_39 rfl rfl rfl (by decide +kernel) ⟨Nat.le_of_ble_eq_true rfl, Nat.le_of_ble_eq_true rfl⟩) ⟨pM.blind, va_recv hKc hPc (ci := 1) (q0 := 0) rfl rfl, pM.call hPc hKc hDc hE⟩ rfl rfl hl.1 rfl (lv_room (Nat.le_of_ble_eq_true rfl)) dX1_collect_1 ⟨Nat.le_of_ble_eq_true rfl, Nat.le_of_ble_eq_true rfl⟩) hS (fun q _ h => hFc q h) hFc (fun u_1 t H1 locs ht9 hvm hw hB hz1 hk1 hS => ?_)
  have hRu_1 := hw
  obtain ⟨hP1, hK1, hD1⟩ := hB
  rw [ht9] at hP1
  obtain ⟨hP, hD⟩ := va_join (wr := []) (w1 := [(cx, .inr (1, [.ref ar, .ref hz, .ref ha, .int u_1.2.2.2.2.2.1, .int u_1.2.2.2.2.2.2])), (ar, .inl (cI, 8, .inl u_1.1)), (ha, .inr (0, [.ref wa, .int us, .int ob])), (wa, .inl (cI, n, .inl u_1.2.1)), (hz, .inr (0, [.ref wz, .int u_1.2.2.1, .int u_1.2.2.2.1])), (wz, .inl (cI, n, .inl u_1.2.2.2.2.1))]) hP hD [0, 1, 2, 3, 4, 5] [] rfl rfl (by decide) (by decide) hk1 hFc hP1 hD1
  generalize H1 = H at hP hS ⊢
  have hP := hP.sub (ws' := [(cx, .inr (1, [.ref ar, .ref hz, .ref ha, .int u_1.2.2.2.2.2.1, .int u_1.2.2.2.2.2.2])), (ar, .inl (cI, 8, .inl u_1.1)), (ha, .inr (0, [.ref wa, .int us, .int ob])), (wa, .inl (cI, n, .inl u_1.2.1)), (hz, .inr (0, [.ref wz, .int u_1.2.2.1, .int u_1.2.2.2.1])), (wz, .inl (cI, n, .inl u_1.2.2.2.2.1))]) [0, 1, 2, 3, 4, 5] rfl
  have hD := hD.sub (ws' := [(cx, .inr (1, [.ref ar, .ref hz, .ref ha, .int u_1.2.2.2.2.2.1, .int u_1.2.2.2.2.2.2])), (ar, .inl (cI, 8, .inl u_1.1)), (ha, .inr (0, [.ref wa, .int us, .int ob])), (wa, .inl (cI, n, .inl u_1.2.1)), (hz, .inr (0, [.ref wz, .int u_1.2.2.1, .int u_1.2.2.2.1])), (wz, .inl (cI, n, .inl u_1.2.2.2.2.1))]) [0, 1, 2, 3, 4, 5] (by decide) rfl
  refine lv_aload_n hx hb dX1_collect_4 rfl (lv_at hl 0 rfl) ?_
  refine va_get (D := (dC, dI)) (ci := 1) (v := .ref hz) (C := RX1) (T := TX1) (N := 5) hx hb ht iX1 hown hK hP 0 rfl rfl 1 (by decide) (ht _ g_39) (fun _ h9 => h9) rfl dX1_collect_5 ?_
  refine va_getN (D := (dC, dI)) (ci := 0) (v := .int u_1.2.2.1) (C := RX0) (T := TX0) (N := 3) hx hb ht iX0 hown hK hP 4 rfl rfl 1 (by decide) hE.w27 (fun _ h9 => h9) rfl dX1_collect_8 ?_
  have hP9 := hP.sub (ws' := [(cx, .inr (1, [.ref ar, .ref hz, .ref ha, .int u_1.2.2.2.2.2.1, .int u_1.2.2.2.2.2.2])), (ar, .inl (cI, 8, .inl u_1.1)), (ha, .inr (0, [.ref wa, .int us, .int ob])), (wa, .inl (cI, n, .inl u_1.2.1)), (hz, .inr (0, [.ref wz, .int u_1.2.2.1, .int u_1.2.2.2.1])), (wz, .inl (cI, n, .inl u_1.2.2.2.2.1))]) [0, 1, 2, 3, 4, 5] rfl
  have hD9 := hD.sub (ws' := [(cx, .inr (1, [.ref ar, .ref hz, .ref ha, .int u_1.2.2.2.2.2.1, .int u_1.2.2.2.2.2.2])), (ar, .inl (cI, 8, .inl u_1.1)), (ha, .inr (0, [.ref wa, .int us, .int ob])), (wa, .inl (cI, n, .inl u_1.2.1)), (hz, .inr (0, [.ref wz, .int u_1.2.2.1, .int u_1.2.2.2.1])), (wz, .inl (cI, n, .inl u_1.2.2.2.2.1))]) [0, 1, 2, 3, 4, 5] (by decide) rfl
  have hK9 := hK.sub (tys' := [(cI, .int)]) [0] rfl
  exact W.iret (v := u_1.2.2.1) hx hb hr (fun t ht hW => ⟨⟨_, (u_1.1, u_1.2.1, u_1.2.2.1, u_1.2.2.2.1, u_1.2.2.2.2.1, u_1.2.2.2.2.2.1, u_1.2.2.2.2.2.2), rfl, ⟨hRu_1.2.1, hRu_1⟩, by rw [ht]; exact hP9, va_K.moved hW.alike hK9, hD9⟩, hS.F ht⟩) hS.2.2 dX1_collect_11
