theorem waI {n k : Nat} {f : Nat → Int32} (hk : k < n) (hn : n < 2 ^ 31) : fX0_wordAt n f (nI k) = f k := by
  unfold fX0_wordAt
  rw [if_neg (nI_pos (by omega)), if_neg (nI_ge hk hn), nI_clamp (by omega)]
theorem swI {n k : Nat} {us ob q : Int32} {f : Nat → Int32} (hk : k < n) (hn : n < 2 ^ 31) : fX0_setWord n us ob f (nI k) q = (us, ob, upd f k q) := by
  unfold fX0_setWord
  rw [if_neg (nI_pos (by omega)), if_neg (nI_ge hk hn), nI_clamp (by omega)]
theorem awI {n k : Nat} {ob q : Int32} {f : Nat → Int32} (hk : k < n) (hn : n < 2 ^ 31) : fX0_addWord n (nI k) ob f q = (nI (k + 1), ob, upd f k q) := by
  unfold fX0_addWord
  rw [swI hk hn, ← nI_1 k]
theorem cpy_0 (f g : Nat → Int32) (a b : Nat) : va_cpy f g a b 0 = g := by
  funext j; exact pk_cpy_out (by omega)
theorem cpy_s (f g : Nat → Int32) (a b j : Nat) : upd (va_cpy f g a b j) (b + j) (f (a + j)) = va_cpy f g a b (j + 1) := by
  funext i
  by_cases e : i = b + j
  · rw [e, pk_us, pk_cpy_in (by omega) (by omega)]
    congr 1; omega
  · rw [pk_un e]
    by_cases e2 : b ≤ i ∧ i < b + j
    · rw [pk_cpy_in e2.1 e2.2, pk_cpy_in e2.1 (by omega)]
    · rw [pk_cpy_out (by omega), pk_cpy_out (by omega)]
theorem shl1 {k : Nat} (h : k < 2 ^ 30) : nI k <<< ((1 : Int32) &&& 31) = nI (2 * k) := by
  rw [pk_shlN _ 1 (by decide) (by omega)]; congr 1; omega
theorem shr1 {k : Nat} (h : k < 2 ^ 31) : nI k >>> ((1 : Int32) &&& 31) = nI (k / 2) := by
  rw [pk_shrN h _ 1 (by decide)]
def fX0_moveObject (ob2 : Int32) (f : Nat → Int32) (f2 : Nat → Int32) (P : Nat) (U : Nat) (Fd : Nat) : Int32 × Int32 × Int32 × (Nat → Int32) := (nI U, nI (U + Fd + 1), ob2 + 1, va_cpy f f2 P U (Fd + 1))
abbrev atX0_moveObject (dC : Nat → ClassId) (dI : Nat → Nat → Nat) (cI : ClassId) (A : Nat → Prop) (ha : Nat) (wa : Nat) (n : Nat) (us : Int32) (ob : Int32) (f : Nat → Int32) (hz : Nat) (wz : Nat) (u : Int32 × Int32 × (Nat → Int32)) (t : State) : Prop := va_P (dC, dI) vwCl [(ha, .inr (0, [.ref wa, .int us, .int ob])), (wa, .inl (cI, n, .inl f)), (hz, .inr (0, [.ref wz, .int u.1, .int u.2.1])), (wz, .inl (cI, n, .inl u.2.2))] t.heap ∧ va_K (dC, dI) vwCl [(cI, .int)] t ∧ va_D A [(ha, .inr (0, [.ref wa, .int us, .int ob])), (wa, .inl (cI, n, .inl f)), (hz, .inr (0, [.ref wz, .int u.1, .int u.2.1])), (wz, .inl (cI, n, .inl u.2.2))]
set_option maxHeartbeats 4000000 in
set_option maxRecDepth 100000 in
theorem ctX0_moveObject (l : Launch) (dC : Nat → ClassId) (dI : Nat → Nat → Nat) (cI : ClassId) (ha : Nat) (wa : Nat) (n : Nat) (us : Int32) (ob : Int32) (f : Nat → Int32) (hz : Nat) (wz : Nat) (us2 : Int32) (ob2 : Int32) (f2 : Nat → Int32) (ip : Int32) (P : Nat) (U : Nat) (Fd : Nat) (sz : Nat) (hn : n < 2 ^ 31) (hip : ip = nI P) (hu : us2 = nI U) (hF : fX0_fieldsAt n f (nI P) = nI Fd) (h1 : P + Fd < n) (h2 : U + Fd + 1 ≤ n) : Met l yX0_moveObject (kX0_moveObject :: gT) ({ frames := 2, cells := 0, slots := 0, locals := 43 }) (va_Pc [.ref ha, .int ip, .ref hz] (pM (dC, dI) [(ha, .inr (0, [.ref wa, .int us, .int ob])), (wa, .inl (cI, n, .inl f)), (hz, .inr (0, [.ref wz, .int us2, .int ob2])), (wz, .inl (cI, n, .inl f2))] [(cI, .int)] sz)) (va_Qi (fun (r : Int32) (u : Int32 × Int32 × (Nat → Int32)) => (r, u) = fX0_moveObject ob2 f f2 P U Fd) (atX0_moveObject dC dI cI (va_A [(ha, .inr (0, [.ref wa, .int us, .int ob])), (wa, .inl (cI, n, .inl f)), (hz, .inr (0, [.ref wz, .int us2, .int ob2])), (wz, .inl (cI, n, .inl f2))] sz) ha wa n us ob f hz wz) (va_A [(ha, .inr (0, [.ref wa, .int us, .int ob])), (wa, .inl (cI, n, .inl f)), (hz, .inr (0, [.ref wz, .int us2, .int ob2])), (wz, .inl (cI, n, .inl f2))] sz)) 0 0 (va_A [(ha, .inr (0, [.ref wa, .int us, .int ob])), (wa, .inl (cI, n, .inl f)), (hz, .inr (0, [.ref wz, .int us2, .int ob2])), (wz, .inl (cI, n, .inl f2))] sz) := by
  subst hip
  subst hu
  refine Met.ofW (cc := cX0_moveObject) (maxL := 6) (ret := (some .int)) (by decide) rfl ?_
  intro p e s m args below meth c s₁ B hml hv
  obtain ⟨rfl, hsz, hP, hK, hD0, hE⟩ := hv
  have hx := B.exec
  have hb := B.bytes
  have hr := B.returns
  have ht : ∀ w ∈ gT, w.before ([.ref ha, .int (nI P), .ref hz] : List Value).toArray s = true := fun w h => atoms_spec (ws := kX0_moveObject :: gT) B.pre w (List.mem_cons_of_mem _ h)
  have hown : s.vm.findClass RX0 = some m.cls := findClass_of_methodNamed B.named
  have hlocks := B.notSynchronized
  subst hsz
  have hD := hD0.self (sz := s.heap.size)
  generalize hAe : va_A [(ha, .inr (0, [.ref wa, .int us, .int ob])), (wa, .inl (cI, n, .inl f)), (hz, .inr (0, [.ref wz, .int (nI U), .int ob2])), (wz, .inl (cI, n, .inl f2))] s.heap.size = A at hD ⊢
  have hA : ∀ q : Nat, s.heap.size ≤ q → A q := fun q h => by rw [← hAe]; exact Or.inr h
  have hS : va_S A s.heap s.heap [] := va_S.rf
  have hl := lv_entry ([.ref ha, .int (nI P), .ref hz]) (n := 6) (Nat.le_of_ble_eq_true rfl)
  rw [lg_entry_eq]
  generalize (lg_sl ([.ref ha, .int (nI P), .ref hz]) ++ List.replicate (6 - (lg_sl ([.ref ha, .int (nI P), .ref hz])).length) Slot.unset).toArray = ls at hl ⊢
  have hl : lv_has ls 6 [(0, .ref ha), (1, .int (nI P)), (2, .ref hz)] := hl
  refine lv_aload_n hx hb dX0_moveObject_0 rfl (lv_at hl 2 rfl) ?_
  refine va_get (D := (dC, dI)) (ci := 0) (v := .int (nI U)) (C := RX0) (T := TX0) (N := 3) hx hb ht iX0 hown hK hP 2 rfl rfl 1 (by decide) (ht _ g_26) (fun _ h9 => h9) rfl dX0_moveObject_1 ?_
  refine lv_istore_n (lv' := [(3, .int (nI U)), (0, .ref ha), (1, .int (nI P)), (2, .ref hz)]) hx hb dX0_moveObject_4 rfl hl (by decide) rfl (fun ls hl => ?_)
  refine lv_aload_n hx hb dX0_moveObject_5 rfl (lv_at hl 1 rfl) ?_
  refine lv_iload_n hx hb dX0_moveObject_6 rfl (lv_at hl 2 rfl) ?_
  have hPc := hP.sub (ws' := [(ha, .inr (0, [.ref wa, .int us, .int ob])), (wa, .inl (cI, n, .inl f))]) [0, 1] rfl
  have hKc := hK.sub (tys' := [(cI, .int)]) [0] rfl
  refine vp_callSi (va_runV (As := [.int (nI P)]) (rest := []) ⟨hx, hb, hml, hown, ht⟩ (ctX0_fieldsAt l dC dI cI ha wa n us ob f (nI P) hn) (cwV 1 ht gcX0_26 rfl rfl rfl (by decide +kernel) ⟨Nat.le_of_ble_eq_true rfl, Nat.le_of_ble_eq_true rfl⟩) ⟨pS.blind, va_recv hKc hPc (ci := 0) (q0 := 0) rfl rfl, pS.call hPc hKc hE⟩ rfl rfl hl.1 rfl (lv_room (Nat.le_of_ble_eq_true rfl)) dX0_moveObject_7 ⟨Nat.le_of_ble_eq_true rfl, Nat.le_of_ble_eq_true rfl⟩).run (fun r_1 hr_1 => ?_)
  subst hr_1
  refine lv_istore (lv' := [(4, .int (fX0_fieldsAt n f (nI P))), (3, .int (nI U)), (0, .ref ha), (1, .int (nI P)), (2, .ref hz)]) hx hb dX0_moveObject_10 hl (by decide) rfl (fun ls hl => ?_)
  refine lv_iconst (v := 0) hx hb dX0_moveObject_12 (by decide) ?_
  refine lv_istore (lv' := [(5, .int 0), (4, .int (fX0_fieldsAt n f (nI P))), (3, .int (nI U)), (0, .ref ha), (1, .int (nI P)), (2, .ref hz)]) hx hb dX0_moveObject_13 hl (by decide) rfl (fun ls hl => ?_)
  rw [hF] at hl
  have hU0 : nI U = nI (U + 0) := rfl
  have hloop : ∀ (d : Nat) (j : Nat) (g : Nat → Int32), (hj : j + d = Fd + 1) → (eg : g = va_cpy f f2 P U j) → ∀ (H : Heap) (locs : List Loc) (ls : Array Slot), va_P (dC, dI) vwCl [(ha, .inr (0, [.ref wa, .int us, .int ob])), (wa, .inl (cI, n, .inl f)), (hz, .inr (0, [.ref wz, .int (nI (U + j)), .int ob2])), (wz, .inl (cI, n, .inl g))] H → va_D A [(ha, .inr (0, [.ref wa, .int us, .int ob])), (wa, .inl (cI, n, .inl f)), (hz, .inr (0, [.ref wz, .int (nI (U + j)), .int ob2])), (wz, .inl (cI, n, .inl g))] → va_S A s.heap H locs → lv_has ls 6 [(0, .ref ha), (1, .int (nI P)), (2, .ref hz), (3, .int (nI U)), (4, .int (nI Fd)), (5, .int (nI j))] → W p l e (headSpec (kX0_moveObject :: gT) ({ frames := 2, cells := 0, slots := 0, locals := 43 })).room s m ([.ref ha, .int (nI P), .ref hz] : List Value).toArray below meth c H locs 0 0 (MQ below (va_Qi (fun (r : Int32) (u : Int32 × Int32 × (Nat → Int32)) => (r, u) = fX0_moveObject ob2 f f2 P U Fd) (atX0_moveObject dC dI cI A ha wa n us ob f hz wz) A) ([.ref ha, .int (nI P), .ref hz] : List Value).toArray s 0 0 A) (F0 m 15 ls []) := by
    intro d
    induction d with
    | zero =>
      intro j g hj eg H locs ls hP hD hS hl
      refine lv_iload hx hb dX0_moveObject_15 (lv_at hl 5 rfl) ?_
      refine lv_iload hx hb dX0_moveObject_17 (lv_at hl 4 rfl) ?_
      refine lv_icmp_gt (tgt := 40) hx hb dX0_moveObject_19 (by decide) (fun _ => ?_) (fun h => absurd (nI_lt (by omega) (by omega)) h)
      refine lv_aload_n hx hb dX0_moveObject_40 rfl (lv_at hl 2 rfl) ?_
      refine lv_dup hx hb dX0_moveObject_41 rfl ?_
      refine va_get (D := (dC, dI)) (ci := 0) (v := .int ob2) (C := RX0) (T := TX0) (N := 3) hx hb ht iX0 hown hK hP 2 rfl rfl 2 (by decide) (ht _ g_28) (fun _ h9 => h9) rfl dX0_moveObject_42 ?_
      refine lv_iconst (v := 1) hx hb dX0_moveObject_45 (by decide) ?_
      refine lv_iadd hx hb dX0_moveObject_46 ?_
      refine va_put (D := (dC, dI)) (ci := 0) (v := .int (ob2 + 1)) (ty := .int) (C := RX0) (T := TX0) (N := 3) hx hb ht iX0 tyX0 tkX0 nmX0 hown hK hP hD hS 2 rfl rfl 2 (by decide) (ht _ g_28) (fun _ h9 => h9) rfl (by decide +kernel) rfl rfl (Nat.le_of_ble_eq_true rfl) dX0_moveObject_47 (fun H locs hP hD hS => ?_)
      have hP : va_P (dC, dI) vwCl [(ha, .inr (0, [.ref wa, .int us, .int ob])), (wa, .inl (cI, n, .inl f)), (hz, .inr (0, [.ref wz, .int (nI (U + j)), .int (ob2 + 1)])), (wz, .inl (cI, n, .inl g))] H := hP
      have hD : va_D A [(ha, .inr (0, [.ref wa, .int us, .int ob])), (wa, .inl (cI, n, .inl f)), (hz, .inr (0, [.ref wz, .int (nI (U + j)), .int (ob2 + 1)])), (wz, .inl (cI, n, .inl g))] := hD
      refine lv_iload_n hx hb dX0_moveObject_50 rfl (lv_at hl 3 rfl) ?_
      have hP9 := hP.sub (ws' := [(ha, .inr (0, [.ref wa, .int us, .int ob])), (wa, .inl (cI, n, .inl f)), (hz, .inr (0, [.ref wz, .int (nI (U + j)), .int (ob2 + 1)])), (wz, .inl (cI, n, .inl g))]) [0, 1, 2, 3] rfl
      have hD9 := hD.sub (ws' := [(ha, .inr (0, [.ref wa, .int us, .int ob])), (wa, .inl (cI, n, .inl f)), (hz, .inr (0, [.ref wz, .int (nI (U + j)), .int (ob2 + 1)])), (wz, .inl (cI, n, .inl g))]) [0, 1, 2, 3] (by decide) rfl
      have hK9 := hK.sub (tys' := [(cI, .int)]) [0] rfl
      exact W.iret (v := nI U) hx hb hr (fun t ht hW => ⟨⟨_, (nI (U + j), ob2 + 1, g), rfl, (by have hj1 : j = Fd + 1 := (by omega); subst hj1; subst eg; rfl), by rw [ht]; exact hP9, va_K.moved hW.alike hK9, hD9⟩, hS.F ht⟩) hS.2.2 dX0_moveObject_51
    | succ d ih =>
      intro j g hj eg H locs ls hP hD hS hl
      refine lv_iload hx hb dX0_moveObject_15 (lv_at hl 5 rfl) ?_
      refine lv_iload hx hb dX0_moveObject_17 (lv_at hl 4 rfl) ?_
      refine lv_icmp_gt (tgt := 40) hx hb dX0_moveObject_19 (by decide) (fun h => absurd h (nI_nlt (by omega) (by omega))) (fun _ => ?_)
      refine lv_aload_n hx hb dX0_moveObject_22 rfl (lv_at hl 2 rfl) ?_
      refine lv_aload_n hx hb dX0_moveObject_23 rfl (lv_at hl 0 rfl) ?_
      refine lv_iload_n hx hb dX0_moveObject_24 rfl (lv_at hl 1 rfl) ?_
      refine lv_iload hx hb dX0_moveObject_25 (lv_at hl 5 rfl) ?_
      refine lv_iadd hx hb dX0_moveObject_27 ?_
      have hPc := hP.sub (ws' := [(ha, .inr (0, [.ref wa, .int us, .int ob])), (wa, .inl (cI, n, .inl f))]) [0, 1] rfl
      have hKc := hK.sub (tys' := [(cI, .int)]) [0] rfl
      refine vp_callSi (va_runV (As := [.int ((nI P) + (nI j))]) (rest := [.ref hz]) ⟨hx, hb, hml, hown, ht⟩ (ctX0_wordAt l dC dI cI ha wa n us ob f ((nI P) + (nI j)) hn) (cwV 1 ht gcX0_22 rfl rfl rfl (by decide +kernel) ⟨Nat.le_of_ble_eq_true rfl, Nat.le_of_ble_eq_true rfl⟩) ⟨pS.blind, va_recv hKc hPc (ci := 0) (q0 := 0) rfl rfl, pS.call hPc hKc hE⟩ rfl rfl hl.1 rfl (lv_room (Nat.le_of_ble_eq_true rfl)) dX0_moveObject_28 ⟨Nat.le_of_ble_eq_true rfl, Nat.le_of_ble_eq_true rfl⟩).run (fun r_2 hr_2 => ?_)
      subst hr_2
      have hPc := hP.sub (ws' := [(hz, .inr (0, [.ref wz, .int (nI (U + j)), .int ob2])), (wz, .inl (cI, n, .inl g))]) [2, 3] rfl
      have hKc := hK.sub (tys' := [(cI, .int)]) [0] rfl
      have hDc := hD.sub (ws' := [(hz, .inr (0, [.ref wz, .int (nI (U + j)), .int ob2])), (wz, .inl (cI, n, .inl g))]) [2, 3] (by decide) rfl
      have hFc := va_free (wc := [(hz, .inr (0, [.ref wz, .int (nI (U + j)), .int ob2])), (wz, .inl (cI, n, .inl g))]) hD hS hA [2, 3] rfl
      refine va_callv (va_runV (As := [.int (fX0_wordAt n f ((nI P) + (nI j)))]) (rest := []) ⟨hx, hb, hml, hown, ht⟩ (ctX0_addWord l dC dI cI hz wz n (nI (U + j)) ob2 g (fX0_wordAt n f ((nI P) + (nI j))) _ hn) (cwV 1 ht gcX0_36 rfl rfl rfl (by decide +kernel) ⟨Nat.le_of_ble_eq_true rfl, Nat.le_of_ble_eq_true rfl⟩) ⟨pM.blind, va_recv hKc hPc (ci := 0) (q0 := 0) rfl rfl, pM.call hPc hKc hDc hE⟩ rfl rfl hl.1 rfl (lv_room (Nat.le_of_ble_eq_true rfl)) dX0_moveObject_31 ⟨Nat.le_of_ble_eq_true rfl, Nat.le_of_ble_eq_true rfl⟩) hS (fun q _ h => hFc q h) hFc (fun u_3 t H1 locs ht9 hvm hw hB hz1 hk1 hS => ?_)
      subst hw
      obtain ⟨hP1, hK1, hD1⟩ := hB
      rw [ht9] at hP1
      obtain ⟨hP, hD⟩ := va_join (wr := [(ha, .inr (0, [.ref wa, .int us, .int ob])), (wa, .inl (cI, n, .inl f))]) (w1 := [(hz, .inr (0, [.ref wz, .int ((fX0_addWord n (nI (U + j)) ob2 g (fX0_wordAt n f ((nI P) + (nI j)))).1), .int ((fX0_addWord n (nI (U + j)) ob2 g (fX0_wordAt n f ((nI P) + (nI j)))).2.1)])), (wz, .inl (cI, n, .inl ((fX0_addWord n (nI (U + j)) ob2 g (fX0_wordAt n f ((nI P) + (nI j)))).2.2)))]) hP hD [2, 3] [0, 1] rfl rfl (by decide) (by decide) hk1 hFc hP1 hD1
      generalize H1 = H at hP hS ⊢
      have hP := hP.sub (ws' := [(ha, .inr (0, [.ref wa, .int us, .int ob])), (wa, .inl (cI, n, .inl f)), (hz, .inr (0, [.ref wz, .int ((fX0_addWord n (nI (U + j)) ob2 g (fX0_wordAt n f ((nI P) + (nI j)))).1), .int ((fX0_addWord n (nI (U + j)) ob2 g (fX0_wordAt n f ((nI P) + (nI j)))).2.1)])), (wz, .inl (cI, n, .inl ((fX0_addWord n (nI (U + j)) ob2 g (fX0_wordAt n f ((nI P) + (nI j)))).2.2)))]) [0, 1, 2, 3] rfl
      have hD := hD.sub (ws' := [(ha, .inr (0, [.ref wa, .int us, .int ob])), (wa, .inl (cI, n, .inl f)), (hz, .inr (0, [.ref wz, .int ((fX0_addWord n (nI (U + j)) ob2 g (fX0_wordAt n f ((nI P) + (nI j)))).1), .int ((fX0_addWord n (nI (U + j)) ob2 g (fX0_wordAt n f ((nI P) + (nI j)))).2.1)])), (wz, .inl (cI, n, .inl ((fX0_addWord n (nI (U + j)) ob2 g (fX0_wordAt n f ((nI P) + (nI j)))).2.2)))]) [0, 1, 2, 3] (by decide) rfl
      obtain ⟨x_4, ex_4⟩ : ∃ y : Int32, y = nI j + 1 := ⟨_, rfl⟩
      refine lv_iinc (v := x_4) (lv' := [(5, .int x_4), (0, .ref ha), (1, .int (nI P)), (2, .ref hz), (3, .int (nI U)), (4, .int (nI Fd))]) hx hb dX0_moveObject_34 hl (k := 5) rfl (by rw [ex_4]; rfl) (by decide) rfl (fun ls hl => ?_)
      refine lv_goto (tgt := 15) hx hb dX0_moveObject_37 (by decide) ?_
      have e1 : fX0_addWord n (nI (U + j)) ob2 g (fX0_wordAt n f ((nI P) + (nI j))) = (nI (U + (j + 1)), ob2, va_cpy f f2 P U (j + 1)) := by
        rw [nI_add, waI (by omega) hn, awI (by omega) hn, eg, cpy_s]; rfl
      rw [e1] at hP hD
      rw [ex_4, nI_1] at hl
      exact ih (j + 1) (va_cpy f f2 P U (j + 1)) (by omega) rfl _ _ ls hP hD hS (lv_sub hl [1, 2, 3, 4, 5, 0] rfl)
  exact hloop (Fd + 1) 0 f2 (by omega) (cpy_0 _ _ _ _).symm _ _ ls hP hD hS (lv_sub hl [3, 4, 5, 2, 1, 0] rfl)
def fX0_addObject (ob : Int32) (f : Nat → Int32) (ip : Int32) (U : Nat) (Fd : Nat) : Int32 × Int32 × Int32 × (Nat → Int32) := (nI U, nI (U + Fd + 1), ob + 1, va_cpy (fun _ => 0) (upd f U (nI (2 * Fd) ||| ip)) 0 (U + 1) Fd)
abbrev atX0_addObject (dC : Nat → ClassId) (dI : Nat → Nat → Nat) (cI : ClassId) (A : Nat → Prop) (ha : Nat) (wa : Nat) (n : Nat) (u : Int32 × Int32 × (Nat → Int32)) (t : State) : Prop := va_P (dC, dI) vwCl [(ha, .inr (0, [.ref wa, .int u.1, .int u.2.1])), (wa, .inl (cI, n, .inl u.2.2))] t.heap ∧ va_K (dC, dI) vwCl [(cI, .int)] t ∧ va_D A [(ha, .inr (0, [.ref wa, .int u.1, .int u.2.1])), (wa, .inl (cI, n, .inl u.2.2))]
set_option maxHeartbeats 4000000 in
set_option maxRecDepth 100000 in
theorem ctX0_addObject (l : Launch) (dC : Nat → ClassId) (dI : Nat → Nat → Nat) (cI : ClassId) (ha : Nat) (wa : Nat) (n : Nat) (us : Int32) (ob : Int32) (f : Nat → Int32) (ip : Int32) (iq : Int32) (U : Nat) (Fd : Nat) (sz : Nat) (hn : n < 2 ^ 31) (hiq : iq = nI Fd) (hu : us = nI U) (h2 : U + Fd + 1 ≤ n) (h3 : Fd < 2 ^ 30) : Met l yX0_addObject (kX0_addObject :: gT) ({ frames := 2, cells := 0, slots := 0, locals := 43 }) (va_Pc [.ref ha, .int ip, .int iq] (pM (dC, dI) [(ha, .inr (0, [.ref wa, .int us, .int ob])), (wa, .inl (cI, n, .inl f))] [(cI, .int)] sz)) (va_Qi (fun (r : Int32) (u : Int32 × Int32 × (Nat → Int32)) => (r, u) = fX0_addObject ob f ip U Fd) (atX0_addObject dC dI cI (va_A [(ha, .inr (0, [.ref wa, .int us, .int ob])), (wa, .inl (cI, n, .inl f))] sz) ha wa n) (va_A [(ha, .inr (0, [.ref wa, .int us, .int ob])), (wa, .inl (cI, n, .inl f))] sz)) 0 0 (va_A [(ha, .inr (0, [.ref wa, .int us, .int ob])), (wa, .inl (cI, n, .inl f))] sz) := by
  subst hiq
  subst hu
  refine Met.ofW (cc := cX0_addObject) (maxL := 5) (ret := (some .int)) (by decide) rfl ?_
  intro p e s m args below meth c s₁ B hml hv
  obtain ⟨rfl, hsz, hP, hK, hD0, hE⟩ := hv
  have hx := B.exec
  have hb := B.bytes
  have hr := B.returns
  have ht : ∀ w ∈ gT, w.before ([.ref ha, .int ip, .int (nI Fd)] : List Value).toArray s = true := fun w h => atoms_spec (ws := kX0_addObject :: gT) B.pre w (List.mem_cons_of_mem _ h)
  have hown : s.vm.findClass RX0 = some m.cls := findClass_of_methodNamed B.named
  have hlocks := B.notSynchronized
  subst hsz
  have hD := hD0.self (sz := s.heap.size)
  generalize hAe : va_A [(ha, .inr (0, [.ref wa, .int (nI U), .int ob])), (wa, .inl (cI, n, .inl f))] s.heap.size = A at hD ⊢
  have hA : ∀ q : Nat, s.heap.size ≤ q → A q := fun q h => by rw [← hAe]; exact Or.inr h
  have hS : va_S A s.heap s.heap [] := va_S.rf
  have hl := lv_entry ([.ref ha, .int ip, .int (nI Fd)]) (n := 5) (Nat.le_of_ble_eq_true rfl)
  rw [lg_entry_eq]
  generalize (lg_sl ([.ref ha, .int ip, .int (nI Fd)]) ++ List.replicate (5 - (lg_sl ([.ref ha, .int ip, .int (nI Fd)])).length) Slot.unset).toArray = ls at hl ⊢
  have hl : lv_has ls 5 [(0, .ref ha), (1, .int ip), (2, .int (nI Fd))] := hl
  refine lv_aload_n hx hb dX0_addObject_0 rfl (lv_at hl 0 rfl) ?_
  refine va_get (D := (dC, dI)) (ci := 0) (v := .int (nI U)) (C := RX0) (T := TX0) (N := 3) hx hb ht iX0 hown hK hP 0 rfl rfl 1 (by decide) (ht _ g_26) (fun _ h9 => h9) rfl dX0_addObject_1 ?_
  refine lv_istore_n (lv' := [(3, .int (nI U)), (0, .ref ha), (1, .int ip), (2, .int (nI Fd))]) hx hb dX0_addObject_4 rfl hl (by decide) rfl (fun ls hl => ?_)
  refine lv_aload_n hx hb dX0_addObject_5 rfl (lv_at hl 1 rfl) ?_
  refine lv_iload_n hx hb dX0_addObject_6 rfl (lv_at hl 3 rfl) ?_
  refine lv_iconst (v := 1) hx hb dX0_addObject_7 (by decide) ?_
  refine lv_ishl hx hb dX0_addObject_8 ?_
  refine lv_iload_n hx hb dX0_addObject_9 rfl (lv_at hl 2 rfl) ?_
  refine lv_ior hx hb dX0_addObject_10 ?_
  have hPc := hP.sub (ws' := [(ha, .inr (0, [.ref wa, .int (nI U), .int ob])), (wa, .inl (cI, n, .inl f))]) [0, 1] rfl
  have hKc := hK.sub (tys' := [(cI, .int)]) [0] rfl
  have hDc := hD.sub (ws' := [(ha, .inr (0, [.ref wa, .int (nI U), .int ob])), (wa, .inl (cI, n, .inl f))]) [0, 1] (by decide) rfl
  have hFc := va_free (wc := [(ha, .inr (0, [.ref wa, .int (nI U), .int ob])), (wa, .inl (cI, n, .inl f))]) hD hS hA [0, 1] rfl
  refine va_callv (va_runV (As := [.int (((nI Fd) <<< (1 &&& 31)) ||| ip)]) (rest := []) ⟨hx, hb, hml, hown, ht⟩ (ctX0_addWord l dC dI cI ha wa n (nI U) ob f (((nI Fd) <<< (1 &&& 31)) ||| ip) _ hn) (cwV 1 ht gcX0_36 rfl rfl rfl (by decide +kernel) ⟨Nat.le_of_ble_eq_true rfl, Nat.le_of_ble_eq_true rfl⟩) ⟨pM.blind, va_recv hKc hPc (ci := 0) (q0 := 0) rfl rfl, pM.call hPc hKc hDc hE⟩ rfl rfl hl.1 rfl (lv_room (Nat.le_of_ble_eq_true rfl)) dX0_addObject_11 ⟨Nat.le_of_ble_eq_true rfl, Nat.le_of_ble_eq_true rfl⟩) hS (fun q _ h => hFc q h) hFc (fun u_1 t H1 locs ht9 hvm hw hB hz1 hk1 hS => ?_)
  subst hw
  obtain ⟨hP1, hK1, hD1⟩ := hB
  rw [ht9] at hP1
  obtain ⟨hP, hD⟩ := va_join (wr := []) (w1 := [(ha, .inr (0, [.ref wa, .int ((fX0_addWord n (nI U) ob f (((nI Fd) <<< (1 &&& 31)) ||| ip)).1), .int ((fX0_addWord n (nI U) ob f (((nI Fd) <<< (1 &&& 31)) ||| ip)).2.1)])), (wa, .inl (cI, n, .inl ((fX0_addWord n (nI U) ob f (((nI Fd) <<< (1 &&& 31)) ||| ip)).2.2)))]) hP hD [0, 1] [] rfl rfl (by decide) (by decide) hk1 hFc hP1 hD1
  generalize H1 = H at hP hS ⊢
  have hP := hP.sub (ws' := [(ha, .inr (0, [.ref wa, .int ((fX0_addWord n (nI U) ob f (((nI Fd) <<< (1 &&& 31)) ||| ip)).1), .int ((fX0_addWord n (nI U) ob f (((nI Fd) <<< (1 &&& 31)) ||| ip)).2.1)])), (wa, .inl (cI, n, .inl ((fX0_addWord n (nI U) ob f (((nI Fd) <<< (1 &&& 31)) ||| ip)).2.2)))]) [0, 1] rfl
  have hD := hD.sub (ws' := [(ha, .inr (0, [.ref wa, .int ((fX0_addWord n (nI U) ob f (((nI Fd) <<< (1 &&& 31)) ||| ip)).1), .int ((fX0_addWord n (nI U) ob f (((nI Fd) <<< (1 &&& 31)) ||| ip)).2.1)])), (wa, .inl (cI, n, .inl ((fX0_addWord n (nI U) ob f (((nI Fd) <<< (1 &&& 31)) ||| ip)).2.2)))]) [0, 1] (by decide) rfl
  refine lv_iconst (v := 0) hx hb dX0_addObject_14 (by decide) ?_
  refine lv_istore (lv' := [(4, .int 0), (3, .int (nI U)), (0, .ref ha), (1, .int ip), (2, .int (nI Fd))]) hx hb dX0_addObject_15 hl (by decide) rfl (fun ls hl => ?_)
  have e0 : fX0_addWord n (nI U) ob f ((nI Fd <<< ((1 : Int32) &&& 31)) ||| ip) = (nI (U + 1), ob, upd f U (nI (2 * Fd) ||| ip)) := by
    rw [shl1 h3, awI (by omega) hn]
  rw [e0] at hP hD
  have hloop : ∀ (d : Nat) (j : Nat) (g : Nat → Int32), (hj : j + d = Fd) → (eg : g = va_cpy (fun _ => 0) (upd f U (nI (2 * Fd) ||| ip)) 0 (U + 1) j) → ∀ (H : Heap) (locs : List Loc) (ls : Array Slot), va_P (dC, dI) vwCl [(ha, .inr (0, [.ref wa, .int (nI (U + 1 + j)), .int ob])), (wa, .inl (cI, n, .inl g))] H → va_D A [(ha, .inr (0, [.ref wa, .int (nI (U + 1 + j)), .int ob])), (wa, .inl (cI, n, .inl g))] → va_S A s.heap H locs → lv_has ls 5 [(0, .ref ha), (1, .int ip), (2, .int (nI Fd)), (3, .int (nI U)), (4, .int (nI j))] → W p l e (headSpec (kX0_addObject :: gT) ({ frames := 2, cells := 0, slots := 0, locals := 43 })).room s m ([.ref ha, .int ip, .int (nI Fd)] : List Value).toArray below meth c H locs 0 0 (MQ below (va_Qi (fun (r : Int32) (u : Int32 × Int32 × (Nat → Int32)) => (r, u) = fX0_addObject ob f ip U Fd) (atX0_addObject dC dI cI A ha wa n) A) ([.ref ha, .int ip, .int (nI Fd)] : List Value).toArray s 0 0 A) (F0 m 17 ls []) := by
    intro d
    induction d with
    | zero =>
      intro j g hj eg H locs ls hP hD hS hl
      refine lv_iload hx hb dX0_addObject_17 (lv_at hl 4 rfl) ?_
      refine lv_iload_n hx hb dX0_addObject_19 rfl (lv_at hl 2 rfl) ?_
      refine lv_icmp_ge (tgt := 34) hx hb dX0_addObject_20 (by decide) (fun _ => ?_) (fun h => absurd (nI_le (by omega) (by omega)) h)
      refine lv_aload_n hx hb dX0_addObject_34 rfl (lv_at hl 0 rfl) ?_
      refine lv_dup hx hb dX0_addObject_35 rfl ?_
      refine va_get (D := (dC, dI)) (ci := 0) (v := .int ob) (C := RX0) (T := TX0) (N := 3) hx hb ht iX0 hown hK hP 0 rfl rfl 2 (by decide) (ht _ g_28) (fun _ h9 => h9) rfl dX0_addObject_36 ?_
      refine lv_iconst (v := 1) hx hb dX0_addObject_39 (by decide) ?_
      refine lv_iadd hx hb dX0_addObject_40 ?_
      refine va_put (D := (dC, dI)) (ci := 0) (v := .int (ob + 1)) (ty := .int) (C := RX0) (T := TX0) (N := 3) hx hb ht iX0 tyX0 tkX0 nmX0 hown hK hP hD hS 0 rfl rfl 2 (by decide) (ht _ g_28) (fun _ h9 => h9) rfl (by decide +kernel) rfl rfl (Nat.le_of_ble_eq_true rfl) dX0_addObject_41 (fun H locs hP hD hS => ?_)
      have hP : va_P (dC, dI) vwCl [(ha, .inr (0, [.ref wa, .int (nI (U + 1 + j)), .int (ob + 1)])), (wa, .inl (cI, n, .inl g))] H := hP
      have hD : va_D A [(ha, .inr (0, [.ref wa, .int (nI (U + 1 + j)), .int (ob + 1)])), (wa, .inl (cI, n, .inl g))] := hD
      refine lv_iload_n hx hb dX0_addObject_44 rfl (lv_at hl 3 rfl) ?_
      have hP9 := hP.sub (ws' := [(ha, .inr (0, [.ref wa, .int (nI (U + 1 + j)), .int (ob + 1)])), (wa, .inl (cI, n, .inl g))]) [0, 1] rfl
      have hD9 := hD.sub (ws' := [(ha, .inr (0, [.ref wa, .int (nI (U + 1 + j)), .int (ob + 1)])), (wa, .inl (cI, n, .inl g))]) [0, 1] (by decide) rfl
      have hK9 := hK.sub (tys' := [(cI, .int)]) [0] rfl
      exact W.iret (v := nI U) hx hb hr (fun t ht hW => ⟨⟨_, (nI (U + 1 + j), ob + 1, g), rfl, (by have hj1 : j = Fd := (by omega); subst hj1; subst eg; show (nI U, nI (U + 1 + j), ob + 1, _) = fX0_addObject ob f ip U j; unfold fX0_addObject; rw [show U + 1 + j = U + j + 1 by omega]), by rw [ht]; exact hP9, va_K.moved hW.alike hK9, hD9⟩, hS.F ht⟩) hS.2.2 dX0_addObject_45
    | succ d ih =>
      intro j g hj eg H locs ls hP hD hS hl
      refine lv_iload hx hb dX0_addObject_17 (lv_at hl 4 rfl) ?_
      refine lv_iload_n hx hb dX0_addObject_19 rfl (lv_at hl 2 rfl) ?_
      refine lv_icmp_ge (tgt := 34) hx hb dX0_addObject_20 (by decide) (fun h => absurd h (nI_ge (by omega) (by omega))) (fun _ => ?_)
      refine lv_aload_n hx hb dX0_addObject_23 rfl (lv_at hl 0 rfl) ?_
      refine lv_iconst (v := 0) hx hb dX0_addObject_24 (by decide) ?_
      have hPc := hP.sub (ws' := [(ha, .inr (0, [.ref wa, .int (nI (U + 1 + j)), .int ob])), (wa, .inl (cI, n, .inl g))]) [0, 1] rfl
      have hKc := hK.sub (tys' := [(cI, .int)]) [0] rfl
      have hDc := hD.sub (ws' := [(ha, .inr (0, [.ref wa, .int (nI (U + 1 + j)), .int ob])), (wa, .inl (cI, n, .inl g))]) [0, 1] (by decide) rfl
      have hFc := va_free (wc := [(ha, .inr (0, [.ref wa, .int (nI (U + 1 + j)), .int ob])), (wa, .inl (cI, n, .inl g))]) hD hS hA [0, 1] rfl
      refine va_callv (va_runV (As := [.int 0]) (rest := []) ⟨hx, hb, hml, hown, ht⟩ (ctX0_addWord l dC dI cI ha wa n (nI (U + 1 + j)) ob g 0 _ hn) (cwV 1 ht gcX0_36 rfl rfl rfl (by decide +kernel) ⟨Nat.le_of_ble_eq_true rfl, Nat.le_of_ble_eq_true rfl⟩) ⟨pM.blind, va_recv hKc hPc (ci := 0) (q0 := 0) rfl rfl, pM.call hPc hKc hDc hE⟩ rfl rfl hl.1 rfl (lv_room (Nat.le_of_ble_eq_true rfl)) dX0_addObject_25 ⟨Nat.le_of_ble_eq_true rfl, Nat.le_of_ble_eq_true rfl⟩) hS (fun q _ h => hFc q h) hFc (fun u_2 t H1 locs ht9 hvm hw hB hz1 hk1 hS => ?_)
      subst hw
      obtain ⟨hP1, hK1, hD1⟩ := hB
      rw [ht9] at hP1
      obtain ⟨hP, hD⟩ := va_join (wr := []) (w1 := [(ha, .inr (0, [.ref wa, .int ((fX0_addWord n (nI (U + 1 + j)) ob g 0).1), .int ((fX0_addWord n (nI (U + 1 + j)) ob g 0).2.1)])), (wa, .inl (cI, n, .inl ((fX0_addWord n (nI (U + 1 + j)) ob g 0).2.2)))]) hP hD [0, 1] [] rfl rfl (by decide) (by decide) hk1 hFc hP1 hD1
      generalize H1 = H at hP hS ⊢
      have hP := hP.sub (ws' := [(ha, .inr (0, [.ref wa, .int ((fX0_addWord n (nI (U + 1 + j)) ob g 0).1), .int ((fX0_addWord n (nI (U + 1 + j)) ob g 0).2.1)])), (wa, .inl (cI, n, .inl ((fX0_addWord n (nI (U + 1 + j)) ob g 0).2.2)))]) [0, 1] rfl
      have hD := hD.sub (ws' := [(ha, .inr (0, [.ref wa, .int ((fX0_addWord n (nI (U + 1 + j)) ob g 0).1), .int ((fX0_addWord n (nI (U + 1 + j)) ob g 0).2.1)])), (wa, .inl (cI, n, .inl ((fX0_addWord n (nI (U + 1 + j)) ob g 0).2.2)))]) [0, 1] (by decide) rfl
      obtain ⟨x_3, ex_3⟩ : ∃ y : Int32, y = nI j + 1 := ⟨_, rfl⟩
      refine lv_iinc (v := x_3) (lv' := [(4, .int x_3), (0, .ref ha), (1, .int ip), (2, .int (nI Fd)), (3, .int (nI U))]) hx hb dX0_addObject_28 hl (k := 4) rfl (by rw [ex_3]; rfl) (by decide) rfl (fun ls hl => ?_)
      refine lv_goto (tgt := 17) hx hb dX0_addObject_31 (by decide) ?_
      have e1 : fX0_addWord n (nI (U + 1 + j)) ob g 0 = (nI (U + 1 + (j + 1)), ob, va_cpy (fun _ => 0) (upd f U (nI (2 * Fd) ||| ip)) 0 (U + 1) (j + 1)) := by
        rw [awI (by omega) hn, eg, ← cpy_s]; rfl
      rw [e1] at hP hD
      rw [ex_3, nI_1] at hl
      exact ih (j + 1) (va_cpy (fun _ => 0) (upd f U (nI (2 * Fd) ||| ip)) 0 (U + 1) (j + 1)) (by omega) rfl _ _ ls hP hD hS (lv_sub hl [1, 2, 3, 4, 0] rfl)
  exact hloop Fd 0 (upd f U (nI (2 * Fd) ||| ip)) (by omega) (cpy_0 _ _ _ _).symm _ _ ls hP hD hS (lv_sub hl [2, 3, 4, 1, 0] rfl)
def fX0_movedValue (n : Nat) (us : Int32) (ob : Int32) (f : Nat → Int32) (us2 : Int32) (ob2 : Int32) (f2 : Nat → Int32) (iv : Int32) (P : Nat) (U : Nat) (Fd : Nat) : Int32 × Int32 × Int32 × (Nat → Int32) × Int32 × Int32 × (Nat → Int32) := (if fX1_isReference iv = 0 then (iv, (us, ob, f, us2, ob2, f2)) else (if fX0_wordAt n f (fX1_content iv) < 0 then (fX1_asReference ((fX0_wordAt n f (fX1_content iv)) ^^^ (-1)), (us, ob, f, us2, ob2, f2)) else (fX1_asReference ((fX0_wordAt n ((fX0_setWord n us ob f (fX1_content iv) (((fX0_moveObject ob2 f f2 P U Fd).1) ^^^ (-1))).2.2) (fX1_content iv)) ^^^ (-1)), ((fX0_setWord n us ob f (fX1_content iv) (((fX0_moveObject ob2 f f2 P U Fd).1) ^^^ (-1))).1, (fX0_setWord n us ob f (fX1_content iv) (((fX0_moveObject ob2 f f2 P U Fd).1) ^^^ (-1))).2.1, (fX0_setWord n us ob f (fX1_content iv) (((fX0_moveObject ob2 f f2 P U Fd).1) ^^^ (-1))).2.2, ((fX0_moveObject ob2 f f2 P U Fd).2).1, ((fX0_moveObject ob2 f f2 P U Fd).2).2.1, ((fX0_moveObject ob2 f f2 P U Fd).2).2.2))))
abbrev atX0_movedValue (dC : Nat → ClassId) (dI : Nat → Nat → Nat) (cI : ClassId) (A : Nat → Prop) (ha : Nat) (wa : Nat) (n : Nat) (hz : Nat) (wz : Nat) (u : Int32 × Int32 × (Nat → Int32) × Int32 × Int32 × (Nat → Int32)) (t : State) : Prop := va_P (dC, dI) vwCl [(ha, .inr (0, [.ref wa, .int u.1, .int u.2.1])), (wa, .inl (cI, n, .inl u.2.2.1)), (hz, .inr (0, [.ref wz, .int u.2.2.2.1, .int u.2.2.2.2.1])), (wz, .inl (cI, n, .inl u.2.2.2.2.2))] t.heap ∧ va_K (dC, dI) vwCl [(cI, .int)] t ∧ va_D A [(ha, .inr (0, [.ref wa, .int u.1, .int u.2.1])), (wa, .inl (cI, n, .inl u.2.2.1)), (hz, .inr (0, [.ref wz, .int u.2.2.2.1, .int u.2.2.2.2.1])), (wz, .inl (cI, n, .inl u.2.2.2.2.2))]
set_option maxHeartbeats 4000000 in
set_option maxRecDepth 100000 in
theorem ctX0_movedValue (l : Launch) (dC : Nat → ClassId) (dI : Nat → Nat → Nat) (cI : ClassId) (ha : Nat) (wa : Nat) (n : Nat) (us : Int32) (ob : Int32) (f : Nat → Int32) (hz : Nat) (wz : Nat) (us2 : Int32) (ob2 : Int32) (f2 : Nat → Int32) (iv : Int32) (P : Nat) (U : Nat) (Fd : Nat) (sz : Nat) (hn : n < 2 ^ 31) (hmo : ¬ fX1_isReference iv = 0 → ¬ fX0_wordAt n f (fX1_content iv) < 0 → (fX1_content iv = nI P ∧ us2 = nI U ∧ fX0_fieldsAt n f (nI P) = nI Fd ∧ P + Fd < n ∧ U + Fd + 1 ≤ n)) : Met l yX0_movedValue (kX0_movedValue :: gT) ({ frames := 3, cells := 0, slots := 0, locals := 70 }) (va_Pc [.ref ha, .int iv, .ref hz] (pM (dC, dI) [(ha, .inr (0, [.ref wa, .int us, .int ob])), (wa, .inl (cI, n, .inl f)), (hz, .inr (0, [.ref wz, .int us2, .int ob2])), (wz, .inl (cI, n, .inl f2))] [(cI, .int)] sz)) (va_Qi (fun (r : Int32) (u : Int32 × Int32 × (Nat → Int32) × Int32 × Int32 × (Nat → Int32)) => (r, u) = fX0_movedValue n us ob f us2 ob2 f2 iv P U Fd) (atX0_movedValue dC dI cI (va_A [(ha, .inr (0, [.ref wa, .int us, .int ob])), (wa, .inl (cI, n, .inl f)), (hz, .inr (0, [.ref wz, .int us2, .int ob2])), (wz, .inl (cI, n, .inl f2))] sz) ha wa n hz wz) (va_A [(ha, .inr (0, [.ref wa, .int us, .int ob])), (wa, .inl (cI, n, .inl f)), (hz, .inr (0, [.ref wz, .int us2, .int ob2])), (wz, .inl (cI, n, .inl f2))] sz)) 0 0 (va_A [(ha, .inr (0, [.ref wa, .int us, .int ob])), (wa, .inl (cI, n, .inl f)), (hz, .inr (0, [.ref wz, .int us2, .int ob2])), (wz, .inl (cI, n, .inl f2))] sz) := by
  refine Met.ofW (cc := cX0_movedValue) (maxL := 4) (ret := (some .int)) (by decide) rfl ?_
  intro p e s m args below meth c s₁ B hml hv
  obtain ⟨rfl, hsz, hP, hK, hD0, hE⟩ := hv
  have hx := B.exec
  have hb := B.bytes
  have hr := B.returns
  have ht : ∀ w ∈ gT, w.before ([.ref ha, .int iv, .ref hz] : List Value).toArray s = true := fun w h => atoms_spec (ws := kX0_movedValue :: gT) B.pre w (List.mem_cons_of_mem _ h)
  have hown : s.vm.findClass RX0 = some m.cls := findClass_of_methodNamed B.named
  have hlocks := B.notSynchronized
  subst hsz
  have hD := hD0.self (sz := s.heap.size)
  generalize hAe : va_A [(ha, .inr (0, [.ref wa, .int us, .int ob])), (wa, .inl (cI, n, .inl f)), (hz, .inr (0, [.ref wz, .int us2, .int ob2])), (wz, .inl (cI, n, .inl f2))] s.heap.size = A at hD ⊢
  have hA : ∀ q : Nat, s.heap.size ≤ q → A q := fun q h => by rw [← hAe]; exact Or.inr h
  have hS : va_S A s.heap s.heap [] := va_S.rf
  have hl := lv_entry ([.ref ha, .int iv, .ref hz]) (n := 4) (Nat.le_of_ble_eq_true rfl)
  rw [lg_entry_eq]
  generalize (lg_sl ([.ref ha, .int iv, .ref hz]) ++ List.replicate (4 - (lg_sl ([.ref ha, .int iv, .ref hz])).length) Slot.unset).toArray = ls at hl ⊢
  have hl : lv_has ls 4 [(0, .ref ha), (1, .int iv), (2, .ref hz)] := hl
  refine lv_iload_n hx hb dX0_movedValue_0 rfl (lv_at hl 1 rfl) ?_
  refine vp_callSi (va_runSN (As := [.int iv]) (rest := []) ⟨hx, hb, hml, hown, ht⟩ (ctX1_isReference l iv) ⟨va_cnB 1 ht gcX0_32 rfl rfl rfl hE.n70 (ht _ g_1) (by decide +kernel) ⟨Nat.le_of_ble_eq_true rfl, Nat.le_of_ble_eq_true rfl⟩, ht _ g_71, trivial⟩ ⟨pT.blind, pT.call⟩ rfl rfl hl.1 rfl (lv_room (Nat.le_of_ble_eq_true rfl)) dX0_movedValue_1 ⟨Nat.le_of_ble_eq_true rfl, Nat.le_of_ble_eq_true rfl⟩).run (fun r_1 hr_1 => ?_)
  subst hr_1
  refine lv_if_ne (tgt := 9) hx hb dX0_movedValue_4 (by decide) (fun c_2 => ?_) (fun c_2 => ?_)
  · refine lv_iload_n hx hb dX0_movedValue_9 rfl (lv_at hl 1 rfl) ?_
    refine vp_callSi (va_runSN (As := [.int iv]) (rest := []) ⟨hx, hb, hml, hown, ht⟩ (ctX1_content l iv) ⟨va_cnB 1 ht gcX0_44 rfl rfl rfl hE.n73 (ht _ g_1) (by decide +kernel) ⟨Nat.le_of_ble_eq_true rfl, Nat.le_of_ble_eq_true rfl⟩, ht _ g_74, trivial⟩ ⟨pT.blind, pT.call⟩ rfl rfl hl.1 rfl (lv_room (Nat.le_of_ble_eq_true rfl)) dX0_movedValue_10 ⟨Nat.le_of_ble_eq_true rfl, Nat.le_of_ble_eq_true rfl⟩).run (fun r_3 hr_3 => ?_)
    subst hr_3
    refine lv_istore_n (lv' := [(3, .int (fX1_content iv)), (0, .ref ha), (1, .int iv), (2, .ref hz)]) hx hb dX0_movedValue_13 rfl hl (by decide) rfl (fun ls hl => ?_)
    refine lv_aload_n hx hb dX0_movedValue_14 rfl (lv_at hl 1 rfl) ?_
    refine lv_iload_n hx hb dX0_movedValue_15 rfl (lv_at hl 0 rfl) ?_
    have hPc := hP.sub (ws' := [(ha, .inr (0, [.ref wa, .int us, .int ob])), (wa, .inl (cI, n, .inl f))]) [0, 1] rfl
    have hKc := hK.sub (tys' := [(cI, .int)]) [0] rfl
    refine vp_callSi (va_runV (As := [.int (fX1_content iv)]) (rest := []) ⟨hx, hb, hml, hown, ht⟩ (ctX0_wordAt l dC dI cI ha wa n us ob f (fX1_content iv) hn) (cwV 1 ht gcX0_22 rfl rfl rfl (by decide +kernel) ⟨Nat.le_of_ble_eq_true rfl, Nat.le_of_ble_eq_true rfl⟩) ⟨pS.blind, va_recv hKc hPc (ci := 0) (q0 := 0) rfl rfl, pS.call hPc hKc hE⟩ rfl rfl hl.1 rfl (lv_room (Nat.le_of_ble_eq_true rfl)) dX0_movedValue_16 ⟨Nat.le_of_ble_eq_true rfl, Nat.le_of_ble_eq_true rfl⟩).run (fun r_4 hr_4 => ?_)
    subst hr_4
    refine lv_if_lt (tgt := 35) hx hb dX0_movedValue_19 (by decide) (fun c_5 => ?_) (fun c_5 => ?_)
    · refine lv_aload_n hx hb dX0_movedValue_35 rfl (lv_at hl 1 rfl) ?_
      refine lv_iload_n hx hb dX0_movedValue_36 rfl (lv_at hl 0 rfl) ?_
      have hPc := hP.sub (ws' := [(ha, .inr (0, [.ref wa, .int us, .int ob])), (wa, .inl (cI, n, .inl f))]) [0, 1] rfl
      have hKc := hK.sub (tys' := [(cI, .int)]) [0] rfl
      refine vp_callSi (va_runV (As := [.int (fX1_content iv)]) (rest := []) ⟨hx, hb, hml, hown, ht⟩ (ctX0_wordAt l dC dI cI ha wa n us ob f (fX1_content iv) hn) (cwV 1 ht gcX0_22 rfl rfl rfl (by decide +kernel) ⟨Nat.le_of_ble_eq_true rfl, Nat.le_of_ble_eq_true rfl⟩) ⟨pS.blind, va_recv hKc hPc (ci := 0) (q0 := 0) rfl rfl, pS.call hPc hKc hE⟩ rfl rfl hl.1 rfl (lv_room (Nat.le_of_ble_eq_true rfl)) dX0_movedValue_37 ⟨Nat.le_of_ble_eq_true rfl, Nat.le_of_ble_eq_true rfl⟩).run (fun r_6 hr_6 => ?_)
      subst hr_6
      refine lv_iconst (v := (-1)) hx hb dX0_movedValue_40 (by decide) ?_
      refine lv_ixor hx hb dX0_movedValue_41 ?_
      refine vp_callSi (va_runSN (As := [.int ((fX0_wordAt n f (fX1_content iv)) ^^^ (-1))]) (rest := []) ⟨hx, hb, hml, hown, ht⟩ (ctX1_asReference l ((fX0_wordAt n f (fX1_content iv)) ^^^ (-1))) ⟨va_cnB 1 ht gcX0_51 rfl rfl rfl hE.n96 (ht _ g_1) (by decide +kernel) ⟨Nat.le_of_ble_eq_true rfl, Nat.le_of_ble_eq_true rfl⟩, ht _ g_97, trivial⟩ ⟨pT.blind, pT.call⟩ rfl rfl hl.1 rfl (lv_room (Nat.le_of_ble_eq_true rfl)) dX0_movedValue_42 ⟨Nat.le_of_ble_eq_true rfl, Nat.le_of_ble_eq_true rfl⟩).run (fun r_7 hr_7 => ?_)
      subst hr_7
      have hP9 := hP.sub (ws' := [(ha, .inr (0, [.ref wa, .int us, .int ob])), (wa, .inl (cI, n, .inl f)), (hz, .inr (0, [.ref wz, .int us2, .int ob2])), (wz, .inl (cI, n, .inl f2))]) [0, 1, 2, 3] rfl
      have hD9 := hD.sub (ws' := [(ha, .inr (0, [.ref wa, .int us, .int ob])), (wa, .inl (cI, n, .inl f)), (hz, .inr (0, [.ref wz, .int us2, .int ob2])), (wz, .inl (cI, n, .inl f2))]) [0, 1, 2, 3] (by decide) rfl
      have hK9 := hK.sub (tys' := [(cI, .int)]) [0] rfl
      exact W.iret (v := fX1_asReference ((fX0_wordAt n f (fX1_content iv)) ^^^ (-1))) hx hb hr (fun t ht hW => ⟨⟨_, (us, ob, f, us2, ob2, f2), rfl, (by simp only [fX0_movedValue, if_neg c_2, if_pos c_5]), by rw [ht]; exact hP9, va_K.moved hW.alike hK9, hD9⟩, hS.F ht⟩) hS.2.2 dX0_movedValue_45
    · refine lv_aload_n hx hb dX0_movedValue_22 rfl (lv_at hl 1 rfl) ?_
      refine lv_iload_n hx hb dX0_movedValue_23 rfl (lv_at hl 0 rfl) ?_
      refine lv_aload_n hx hb dX0_movedValue_24 rfl (lv_at hl 1 rfl) ?_
      refine lv_iload_n hx hb dX0_movedValue_25 rfl (lv_at hl 0 rfl) ?_
      refine lv_aload_n hx hb dX0_movedValue_26 rfl (lv_at hl 3 rfl) ?_
      have hPc := hP.sub (ws' := [(ha, .inr (0, [.ref wa, .int us, .int ob])), (wa, .inl (cI, n, .inl f)), (hz, .inr (0, [.ref wz, .int us2, .int ob2])), (wz, .inl (cI, n, .inl f2))]) [0, 1, 2, 3] rfl
      have hKc := hK.sub (tys' := [(cI, .int)]) [0] rfl
      have hDc := hD.sub (ws' := [(ha, .inr (0, [.ref wa, .int us, .int ob])), (wa, .inl (cI, n, .inl f)), (hz, .inr (0, [.ref wz, .int us2, .int ob2])), (wz, .inl (cI, n, .inl f2))]) [0, 1, 2, 3] (by decide) rfl
      have hFc := va_free (wc := [(ha, .inr (0, [.ref wa, .int us, .int ob])), (wa, .inl (cI, n, .inl f)), (hz, .inr (0, [.ref wz, .int us2, .int ob2])), (wz, .inl (cI, n, .inl f2))]) hD hS hA [0, 1, 2, 3] rfl
      refine va_calli (va_runV (As := [.int (fX1_content iv), .ref hz]) (rest := [.int (fX1_content iv), .ref ha]) ⟨hx, hb, hml, hown, ht⟩ (ctX0_moveObject l dC dI cI ha wa n us ob f hz wz us2 ob2 f2 (fX1_content iv) P U Fd _ hn (hmo c_2 c_5).1 (hmo c_2 c_5).2.1 (hmo c_2 c_5).2.2.1 (hmo c_2 c_5).2.2.2.1 (hmo c_2 c_5).2.2.2.2) (cwV 2 ht gcX0_47 rfl rfl rfl (by decide +kernel) ⟨Nat.le_of_ble_eq_true rfl, Nat.le_of_ble_eq_true rfl⟩) ⟨pM.blind, va_recv hKc hPc (ci := 0) (q0 := 0) rfl rfl, pM.call hPc hKc hDc hE⟩ rfl rfl hl.1 rfl (lv_room (Nat.le_of_ble_eq_true rfl)) dX0_movedValue_27 ⟨Nat.le_of_ble_eq_true rfl, Nat.le_of_ble_eq_true rfl⟩) hS (fun q _ h => hFc q h) hFc (fun r_9 u_8 t H1 locs ht9 hvm hw hB hz1 hk1 hS => ?_)
      obtain ⟨rfl, rfl⟩ : r_9 = (fX0_moveObject ob2 f f2 P U Fd).1 ∧ u_8 = (fX0_moveObject ob2 f f2 P U Fd).2 := by rw [← hw]; exact ⟨rfl, rfl⟩
      obtain ⟨hP1, hK1, hD1⟩ := hB
      rw [ht9] at hP1
      obtain ⟨hP, hD⟩ := va_join (wr := []) (w1 := [(ha, .inr (0, [.ref wa, .int us, .int ob])), (wa, .inl (cI, n, .inl f)), (hz, .inr (0, [.ref wz, .int (((fX0_moveObject ob2 f f2 P U Fd).2).1), .int (((fX0_moveObject ob2 f f2 P U Fd).2).2.1)])), (wz, .inl (cI, n, .inl (((fX0_moveObject ob2 f f2 P U Fd).2).2.2)))]) hP hD [0, 1, 2, 3] [] rfl rfl (by decide) (by decide) hk1 hFc hP1 hD1
      generalize H1 = H at hP hS ⊢
      have hP := hP.sub (ws' := [(ha, .inr (0, [.ref wa, .int us, .int ob])), (wa, .inl (cI, n, .inl f)), (hz, .inr (0, [.ref wz, .int (((fX0_moveObject ob2 f f2 P U Fd).2).1), .int (((fX0_moveObject ob2 f f2 P U Fd).2).2.1)])), (wz, .inl (cI, n, .inl (((fX0_moveObject ob2 f f2 P U Fd).2).2.2)))]) [0, 1, 2, 3] rfl
      have hD := hD.sub (ws' := [(ha, .inr (0, [.ref wa, .int us, .int ob])), (wa, .inl (cI, n, .inl f)), (hz, .inr (0, [.ref wz, .int (((fX0_moveObject ob2 f f2 P U Fd).2).1), .int (((fX0_moveObject ob2 f f2 P U Fd).2).2.1)])), (wz, .inl (cI, n, .inl (((fX0_moveObject ob2 f f2 P U Fd).2).2.2)))]) [0, 1, 2, 3] (by decide) rfl
      refine lv_iconst (v := (-1)) hx hb dX0_movedValue_30 (by decide) ?_
      refine lv_ixor hx hb dX0_movedValue_31 ?_
      have hPc := hP.sub (ws' := [(ha, .inr (0, [.ref wa, .int us, .int ob])), (wa, .inl (cI, n, .inl f))]) [0, 1] rfl
      have hKc := hK.sub (tys' := [(cI, .int)]) [0] rfl
      have hDc := hD.sub (ws' := [(ha, .inr (0, [.ref wa, .int us, .int ob])), (wa, .inl (cI, n, .inl f))]) [0, 1] (by decide) rfl
      have hFc := va_free (wc := [(ha, .inr (0, [.ref wa, .int us, .int ob])), (wa, .inl (cI, n, .inl f))]) hD hS hA [0, 1] rfl
      refine va_callv (va_runV (As := [.int (fX1_content iv), .int (((fX0_moveObject ob2 f f2 P U Fd).1) ^^^ (-1))]) (rest := []) ⟨hx, hb, hml, hown, ht⟩ (ctX0_setWord l dC dI cI ha wa n us ob f (fX1_content iv) (((fX0_moveObject ob2 f f2 P U Fd).1) ^^^ (-1)) _ hn) (cwV 2 ht gcX0_40 rfl rfl rfl (by decide +kernel) ⟨Nat.le_of_ble_eq_true rfl, Nat.le_of_ble_eq_true rfl⟩) ⟨pM.blind, va_recv hKc hPc (ci := 0) (q0 := 0) rfl rfl, pM.call hPc hKc hDc hE⟩ rfl rfl hl.1 rfl (lv_room (Nat.le_of_ble_eq_true rfl)) dX0_movedValue_32 ⟨Nat.le_of_ble_eq_true rfl, Nat.le_of_ble_eq_true rfl⟩) hS (fun q _ h => hFc q h) hFc (fun u_10 t H1 locs ht9 hvm hw hB hz1 hk1 hS => ?_)
      subst hw
      obtain ⟨hP1, hK1, hD1⟩ := hB
      rw [ht9] at hP1
      obtain ⟨hP, hD⟩ := va_join (wr := [(hz, .inr (0, [.ref wz, .int (((fX0_moveObject ob2 f f2 P U Fd).2).1), .int (((fX0_moveObject ob2 f f2 P U Fd).2).2.1)])), (wz, .inl (cI, n, .inl (((fX0_moveObject ob2 f f2 P U Fd).2).2.2)))]) (w1 := [(ha, .inr (0, [.ref wa, .int ((fX0_setWord n us ob f (fX1_content iv) (((fX0_moveObject ob2 f f2 P U Fd).1) ^^^ (-1))).1), .int ((fX0_setWord n us ob f (fX1_content iv) (((fX0_moveObject ob2 f f2 P U Fd).1) ^^^ (-1))).2.1)])), (wa, .inl (cI, n, .inl ((fX0_setWord n us ob f (fX1_content iv) (((fX0_moveObject ob2 f f2 P U Fd).1) ^^^ (-1))).2.2)))]) hP hD [0, 1] [2, 3] rfl rfl (by decide) (by decide) hk1 hFc hP1 hD1
      generalize H1 = H at hP hS ⊢
      have hP := hP.sub (ws' := [(ha, .inr (0, [.ref wa, .int ((fX0_setWord n us ob f (fX1_content iv) (((fX0_moveObject ob2 f f2 P U Fd).1) ^^^ (-1))).1), .int ((fX0_setWord n us ob f (fX1_content iv) (((fX0_moveObject ob2 f f2 P U Fd).1) ^^^ (-1))).2.1)])), (wa, .inl (cI, n, .inl ((fX0_setWord n us ob f (fX1_content iv) (((fX0_moveObject ob2 f f2 P U Fd).1) ^^^ (-1))).2.2))), (hz, .inr (0, [.ref wz, .int (((fX0_moveObject ob2 f f2 P U Fd).2).1), .int (((fX0_moveObject ob2 f f2 P U Fd).2).2.1)])), (wz, .inl (cI, n, .inl (((fX0_moveObject ob2 f f2 P U Fd).2).2.2)))]) [2, 3, 0, 1] rfl
      have hD := hD.sub (ws' := [(ha, .inr (0, [.ref wa, .int ((fX0_setWord n us ob f (fX1_content iv) (((fX0_moveObject ob2 f f2 P U Fd).1) ^^^ (-1))).1), .int ((fX0_setWord n us ob f (fX1_content iv) (((fX0_moveObject ob2 f f2 P U Fd).1) ^^^ (-1))).2.1)])), (wa, .inl (cI, n, .inl ((fX0_setWord n us ob f (fX1_content iv) (((fX0_moveObject ob2 f f2 P U Fd).1) ^^^ (-1))).2.2))), (hz, .inr (0, [.ref wz, .int (((fX0_moveObject ob2 f f2 P U Fd).2).1), .int (((fX0_moveObject ob2 f f2 P U Fd).2).2.1)])), (wz, .inl (cI, n, .inl (((fX0_moveObject ob2 f f2 P U Fd).2).2.2)))]) [2, 3, 0, 1] (by decide) rfl
      refine lv_aload_n hx hb dX0_movedValue_35 rfl (lv_at hl 1 rfl) ?_
      refine lv_iload_n hx hb dX0_movedValue_36 rfl (lv_at hl 0 rfl) ?_
      have hPc := hP.sub (ws' := [(ha, .inr (0, [.ref wa, .int ((fX0_setWord n us ob f (fX1_content iv) (((fX0_moveObject ob2 f f2 P U Fd).1) ^^^ (-1))).1), .int ((fX0_setWord n us ob f (fX1_content iv) (((fX0_moveObject ob2 f f2 P U Fd).1) ^^^ (-1))).2.1)])), (wa, .inl (cI, n, .inl ((fX0_setWord n us ob f (fX1_content iv) (((fX0_moveObject ob2 f f2 P U Fd).1) ^^^ (-1))).2.2)))]) [0, 1] rfl
      have hKc := hK.sub (tys' := [(cI, .int)]) [0] rfl
      refine vp_callSi (va_runV (As := [.int (fX1_content iv)]) (rest := []) ⟨hx, hb, hml, hown, ht⟩ (ctX0_wordAt l dC dI cI ha wa n ((fX0_setWord n us ob f (fX1_content iv) (((fX0_moveObject ob2 f f2 P U Fd).1) ^^^ (-1))).1) ((fX0_setWord n us ob f (fX1_content iv) (((fX0_moveObject ob2 f f2 P U Fd).1) ^^^ (-1))).2.1) ((fX0_setWord n us ob f (fX1_content iv) (((fX0_moveObject ob2 f f2 P U Fd).1) ^^^ (-1))).2.2) (fX1_content iv) hn) (cwV 1 ht gcX0_22 rfl rfl rfl (by decide +kernel) ⟨Nat.le_of_ble_eq_true rfl, Nat.le_of_ble_eq_true rfl⟩) ⟨pS.blind, va_recv hKc hPc (ci := 0) (q0 := 0) rfl rfl, pS.call hPc hKc hE⟩ rfl rfl hl.1 rfl (lv_room (Nat.le_of_ble_eq_true rfl)) dX0_movedValue_37 ⟨Nat.le_of_ble_eq_true rfl, Nat.le_of_ble_eq_true rfl⟩).run (fun r_11 hr_11 => ?_)
      subst hr_11
      refine lv_iconst (v := (-1)) hx hb dX0_movedValue_40 (by decide) ?_
      refine lv_ixor hx hb dX0_movedValue_41 ?_
      refine vp_callSi (va_runSN (As := [.int ((fX0_wordAt n ((fX0_setWord n us ob f (fX1_content iv) (((fX0_moveObject ob2 f f2 P U Fd).1) ^^^ (-1))).2.2) (fX1_content iv)) ^^^ (-1))]) (rest := []) ⟨hx, hb, hml, hown, ht⟩ (ctX1_asReference l ((fX0_wordAt n ((fX0_setWord n us ob f (fX1_content iv) (((fX0_moveObject ob2 f f2 P U Fd).1) ^^^ (-1))).2.2) (fX1_content iv)) ^^^ (-1))) ⟨va_cnB 1 ht gcX0_51 rfl rfl rfl hE.n96 (ht _ g_1) (by decide +kernel) ⟨Nat.le_of_ble_eq_true rfl, Nat.le_of_ble_eq_true rfl⟩, ht _ g_97, trivial⟩ ⟨pT.blind, pT.call⟩ rfl rfl hl.1 rfl (lv_room (Nat.le_of_ble_eq_true rfl)) dX0_movedValue_42 ⟨Nat.le_of_ble_eq_true rfl, Nat.le_of_ble_eq_true rfl⟩).run (fun r_12 hr_12 => ?_)
      subst hr_12
      have hP9 := hP.sub (ws' := [(ha, .inr (0, [.ref wa, .int ((fX0_setWord n us ob f (fX1_content iv) (((fX0_moveObject ob2 f f2 P U Fd).1) ^^^ (-1))).1), .int ((fX0_setWord n us ob f (fX1_content iv) (((fX0_moveObject ob2 f f2 P U Fd).1) ^^^ (-1))).2.1)])), (wa, .inl (cI, n, .inl ((fX0_setWord n us ob f (fX1_content iv) (((fX0_moveObject ob2 f f2 P U Fd).1) ^^^ (-1))).2.2))), (hz, .inr (0, [.ref wz, .int (((fX0_moveObject ob2 f f2 P U Fd).2).1), .int (((fX0_moveObject ob2 f f2 P U Fd).2).2.1)])), (wz, .inl (cI, n, .inl (((fX0_moveObject ob2 f f2 P U Fd).2).2.2)))]) [0, 1, 2, 3] rfl
      have hD9 := hD.sub (ws' := [(ha, .inr (0, [.ref wa, .int ((fX0_setWord n us ob f (fX1_content iv) (((fX0_moveObject ob2 f f2 P U Fd).1) ^^^ (-1))).1), .int ((fX0_setWord n us ob f (fX1_content iv) (((fX0_moveObject ob2 f f2 P U Fd).1) ^^^ (-1))).2.1)])), (wa, .inl (cI, n, .inl ((fX0_setWord n us ob f (fX1_content iv) (((fX0_moveObject ob2 f f2 P U Fd).1) ^^^ (-1))).2.2))), (hz, .inr (0, [.ref wz, .int (((fX0_moveObject ob2 f f2 P U Fd).2).1), .int (((fX0_moveObject ob2 f f2 P U Fd).2).2.1)])), (wz, .inl (cI, n, .inl (((fX0_moveObject ob2 f f2 P U Fd).2).2.2)))]) [0, 1, 2, 3] (by decide) rfl
      have hK9 := hK.sub (tys' := [(cI, .int)]) [0] rfl
      exact W.iret (v := fX1_asReference ((fX0_wordAt n ((fX0_setWord n us ob f (fX1_content iv) (((fX0_moveObject ob2 f f2 P U Fd).1) ^^^ (-1))).2.2) (fX1_content iv)) ^^^ (-1))) hx hb hr (fun t ht hW => ⟨⟨_, ((fX0_setWord n us ob f (fX1_content iv) (((fX0_moveObject ob2 f f2 P U Fd).1) ^^^ (-1))).1, (fX0_setWord n us ob f (fX1_content iv) (((fX0_moveObject ob2 f f2 P U Fd).1) ^^^ (-1))).2.1, (fX0_setWord n us ob f (fX1_content iv) (((fX0_moveObject ob2 f f2 P U Fd).1) ^^^ (-1))).2.2, ((fX0_moveObject ob2 f f2 P U Fd).2).1, ((fX0_moveObject ob2 f f2 P U Fd).2).2.1, ((fX0_moveObject ob2 f f2 P U Fd).2).2.2), rfl, (by simp only [fX0_movedValue, if_neg c_2, if_neg c_5]), by rw [ht]; exact hP9, va_K.moved hW.alike hK9, hD9⟩, hS.F ht⟩) hS.2.2 dX0_movedValue_45
  · refine lv_iload_n hx hb dX0_movedValue_7 rfl (lv_at hl 1 rfl) ?_
    have hP9 := hP.sub (ws' := [(ha, .inr (0, [.ref wa, .int us, .int ob])), (wa, .inl (cI, n, .inl f)), (hz, .inr (0, [.ref wz, .int us2, .int ob2])), (wz, .inl (cI, n, .inl f2))]) [0, 1, 2, 3] rfl
    have hD9 := hD.sub (ws' := [(ha, .inr (0, [.ref wa, .int us, .int ob])), (wa, .inl (cI, n, .inl f)), (hz, .inr (0, [.ref wz, .int us2, .int ob2])), (wz, .inl (cI, n, .inl f2))]) [0, 1, 2, 3] (by decide) rfl
    have hK9 := hK.sub (tys' := [(cI, .int)]) [0] rfl
    exact W.iret (v := iv) hx hb hr (fun t ht hW => ⟨⟨_, (us, ob, f, us2, ob2, f2), rfl, (by simp only [fX0_movedValue, if_pos c_2]), by rw [ht]; exact hP9, va_K.moved hW.alike hK9, hD9⟩, hS.F ht⟩) hS.2.2 dX0_movedValue_8
