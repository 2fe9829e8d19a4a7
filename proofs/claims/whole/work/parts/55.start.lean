theorem cpl0 {n : Nat} (hn : n ≤ 2063) : CplT n ((fun _ => 0), 0, 0, (fun _ => 0), 0, 0, (fun _ => 0), 0, 0) (0, 0, 0, 0, (fun _ => 0), (fun _ => 0), (fun _ => 0), (fun _ => 0), va_cpy (fun _ => 1) (fun _ => 0) 0 0 8, (fun _ => 0), 0, (fun _ => 0), (fun _ => 0)) := by
  refine ⟨0, ⟨Nat.zero_le _, hn, fun h => absurd h (by decide), fun k hk => absurd hk (Nat.not_lt_zero _), fun k hk => absurd hk (Nat.not_lt_zero _), fun k hk => absurd hk (Nat.not_lt_zero _)⟩, rfl, rfl, rfl, rfl, rfl, fun k hk => absurd hk (Nat.not_lt_zero _), fun r hr => Or.inl ⟨?_, (by decide : (0 : Int32) = fX1_asNumber 0), (by decide : fX2_kept 0 = 0)⟩⟩
  show va_cpy (fun _ => (1 : Int32)) (fun _ => 0) 0 0 8 r = 1
  rw [pk_cpy_in (Nat.zero_le _) (by omega)]
set_option maxHeartbeats 4000000 in
set_option maxRecDepth 100000 in
theorem whole_start {p : Program} {e : Env} {s : State} {m : MethodId} {below : List Frame} {meth : Method} {c : Code} (l : Launch) (hl9 : l.stackTraces = false) {b L : Nat} {xs : Nat → Int32} (hL : L ≤ 2049) (C0 : lw_At p s m meth c b L xs) : W p l e room_1 s m #[Value.ref b] below meth c s.heap [] 0 0 (lw_Z below #[Value.ref b] s) (entryFrame m ([Value.ref b] : List Value).toArray 7) := by
  obtain ⟨hx, hb, hr, hml, hown, hts0, hsc, hbl, hlocks, hgv⟩ := id C0
  obtain ⟨hE, hC9, sa, hX⟩ := lawE hts0 hgv
  have ht := gT_tbl hts0
  obtain ⟨A, hAe⟩ : ∃ A : Nat → Prop, A = (fun q : Nat => s.heap.size ≤ q) := ⟨_, rfl⟩
  rw [← hAe] at hX
  have hA : ∀ q : Nat, s.heap.size ≤ q → A q := fun q h => by rw [hAe]; exact h
  have hAz : ∀ q : Nat, A q → s.heap.size ≤ q := fun q h => by rw [hAe] at h; exact h
  have hbA : ¬ A b := fun h => absurd (hAz b h) (Nat.not_le.mpr hbl)
  obtain ⟨c0, iS0, hKn0⟩ := u_known (C := RX0) (T := TX0) (N := 3) (n := 3) ht iX0 (ht _ g_19)
  obtain ⟨c1, iS1, hKn1⟩ := u_known (C := RX1) (T := TX1) (N := 5) (n := 5) ht iX1 (ht _ g_11)
  obtain ⟨c2, iS2, hKn2⟩ := u_known (C := RX2) (T := TX2) (N := 14) (n := 14) ht iX2 (ht _ g_321)
  obtain ⟨dC, dI, hKc⟩ : ∃ (dC : Nat → ClassId) (dI : Nat → Nat → Nat), ∀ (k : Nat) (q : vw_C), vwCl[k]? = some q → u_Kn s q.1 q.2.1 q.2.2 (dC k) (dI k) := by
    refine ⟨fun k => if k = 0 then c0 else if k = 1 then c1 else c2, fun k => if k = 0 then iS0 else if k = 1 then iS1 else iS2, ?_⟩
    intro k q hq
    match k, hq with
    | 0, hq => cases hq; exact hKn0
    | 1, hq => cases hq; exact hKn1
    | 2, hq => cases hq; exact hKn2
    | k + 3, hq => simp [vwCl] at hq
  have hS : va_S A s.heap s.heap [] := va_S.rf
  have hK : va_K (dC, dI) vwCl [] s := ⟨hKc, fun k q h => by simp at h⟩
  have hP : va_P (dC, dI) vwCl [] s.heap := fun k q h => by simp at h
  have hD : va_D A [] := ⟨fun i j p q h => by simp at h, fun k q h => by simp at h⟩
  obtain ⟨n, hn16, hnb, hN⟩ := ctN (fcl L xs 0)
  have hl := lv_entry ([.ref b]) (n := 7) (Nat.le_of_ble_eq_true rfl)
  rw [lg_entry_eq]
  generalize (lg_sl ([.ref b]) ++ List.replicate (7 - (lg_sl ([.ref b])).length) Slot.unset).toArray = ls at hl ⊢
  have hl : lv_has ls 7 [(0, .ref b)] := hl
  refine va_new (ci := 1) (fs := [.null, .null, .null, .int 0, .int 0]) (C := RX1) (T := TX1) (N := 5) hx hb ht iX1 tyX1 tkX1 hown (ht _ g_10) (ht _ g_11) (ht _ g_1) hK hP hD hS hA rfl (fun j hj => by rcases (show j = 0 ∨ j = 1 ∨ j = 2 ∨ j = 3 ∨ j = 4 by omega) with rfl | rfl | rfl | rfl | rfl <;> rfl) (Nat.le_of_ble_eq_true rfl) (Nat.le_of_ble_eq_true rfl) dL_law_0 (fun q0 H hP hD hS => ?_)
  refine W.widen (k := 1) (n := 5) (by omega) (by omega) ?_
  have hP : va_P (dC, dI) vwCl [(q0, .inr (1, [.null, .null, .null, .int 0, .int 0]))] H := hP
  have hD : va_D A [(q0, .inr (1, [.null, .null, .null, .int 0, .int 0]))] := hD
  refine lv_dup hx hb dL_law_3 rfl ?_
  refine lv_aload_n hx hb dL_law_4 rfl (lv_at hl 0 rfl) ?_
  refine lv_iconst (v := 0) hx hb dL_law_5 (by decide) ?_
  refine vp_callSi (va_runS (As := [.ref b, .int 0]) (rest := [.ref q0, .ref q0]) ⟨hx, hb, hml, hown, ht⟩ (ctL_cell l b L xs (by omega)) (cwS 2 ht gcL_48 rfl rfl rfl (by decide +kernel) ⟨Nat.le_of_ble_eq_true rfl, Nat.le_of_ble_eq_true rfl⟩) ⟨pX.blind, pX.call hsc hbl hbA hS⟩ rfl rfl hl.1 rfl (lv_room (Nat.le_of_ble_eq_true rfl)) dL_law_6 ⟨Nat.le_of_ble_eq_true rfl, Nat.le_of_ble_eq_true rfl⟩).run (fun r6 hr6 => ?_)
  subst hr6
  have hPc := hP.sub (ws' := [(q0, .inr (1, [.null, .null, .null, .int 0, .int 0]))]) [0] rfl
  have hKc := hK.sub (tys' := []) [] rfl
  have hDc := hD.sub (ws' := [(q0, .inr (1, [.null, .null, .null, .int 0, .int 0]))]) [0] (by decide) rfl
  have hFc := va_free (wc := [(q0, .inr (1, [.null, .null, .null, .int 0, .int 0]))]) hD hS hA [0] rfl
  refine va_callv (va_runI (As := [.int (fcl L xs 0)]) (rest := [.ref q0]) ⟨hx, hb, hml, hown, ht⟩ (ctX1_init l dC dI q0 n (fcl L xs 0) _ hN hnb) (cwI 1 ht gcL_54 rfl rfl rfl (ht _ g_1) (ht _ g_12) (ht _ g_13) rfl (by decide +kernel) ⟨Nat.le_of_ble_eq_true rfl, Nat.le_of_ble_eq_true rfl⟩) ⟨pM.blind, pM.call hPc hKc hDc hE⟩ rfl rfl hl.1 rfl (lv_room (Nat.le_of_ble_eq_true rfl)) dL_law_9 ⟨Nat.le_of_ble_eq_true rfl, Nat.le_of_ble_eq_true rfl⟩) hS (fun q _ h => hFc q h) hFc (fun v_1 t H1 locs ht9 hvm hw hB hz1 hk1 hS => ?_)
  obtain ⟨⟨ar9, ha9, wa9, hz9, wz9⟩, c9⟩ := v_1
  obtain ⟨hP1, hK1, hD1⟩ := hB
  rw [ht9] at hP1
  have hK1 := va_K.moved hvm.symm hK1
  obtain ⟨cI, hcI⟩ : ∃ z, z = c9 := ⟨_, rfl⟩
  subst hcI
  have hK := hK.app hK1
  have hK : va_K (dC, dI) vwCl [(cI, .int)] s := hK
  obtain ⟨hP, hD⟩ := va_join (wr := []) (w1 := [(q0, .inr (1, [.ref ar9, .ref ha9, .ref hz9, .int 0, .int 0])), (ar9, .inl (cI, 8, .inl (fun _ => 0))), (ha9, .inr (0, [.ref wa9, .int 0, .int 0])), (wa9, .inl (cI, n, .inl (fun _ => 0))), (hz9, .inr (0, [.ref wz9, .int 0, .int 0])), (wz9, .inl (cI, n, .inl (fun _ => 0)))]) hP hD [0] [] rfl rfl (by decide) (by decide) hk1 hFc hP1 hD1
  generalize H1 = H at hP hS ⊢
  have hP : va_P (dC, dI) vwCl [(q0, .inr (1, [.ref ar9, .ref ha9, .ref hz9, .int 0, .int 0])), (ar9, .inl (cI, 8, .inl (fun _ => 0))), (ha9, .inr (0, [.ref wa9, .int 0, .int 0])), (wa9, .inl (cI, n, .inl (fun _ => 0))), (hz9, .inr (0, [.ref wz9, .int 0, .int 0])), (wz9, .inl (cI, n, .inl (fun _ => 0)))] H := hP
  have hD : va_D A [(q0, .inr (1, [.ref ar9, .ref ha9, .ref hz9, .int 0, .int 0])), (ar9, .inl (cI, 8, .inl (fun _ => 0))), (ha9, .inr (0, [.ref wa9, .int 0, .int 0])), (wa9, .inl (cI, n, .inl (fun _ => 0))), (hz9, .inr (0, [.ref wz9, .int 0, .int 0])), (wz9, .inl (cI, n, .inl (fun _ => 0)))] := hD
  refine W.widen (k := 6) (n := 4145) (by omega) (by omega) ?_
  refine lv_astore_n (lv' := [(1, .ref q0), (0, .ref b)]) hx hb dL_law_12 rfl hl (by decide) rfl (fun ls hl => ?_)
  refine va_new (ci := 2) (fs := [.int 0, .int 0, .int 0, .int 0, .int 0, .null, .null, .null, .null, .null, .null, .int 0, .null, .null]) (C := RX2) (T := TX2) (N := 14) hx hb ht iX2 tyX2 tkX2 hown (ht _ g_320) (ht _ g_321) (ht _ g_3) hK hP hD hS hA rfl (fun j hj => by rcases (show j = 0 ∨ j = 1 ∨ j = 2 ∨ j = 3 ∨ j = 4 ∨ j = 5 ∨ j = 6 ∨ j = 7 ∨ j = 8 ∨ j = 9 ∨ j = 10 ∨ j = 11 ∨ j = 12 ∨ j = 13 by omega) with rfl | rfl | rfl | rfl | rfl | rfl | rfl | rfl | rfl | rfl | rfl | rfl | rfl | rfl <;> rfl) (Nat.le_of_ble_eq_true rfl) (Nat.le_of_ble_eq_true rfl) dL_law_13 (fun q13 H hP hD hS => ?_)
  refine W.widen (k := 7) (n := 4159) (by omega) (by omega) ?_
  have hP : va_P (dC, dI) vwCl [(q0, .inr (1, [.ref ar9, .ref ha9, .ref hz9, .int 0, .int 0])), (ar9, .inl (cI, 8, .inl (fun _ => 0))), (ha9, .inr (0, [.ref wa9, .int 0, .int 0])), (wa9, .inl (cI, n, .inl (fun _ => 0))), (hz9, .inr (0, [.ref wz9, .int 0, .int 0])), (wz9, .inl (cI, n, .inl (fun _ => 0))), (q13, .inr (2, [.int 0, .int 0, .int 0, .int 0, .int 0, .null, .null, .null, .null, .null, .null, .int 0, .null, .null]))] H := hP
  have hD : va_D A [(q0, .inr (1, [.ref ar9, .ref ha9, .ref hz9, .int 0, .int 0])), (ar9, .inl (cI, 8, .inl (fun _ => 0))), (ha9, .inr (0, [.ref wa9, .int 0, .int 0])), (wa9, .inl (cI, n, .inl (fun _ => 0))), (hz9, .inr (0, [.ref wz9, .int 0, .int 0])), (wz9, .inl (cI, n, .inl (fun _ => 0))), (q13, .inr (2, [.int 0, .int 0, .int 0, .int 0, .int 0, .null, .null, .null, .null, .null, .null, .int 0, .null, .null]))] := hD
  refine lv_dup hx hb dL_law_16 rfl ?_
  refine lv_aload_n hx hb dL_law_17 rfl (lv_at hl 1 rfl) ?_
  refine lv_iconst (v := 0) hx hb dL_law_18 (by decide) ?_
  refine vp_callSi (va_runS (As := [.ref b, .int 0]) (rest := [.ref q13, .ref q13]) ⟨hx, hb, hml, hown, ht⟩ (ctL_cell l b L xs (by omega)) (cwS 2 ht gcL_48 rfl rfl rfl (by decide +kernel) ⟨Nat.le_of_ble_eq_true rfl, Nat.le_of_ble_eq_true rfl⟩) ⟨pX.blind, pX.call hsc hbl hbA hS⟩ rfl rfl hl.1 rfl (lv_room (Nat.le_of_ble_eq_true rfl)) dL_law_19 ⟨Nat.le_of_ble_eq_true rfl, Nat.le_of_ble_eq_true rfl⟩).run (fun r19 hr19 => ?_)
  subst hr19
  have hPc := hP.sub (ws' := [(q13, .inr (2, [.int 0, .int 0, .int 0, .int 0, .int 0, .null, .null, .null, .null, .null, .null, .int 0, .null, .null]))]) [6] rfl
  have hKc := hK.sub (tys' := []) [] rfl
  have hDc := hD.sub (ws' := [(q13, .inr (2, [.int 0, .int 0, .int 0, .int 0, .int 0, .null, .null, .null, .null, .null, .null, .int 0, .null, .null]))]) [6] (by decide) rfl
  have hFc := va_free (wc := [(q13, .inr (2, [.int 0, .int 0, .int 0, .int 0, .int 0, .null, .null, .null, .null, .null, .null, .int 0, .null, .null]))]) hD hS hA [6] rfl
  refine va_callv (va_runI (As := [.int (fcl L xs 0)]) (rest := [.ref q13]) ⟨hx, hb, hml, hown, ht⟩ (ctX2_init l dC dI q13 n (fcl L xs 0) _ hN hnb) (cwI 1 ht gcL_59 rfl rfl rfl (ht _ g_3) (ht _ g_322) (ht _ g_323) rfl (by decide +kernel) ⟨Nat.le_of_ble_eq_true rfl, Nat.le_of_ble_eq_true rfl⟩) ⟨pM.blind, pM.call hPc hKc hDc hE⟩ rfl rfl hl.1 rfl (lv_room (Nat.le_of_ble_eq_true rfl)) dL_law_22 ⟨Nat.le_of_ble_eq_true rfl, Nat.le_of_ble_eq_true rfl⟩) hS (fun q _ h => hFc q h) hFc (fun v_2 t H1 locs ht9 hvm hw hB hz1 hk1 hS => ?_)
  obtain ⟨⟨aso22, ava22, ans22, anv22, ars22, arv22, ast22, ago22⟩, c9⟩ := v_2
  obtain ⟨hP1, hK1, hD1⟩ := hB
  rw [ht9] at hP1
  have hK1 := va_K.moved hvm.symm hK1
  have hK := hK.app hK1
  obtain rfl : cI = c9 := cAeq hK (i := 0) (j := 1) rfl rfl
  have hK := hK.sub (tys' := [(cI, .int)]) [0] rfl
  obtain ⟨hP, hD⟩ := va_join (wr := [(q0, .inr (1, [.ref ar9, .ref ha9, .ref hz9, .int 0, .int 0])), (ar9, .inl (cI, 8, .inl (fun _ => 0))), (ha9, .inr (0, [.ref wa9, .int 0, .int 0])), (wa9, .inl (cI, n, .inl (fun _ => 0))), (hz9, .inr (0, [.ref wz9, .int 0, .int 0])), (wz9, .inl (cI, n, .inl (fun _ => 0)))]) (w1 := [(q13, .inr (2, [.int 0, .int (nI n), .int 0, .int 0, .int 0, .ref aso22, .ref ava22, .ref ans22, .ref anv22, .ref ars22, .ref arv22, .int 0, .ref ast22, .ref ago22])), (aso22, .inl (cI, 2100, .inl (fun _ => 0))), (ava22, .inl (cI, 2100, .inl (fun _ => 0))), (ans22, .inl (cI, 2100, .inl (fun _ => 0))), (anv22, .inl (cI, 2100, .inl (fun _ => 0))), (ars22, .inl (cI, 8, .inl (va_cpy (fun _ => 1) (fun _ => 0) 0 0 8))), (arv22, .inl (cI, 8, .inl (fun _ => 0))), (ast22, .inl (cI, 2100, .inl (fun _ => 0))), (ago22, .inl (cI, 2100, .inl (fun _ => 0)))]) hP hD [6] [0, 1, 2, 3, 4, 5] rfl rfl (by decide) (by decide) hk1 hFc hP1 hD1
  generalize H1 = H at hP hS ⊢
  have hP : va_P (dC, dI) vwCl [(q0, .inr (1, [.ref ar9, .ref ha9, .ref hz9, .int 0, .int 0])), (ar9, .inl (cI, 8, .inl (fun _ => 0))), (ha9, .inr (0, [.ref wa9, .int 0, .int 0])), (wa9, .inl (cI, n, .inl (fun _ => 0))), (hz9, .inr (0, [.ref wz9, .int 0, .int 0])), (wz9, .inl (cI, n, .inl (fun _ => 0))), (q13, .inr (2, [.int 0, .int (nI n), .int 0, .int 0, .int 0, .ref aso22, .ref ava22, .ref ans22, .ref anv22, .ref ars22, .ref arv22, .int 0, .ref ast22, .ref ago22])), (aso22, .inl (cI, 2100, .inl (fun _ => 0))), (ava22, .inl (cI, 2100, .inl (fun _ => 0))), (ans22, .inl (cI, 2100, .inl (fun _ => 0))), (anv22, .inl (cI, 2100, .inl (fun _ => 0))), (ars22, .inl (cI, 8, .inl (va_cpy (fun _ => 1) (fun _ => 0) 0 0 8))), (arv22, .inl (cI, 8, .inl (fun _ => 0))), (ast22, .inl (cI, 2100, .inl (fun _ => 0))), (ago22, .inl (cI, 2100, .inl (fun _ => 0)))] H := hP
  have hD : va_D A [(q0, .inr (1, [.ref ar9, .ref ha9, .ref hz9, .int 0, .int 0])), (ar9, .inl (cI, 8, .inl (fun _ => 0))), (ha9, .inr (0, [.ref wa9, .int 0, .int 0])), (wa9, .inl (cI, n, .inl (fun _ => 0))), (hz9, .inr (0, [.ref wz9, .int 0, .int 0])), (wz9, .inl (cI, n, .inl (fun _ => 0))), (q13, .inr (2, [.int 0, .int (nI n), .int 0, .int 0, .int 0, .ref aso22, .ref ava22, .ref ans22, .ref anv22, .ref ars22, .ref arv22, .int 0, .ref ast22, .ref ago22])), (aso22, .inl (cI, 2100, .inl (fun _ => 0))), (ava22, .inl (cI, 2100, .inl (fun _ => 0))), (ans22, .inl (cI, 2100, .inl (fun _ => 0))), (anv22, .inl (cI, 2100, .inl (fun _ => 0))), (ars22, .inl (cI, 8, .inl (va_cpy (fun _ => 1) (fun _ => 0) 0 0 8))), (arv22, .inl (cI, 8, .inl (fun _ => 0))), (ast22, .inl (cI, 2100, .inl (fun _ => 0))), (ago22, .inl (cI, 2100, .inl (fun _ => 0)))] := hD
  refine W.widen (k := 15) (n := 16775) (by omega) (by omega) ?_
  refine lv_astore_n (lv' := [(2, .ref q13), (1, .ref q0), (0, .ref b)]) hx hb dL_law_25 rfl hl (by decide) rfl (fun ls hl => ?_)
  refine lv_iconst (v := 1) hx hb dL_law_26 (by decide) ?_
  refine va_newa (atype := .long) (ty := .long) (a0 := (1, .inr (.inl (fun _ => 0)))) hx hb (ht _ g_447) rfl hK hP hD hS hA (fun cA => rfl) (by decide) rfl (by decide) (Nat.le_of_ble_eq_true rfl) (Nat.le_of_ble_eq_true rfl) dL_law_27 (fun q27 cJ H hK hP hD hS => ?_)
  have hP : va_P (dC, dI) vwCl [(q0, .inr (1, [.ref ar9, .ref ha9, .ref hz9, .int 0, .int 0])), (ar9, .inl (cI, 8, .inl (fun _ => 0))), (ha9, .inr (0, [.ref wa9, .int 0, .int 0])), (wa9, .inl (cI, n, .inl (fun _ => 0))), (hz9, .inr (0, [.ref wz9, .int 0, .int 0])), (wz9, .inl (cI, n, .inl (fun _ => 0))), (q13, .inr (2, [.int 0, .int (nI n), .int 0, .int 0, .int 0, .ref aso22, .ref ava22, .ref ans22, .ref anv22, .ref ars22, .ref arv22, .int 0, .ref ast22, .ref ago22])), (aso22, .inl (cI, 2100, .inl (fun _ => 0))), (ava22, .inl (cI, 2100, .inl (fun _ => 0))), (ans22, .inl (cI, 2100, .inl (fun _ => 0))), (anv22, .inl (cI, 2100, .inl (fun _ => 0))), (ars22, .inl (cI, 8, .inl (va_cpy (fun _ => 1) (fun _ => 0) 0 0 8))), (arv22, .inl (cI, 8, .inl (fun _ => 0))), (ast22, .inl (cI, 2100, .inl (fun _ => 0))), (ago22, .inl (cI, 2100, .inl (fun _ => 0))), (q27, .inl (cJ, 1, .inr (.inl (fun _ => 0))))] H := hP
  have hD : va_D A [(q0, .inr (1, [.ref ar9, .ref ha9, .ref hz9, .int 0, .int 0])), (ar9, .inl (cI, 8, .inl (fun _ => 0))), (ha9, .inr (0, [.ref wa9, .int 0, .int 0])), (wa9, .inl (cI, n, .inl (fun _ => 0))), (hz9, .inr (0, [.ref wz9, .int 0, .int 0])), (wz9, .inl (cI, n, .inl (fun _ => 0))), (q13, .inr (2, [.int 0, .int (nI n), .int 0, .int 0, .int 0, .ref aso22, .ref ava22, .ref ans22, .ref anv22, .ref ars22, .ref arv22, .int 0, .ref ast22, .ref ago22])), (aso22, .inl (cI, 2100, .inl (fun _ => 0))), (ava22, .inl (cI, 2100, .inl (fun _ => 0))), (ans22, .inl (cI, 2100, .inl (fun _ => 0))), (anv22, .inl (cI, 2100, .inl (fun _ => 0))), (ars22, .inl (cI, 8, .inl (va_cpy (fun _ => 1) (fun _ => 0) 0 0 8))), (arv22, .inl (cI, 8, .inl (fun _ => 0))), (ast22, .inl (cI, 2100, .inl (fun _ => 0))), (ago22, .inl (cI, 2100, .inl (fun _ => 0))), (q27, .inl (cJ, 1, .inr (.inl (fun _ => 0))))] := hD
  refine lv_astore_n (lv' := [(3, .ref q27), (2, .ref q13), (1, .ref q0), (0, .ref b)]) hx hb dL_law_29 rfl hl (by decide) rfl (fun ls hl => ?_)
  refine lv_iconst (v := 1) hx hb dL_law_30 (by decide) ?_
  refine lv_istore (lv' := [(4, .int 1), (3, .ref q27), (2, .ref q13), (1, .ref q0), (0, .ref b)]) hx hb dL_law_31 hl (by decide) rfl (fun ls hl => ?_)
  have hK : va_K (dC, dI) vwCl [(cI, .int), (cJ, .long)] s := hK
  have hP := hP.sub (ws' := [(q0, .inr (1, [.ref ar9, .ref ha9, .ref hz9, .int 0, .int 0])), (ar9, .inl (cI, 8, .inl (fun _ => 0))), (ha9, .inr (0, [.ref wa9, .int 0, .int 0])), (wa9, .inl (cI, n, .inl (fun _ => 0))), (hz9, .inr (0, [.ref wz9, .int 0, .int 0])), (wz9, .inl (cI, n, .inl (fun _ => 0))), (q27, .inl (cJ, 1, .inr (.inl (fun _ => 0)))), (q13, .inr (2, [.int 0, .int (nI n), .int 0, .int 0, .int 0, .ref aso22, .ref ava22, .ref ans22, .ref anv22, .ref ars22, .ref arv22, .int 0, .ref ast22, .ref ago22])), (aso22, .inl (cI, 2100, .inl (fun _ => 0))), (ava22, .inl (cI, 2100, .inl (fun _ => 0))), (ans22, .inl (cI, 2100, .inl (fun _ => 0))), (anv22, .inl (cI, 2100, .inl (fun _ => 0))), (ars22, .inl (cI, 8, .inl (va_cpy (fun _ => 1) (fun _ => 0) 0 0 8))), (arv22, .inl (cI, 8, .inl (fun _ => 0))), (ast22, .inl (cI, 2100, .inl (fun _ => 0))), (ago22, .inl (cI, 2100, .inl (fun _ => 0)))]) [0, 1, 2, 3, 4, 5, 15, 6, 7, 8, 9, 10, 11, 12, 13, 14] rfl
  have hD := hD.sub (ws' := [(q0, .inr (1, [.ref ar9, .ref ha9, .ref hz9, .int 0, .int 0])), (ar9, .inl (cI, 8, .inl (fun _ => 0))), (ha9, .inr (0, [.ref wa9, .int 0, .int 0])), (wa9, .inl (cI, n, .inl (fun _ => 0))), (hz9, .inr (0, [.ref wz9, .int 0, .int 0])), (wz9, .inl (cI, n, .inl (fun _ => 0))), (q27, .inl (cJ, 1, .inr (.inl (fun _ => 0)))), (q13, .inr (2, [.int 0, .int (nI n), .int 0, .int 0, .int 0, .ref aso22, .ref ava22, .ref ans22, .ref anv22, .ref ars22, .ref arv22, .int 0, .ref ast22, .ref ago22])), (aso22, .inl (cI, 2100, .inl (fun _ => 0))), (ava22, .inl (cI, 2100, .inl (fun _ => 0))), (ans22, .inl (cI, 2100, .inl (fun _ => 0))), (anv22, .inl (cI, 2100, .inl (fun _ => 0))), (ars22, .inl (cI, 8, .inl (va_cpy (fun _ => 1) (fun _ => 0) 0 0 8))), (arv22, .inl (cI, 8, .inl (fun _ => 0))), (ast22, .inl (cI, 2100, .inl (fun _ => 0))), (ago22, .inl (cI, 2100, .inl (fun _ => 0)))]) [0, 1, 2, 3, 4, 5, 15, 6, 7, 8, 9, 10, 11, 12, 13, 14] (by decide) rfl
  have hl : lv_has ls 7 [(4, .int (nI (1 + 4 * 0))), (3, .ref q27), (2, .ref q13), (1, .ref q0), (0, .ref b)] := hl
  refine W.widen (k := 20 + 5 * 0) (n := 17000 + 30 * 0) (by omega) (by omega) ?_
  exact lw_loop hx hb hml hown ht hE hX hC9 hl9 hK hA hsc hbl hbA (by omega) hL hr hlocks hAz 513 0 rfl _ _ _ _ ((fun _ => 0), 0, 0, (fun _ => 0), 0, 0, (fun _ => 0), 0, 0) (0, 0, 0, 0, (fun _ => 0), (fun _ => 0), (fun _ => 0), (fun _ => 0), va_cpy (fun _ => 1) (fun _ => 0) 0 0 8, (fun _ => 0), 0, (fun _ => 0), (fun _ => 0)) (fun _ => 0) _ _ ls (cpl0 hnb) hP hD hS (lv_sub hl [4, 3, 2, 1, 0] rfl)
