theorem fldJ {n k p : Nat} {f g : Nat → Int32} (hn : n < 2 ^ 31) (hk : k < n) (h : ¬ f p < 0) (e : g k = f p) : fX0_fieldsAt n g (nI k) = nI (oF f p) := by
  unfold fX0_fieldsAt
  obtain ⟨h1, h2, h3⟩ := headW h
  rw [waI hk hn, e, h1, shr1 (by omega)]; congr 1; omega
theorem kndJ {n k p : Nat} {f g : Nat → Int32} (hn : n < 2 ^ 31) (hk : k < n) (h : ¬ f p < 0) (e : g k = f p) : fX0_kindAt n g (nI k) = nI (oK f p) := by
  unfold fX0_kindAt
  obtain ⟨h1, h2, h3⟩ := headW h
  rw [waI hk hn, e, h1, and1 (by omega)]; congr 1; omega
theorem bdI.nf {f : Nat → Int32} {L : List Nat} {i nf kd : Nat} (h : bdI f L i nf kd) (hi : i ≤ tot f L) : nf ≤ tot f L := by
  rcases h with ⟨h1, -⟩ | ⟨p, hp, h1, h2, h3, h4⟩
  · omega
  · have := tgt_lt (f := f) hp; omega
theorem upd_self (f : Nat → Int32) (k : Nat) : upd f k (f k) = f := by
  funext j
  by_cases e : j = k
  · rw [e, pk_us]
  · rw [pk_un e]
abbrev atX1_moveWhatFieldsReferTo (dC : Nat → ClassId) (dI : Nat → Nat → Nat) (cI : ClassId) (A : Nat → Prop) (ha : Nat) (wa : Nat) (n : Nat) (us : Int32) (ob : Int32) (hz : Nat) (wz : Nat) (u : (Nat → Int32) × Int32 × Int32 × (Nat → Int32)) (t : State) : Prop := va_P (dC, dI) vwCl [(ha, .inr (0, [.ref wa, .int us, .int ob])), (wa, .inl (cI, n, .inl u.1)), (hz, .inr (0, [.ref wz, .int u.2.1, .int u.2.2.1])), (wz, .inl (cI, n, .inl u.2.2.2))] t.heap ∧ va_K (dC, dI) vwCl [(cI, .int)] t ∧ va_D A [(ha, .inr (0, [.ref wa, .int us, .int ob])), (wa, .inl (cI, n, .inl u.1)), (hz, .inr (0, [.ref wz, .int u.2.1, .int u.2.2.1])), (wz, .inl (cI, n, .inl u.2.2.2))]
set_option maxHeartbeats 4000000 in
set_option maxRecDepth 100000 in
theorem ctX1_moveWhatFieldsReferTo (l : Launch) (dC : Nat → ClassId) (dI : Nat → Nat → Nat) (cI : ClassId) (ha : Nat) (wa : Nat) (n : Nat) (us : Int32) (ob : Int32) (f : Nat → Int32) (hz : Nat) (wz : Nat) (us2 : Int32) (ob2 : Int32) (f2 : Nat → Int32) (uu : Nat) (fo : Nat → Int32) (so : Nat → Int32) (L0 : List Nat) (sz : Nat) (hn : n < 2 ^ 31) (hf : f = fwdW fo L0) (hu2 : us2 = nI (tot fo L0)) (hob : ob2 = nI L0.length) (hI : scI uu n fo so L0 0 f2) : Met l yX1_moveWhatFieldsReferTo (kX1_moveWhatFieldsReferTo :: gT) ({ frames := 4, cells := 0, slots := 0, locals := 95 }) (va_Pc [.ref ha, .ref hz] (pM (dC, dI) [(ha, .inr (0, [.ref wa, .int us, .int ob])), (wa, .inl (cI, n, .inl f)), (hz, .inr (0, [.ref wz, .int us2, .int ob2])), (wz, .inl (cI, n, .inl f2))] [(cI, .int)] sz)) (va_Qv (fun u : (Nat → Int32) × Int32 × Int32 × (Nat → Int32) => u.1 = fwdW fo (scnL fo so (uu + 1) L0 0) ∧ u.2.1 = nI (tot fo (scnL fo so (uu + 1) L0 0)) ∧ u.2.2.1 = nI (scnL fo so (uu + 1) L0 0).length ∧ scI uu n fo so (scnL fo so (uu + 1) L0 0) (tot fo (scnL fo so (uu + 1) L0 0)) u.2.2.2) (atX1_moveWhatFieldsReferTo dC dI cI (va_A [(ha, .inr (0, [.ref wa, .int us, .int ob])), (wa, .inl (cI, n, .inl f)), (hz, .inr (0, [.ref wz, .int us2, .int ob2])), (wz, .inl (cI, n, .inl f2))] sz) ha wa n us ob hz wz) (va_A [(ha, .inr (0, [.ref wa, .int us, .int ob])), (wa, .inl (cI, n, .inl f)), (hz, .inr (0, [.ref wz, .int us2, .int ob2])), (wz, .inl (cI, n, .inl f2))] sz)) 0 0 (va_A [(ha, .inr (0, [.ref wa, .int us, .int ob])), (wa, .inl (cI, n, .inl f)), (hz, .inr (0, [.ref wz, .int us2, .int ob2])), (wz, .inl (cI, n, .inl f2))] sz) := by
  subst hf
  subst hu2
  subst hob
  refine Met.ofW (cc := cX1_moveWhatFieldsReferTo) (maxL := 5) (ret := none) (by decide) rfl ?_
  intro p e s m args below meth c s₁ B hml hv
  obtain ⟨rfl, hsz, hP, hK, hD0, hE⟩ := hv
  have hx := B.exec
  have hb := B.bytes
  have hr := B.returns
  have ht : ∀ w ∈ gT, w.before ([.ref ha, .ref hz] : List Value).toArray s = true := fun w h => atoms_spec (ws := kX1_moveWhatFieldsReferTo :: gT) B.pre w (List.mem_cons_of_mem _ h)
  have hown : s.vm.findClass RX1 = some m.cls := findClass_of_methodNamed B.named
  have hlocks := B.notSynchronized
  subst hsz
  have hD := hD0.self (sz := s.heap.size)
  generalize hAe : va_A [(ha, .inr (0, [.ref wa, .int us, .int ob])), (wa, .inl (cI, n, .inl (fwdW fo L0))), (hz, .inr (0, [.ref wz, .int (nI (tot fo L0)), .int (nI L0.length)])), (wz, .inl (cI, n, .inl f2))] s.heap.size = A at hD ⊢
  have hA : ∀ q : Nat, s.heap.size ≤ q → A q := fun q h => by rw [← hAe]; exact Or.inr h
  have hS : va_S A s.heap s.heap [] := va_S.rf
  have hl := lv_entry ([.ref ha, .ref hz]) (n := 5) (Nat.le_of_ble_eq_true rfl)
  rw [lg_entry_eq]
  generalize (lg_sl ([.ref ha, .ref hz]) ++ List.replicate (5 - (lg_sl ([.ref ha, .ref hz])).length) Slot.unset).toArray = ls at hl ⊢
  have hl : lv_has ls 5 [(0, .ref ha), (1, .ref hz)] := hl
  refine lv_iconst (v := 0) hx hb dX1_moveWhatFieldsReferTo_0 (by decide) ?_
  refine lv_istore_n (lv' := [(2, .int 0), (0, .ref ha), (1, .ref hz)]) hx hb dX1_moveWhatFieldsReferTo_1 rfl hl (by decide) rfl (fun ls hl => ?_)
  refine lv_iconst (v := 0) hx hb dX1_moveWhatFieldsReferTo_2 (by decide) ?_
  refine lv_istore_n (lv' := [(3, .int 0), (2, .int 0), (0, .ref ha), (1, .ref hz)]) hx hb dX1_moveWhatFieldsReferTo_3 rfl hl (by decide) rfl (fun ls hl => ?_)
  refine lv_iconst (v := 0) hx hb dX1_moveWhatFieldsReferTo_4 (by decide) ?_
  refine lv_istore (lv' := [(4, .int 0), (3, .int 0), (2, .int 0), (0, .ref ha), (1, .ref hz)]) hx hb dX1_moveWhatFieldsReferTo_5 hl (by decide) rfl (fun ls hl => ?_)
  have hb0 : bdI fo L0 0 0 0 := Or.inl ⟨rfl, Or.inl rfl⟩
  have hloop : ∀ (d : Nat) (i : Nat) (nf : Nat) (kd : Nat) (L : List Nat) (g : Nat → Int32), (hd : i + d = uu + 1) → (hsc : scnL fo so d L i = scnL fo so (uu + 1) L0 0) → (hs : scI uu n fo so L i g) → (hbi : bdI fo L i nf kd) → ∀ (H : Heap) (locs : List Loc) (ls : Array Slot), va_P (dC, dI) vwCl [(ha, .inr (0, [.ref wa, .int us, .int ob])), (wa, .inl (cI, n, .inl (fwdW fo L))), (hz, .inr (0, [.ref wz, .int (nI (tot fo L)), .int (nI L.length)])), (wz, .inl (cI, n, .inl g))] H → va_D A [(ha, .inr (0, [.ref wa, .int us, .int ob])), (wa, .inl (cI, n, .inl (fwdW fo L))), (hz, .inr (0, [.ref wz, .int (nI (tot fo L)), .int (nI L.length)])), (wz, .inl (cI, n, .inl g))] → va_S A s.heap H locs → lv_has ls 5 [(0, .ref ha), (1, .ref hz), (2, .int (nI kd)), (3, .int (nI nf)), (4, .int (nI i))] → W p l e (headSpec (kX1_moveWhatFieldsReferTo :: gT) ({ frames := 4, cells := 0, slots := 0, locals := 95 })).room s m ([.ref ha, .ref hz] : List Value).toArray below meth c H locs 0 0 (MQ below (va_Qv (fun u : (Nat → Int32) × Int32 × Int32 × (Nat → Int32) => u.1 = fwdW fo (scnL fo so (uu + 1) L0 0) ∧ u.2.1 = nI (tot fo (scnL fo so (uu + 1) L0 0)) ∧ u.2.2.1 = nI (scnL fo so (uu + 1) L0 0).length ∧ scI uu n fo so (scnL fo so (uu + 1) L0 0) (tot fo (scnL fo so (uu + 1) L0 0)) u.2.2.2) (atX1_moveWhatFieldsReferTo dC dI cI A ha wa n us ob hz wz) A) ([.ref ha, .ref hz] : List Value).toArray s 0 0 A) (F0 m 7 ls []) := by
    intro d
    induction d with
    | zero =>
      intro i nf kd L g hd hsc hs hbi H locs ls hP hD hS hl
      have hbd := hs.1.bd
      have hit := hs.2.1
      refine lv_iload hx hb dX1_moveWhatFieldsReferTo_7 (lv_at hl 4 rfl) ?_
      refine lv_aload_n hx hb dX1_moveWhatFieldsReferTo_9 rfl (lv_at hl 1 rfl) ?_
      refine va_getN (D := (dC, dI)) (ci := 0) (v := .ref wz) (C := RX0) (T := TX0) (N := 3) hx hb ht iX0 hown hK hP 2 rfl rfl 0 (by decide) hE.w25 (fun _ h9 => h9) rfl dX1_moveWhatFieldsReferTo_10 ?_
      refine va_alen (v := nI n) hx hb hK hP 3 0 rfl rfl rfl dX1_moveWhatFieldsReferTo_13 ?_
      refine lv_icmp_ge (tgt := 81) hx hb dX1_moveWhatFieldsReferTo_14 (by decide) (fun c_1 => ?_) (fun c_1 => ?_)
      · have hx9 : ¬ i < tot fo L := by have q := (nI_leI (by omega) (by omega)).mp c_1; omega
        have hLf : scnL fo so (uu + 1) L0 0 = L := by rw [← hsc]; exact scn_e hx9
        have hs9 : scI uu n fo so L (tot fo L) g := (show i = tot fo L by omega) ▸ hs
        have hP9 := hP.sub (ws' := [(ha, .inr (0, [.ref wa, .int us, .int ob])), (wa, .inl (cI, n, .inl (fwdW fo L))), (hz, .inr (0, [.ref wz, .int (nI (tot fo L)), .int (nI L.length)])), (wz, .inl (cI, n, .inl g))]) [0, 1, 2, 3] rfl
        have hD9 := hD.sub (ws' := [(ha, .inr (0, [.ref wa, .int us, .int ob])), (wa, .inl (cI, n, .inl (fwdW fo L))), (hz, .inr (0, [.ref wz, .int (nI (tot fo L)), .int (nI L.length)])), (wz, .inl (cI, n, .inl g))]) [0, 1, 2, 3] (by decide) rfl
        have hK9 := hK.sub (tys' := [(cI, .int)]) [0] rfl
        exact W.vret hx hb hr (fun t ht hW => ⟨⟨(fwdW fo L, nI (tot fo L), nI L.length, g), rfl, (by rw [hLf]; exact ⟨rfl, rfl, rfl, hs9⟩), by rw [ht]; exact hP9, va_K.moved hW.alike hK9, hD9⟩, hS.F ht⟩) hS.2.2 dX1_moveWhatFieldsReferTo_81
      · refine lv_iload hx hb dX1_moveWhatFieldsReferTo_17 (lv_at hl 4 rfl) ?_
        refine lv_aload_n hx hb dX1_moveWhatFieldsReferTo_19 rfl (lv_at hl 1 rfl) ?_
        refine va_getN (D := (dC, dI)) (ci := 0) (v := .int (nI (tot fo L))) (C := RX0) (T := TX0) (N := 3) hx hb ht iX0 hown hK hP 2 rfl rfl 1 (by decide) hE.w27 (fun _ h9 => h9) rfl dX1_moveWhatFieldsReferTo_20 ?_
        refine lv_icmp_ge (tgt := 81) hx hb dX1_moveWhatFieldsReferTo_23 (by decide) (fun _ => ?_) (fun h => absurd (nI_le (by omega) (by omega)) h)
        have hx9 : ¬ i < tot fo L := by omega
        have hLf : scnL fo so (uu + 1) L0 0 = L := by rw [← hsc]; exact scn_e hx9
        have hs9 : scI uu n fo so L (tot fo L) g := (show i = tot fo L by omega) ▸ hs
        have hP9 := hP.sub (ws' := [(ha, .inr (0, [.ref wa, .int us, .int ob])), (wa, .inl (cI, n, .inl (fwdW fo L))), (hz, .inr (0, [.ref wz, .int (nI (tot fo L)), .int (nI L.length)])), (wz, .inl (cI, n, .inl g))]) [0, 1, 2, 3] rfl
        have hD9 := hD.sub (ws' := [(ha, .inr (0, [.ref wa, .int us, .int ob])), (wa, .inl (cI, n, .inl (fwdW fo L))), (hz, .inr (0, [.ref wz, .int (nI (tot fo L)), .int (nI L.length)])), (wz, .inl (cI, n, .inl g))]) [0, 1, 2, 3] (by decide) rfl
        have hK9 := hK.sub (tys' := [(cI, .int)]) [0] rfl
        exact W.vret hx hb hr (fun t ht hW => ⟨⟨(fwdW fo L, nI (tot fo L), nI L.length, g), rfl, (by rw [hLf]; exact ⟨rfl, rfl, rfl, hs9⟩), by rw [ht]; exact hP9, va_K.moved hW.alike hK9, hD9⟩, hS.F ht⟩) hS.2.2 dX1_moveWhatFieldsReferTo_81
    | succ d ih =>
      intro i nf kd L g hd hsc hs hbi H locs ls hP hD hS hl
      have hbd := hs.1.bd
      have hit := hs.2.1
      have hnf := hbi.nf hit
      refine lv_iload hx hb dX1_moveWhatFieldsReferTo_7 (lv_at hl 4 rfl) ?_
      refine lv_aload_n hx hb dX1_moveWhatFieldsReferTo_9 rfl (lv_at hl 1 rfl) ?_
      refine va_getN (D := (dC, dI)) (ci := 0) (v := .ref wz) (C := RX0) (T := TX0) (N := 3) hx hb ht iX0 hown hK hP 2 rfl rfl 0 (by decide) hE.w25 (fun _ h9 => h9) rfl dX1_moveWhatFieldsReferTo_10 ?_
      refine va_alen (v := nI n) hx hb hK hP 3 0 rfl rfl rfl dX1_moveWhatFieldsReferTo_13 ?_
      refine lv_icmp_ge (tgt := 81) hx hb dX1_moveWhatFieldsReferTo_14 (by decide) (fun c_2 => ?_) (fun c_2 => ?_)
      · have hx9 : ¬ i < tot fo L := by have q := (nI_leI (by omega) (by omega)).mp c_2; omega
        have hLf : scnL fo so (uu + 1) L0 0 = L := by rw [← hsc]; exact scn_e hx9
        have hs9 : scI uu n fo so L (tot fo L) g := (show i = tot fo L by omega) ▸ hs
        have hP9 := hP.sub (ws' := [(ha, .inr (0, [.ref wa, .int us, .int ob])), (wa, .inl (cI, n, .inl (fwdW fo L))), (hz, .inr (0, [.ref wz, .int (nI (tot fo L)), .int (nI L.length)])), (wz, .inl (cI, n, .inl g))]) [0, 1, 2, 3] rfl
        have hD9 := hD.sub (ws' := [(ha, .inr (0, [.ref wa, .int us, .int ob])), (wa, .inl (cI, n, .inl (fwdW fo L))), (hz, .inr (0, [.ref wz, .int (nI (tot fo L)), .int (nI L.length)])), (wz, .inl (cI, n, .inl g))]) [0, 1, 2, 3] (by decide) rfl
        have hK9 := hK.sub (tys' := [(cI, .int)]) [0] rfl
        exact W.vret hx hb hr (fun t ht hW => ⟨⟨(fwdW fo L, nI (tot fo L), nI L.length, g), rfl, (by rw [hLf]; exact ⟨rfl, rfl, rfl, hs9⟩), by rw [ht]; exact hP9, va_K.moved hW.alike hK9, hD9⟩, hS.F ht⟩) hS.2.2 dX1_moveWhatFieldsReferTo_81
      · refine lv_iload hx hb dX1_moveWhatFieldsReferTo_17 (lv_at hl 4 rfl) ?_
        refine lv_aload_n hx hb dX1_moveWhatFieldsReferTo_19 rfl (lv_at hl 1 rfl) ?_
        refine va_getN (D := (dC, dI)) (ci := 0) (v := .int (nI (tot fo L))) (C := RX0) (T := TX0) (N := 3) hx hb ht iX0 hown hK hP 2 rfl rfl 1 (by decide) hE.w27 (fun _ h9 => h9) rfl dX1_moveWhatFieldsReferTo_20 ?_
        refine lv_icmp_ge (tgt := 81) hx hb dX1_moveWhatFieldsReferTo_23 (by decide) (fun c_3 => ?_) (fun c_3 => ?_)
        · have hx9 : ¬ i < tot fo L := by have q := (nI_leI (by omega) (by omega)).mp c_3; omega
          have hLf : scnL fo so (uu + 1) L0 0 = L := by rw [← hsc]; exact scn_e hx9
          have hs9 : scI uu n fo so L (tot fo L) g := (show i = tot fo L by omega) ▸ hs
          have hP9 := hP.sub (ws' := [(ha, .inr (0, [.ref wa, .int us, .int ob])), (wa, .inl (cI, n, .inl (fwdW fo L))), (hz, .inr (0, [.ref wz, .int (nI (tot fo L)), .int (nI L.length)])), (wz, .inl (cI, n, .inl g))]) [0, 1, 2, 3] rfl
          have hD9 := hD.sub (ws' := [(ha, .inr (0, [.ref wa, .int us, .int ob])), (wa, .inl (cI, n, .inl (fwdW fo L))), (hz, .inr (0, [.ref wz, .int (nI (tot fo L)), .int (nI L.length)])), (wz, .inl (cI, n, .inl g))]) [0, 1, 2, 3] (by decide) rfl
          have hK9 := hK.sub (tys' := [(cI, .int)]) [0] rfl
          exact W.vret hx hb hr (fun t ht hW => ⟨⟨(fwdW fo L, nI (tot fo L), nI L.length, g), rfl, (by rw [hLf]; exact ⟨rfl, rfl, rfl, hs9⟩), by rw [ht]; exact hP9, va_K.moved hW.alike hK9, hD9⟩, hS.F ht⟩) hS.2.2 dX1_moveWhatFieldsReferTo_81
        · have h9 : i < tot fo L := by
            rcases Nat.lt_or_ge i (tot fo L) with q | q
            · exact q
            · exact absurd (nI_le q (by omega)) c_3
          refine lv_iload hx hb dX1_moveWhatFieldsReferTo_26 (lv_at hl 4 rfl) ?_
          refine lv_iload_n hx hb dX1_moveWhatFieldsReferTo_28 rfl (lv_at hl 3 rfl) ?_
          refine lv_icmp_ne (tgt := 54) hx hb dX1_moveWhatFieldsReferTo_29 (by decide) (fun c_4 => ?_) (fun c_4 => ?_)
          · have e54 : nf ≠ i := fun q => c_4 (by rw [q])
            obtain ⟨p9, j9, hp1, hp2, hp3, hp4, hp5, hb9⟩ := bdI.inside hs hbi h9 e54
            have hoK : oK fo p9 < 2 := Nat.mod_lt _ (by decide)
            refine lv_iload_n hx hb dX1_moveWhatFieldsReferTo_54 rfl (lv_at hl 2 rfl) ?_
            refine lv_if_ne (tgt := 75) hx hb dX1_moveWhatFieldsReferTo_55 (by decide) (fun c_5 => ?_) (fun c_5 => ?_)
            · have hst : ¬ ((lcp fo L i).2 ≠ 0 ∧ so ((lcp fo L i).1 + (lcp fo L i).2) = 2) := by
                rintro ⟨-, q2⟩
                rw [hp2] at q2
                rcases hs.1.field hp1 hp3 hp4 with ⟨-, q3⟩ | ⟨q1, -⟩ | ⟨q1, -⟩
                · exact absurd (q2.symm.trans q3) (by decide)
                · exact c_5 (by rw [hp5, q1]; rfl)
                · exact c_5 (by rw [hp5, q1]; rfl)
              obtain ⟨x_6, ex_6⟩ : ∃ y : Int32, y = nI i + 1 := ⟨_, rfl⟩
              refine lv_iinc (v := x_6) (lv' := [(4, .int x_6), (0, .ref ha), (1, .ref hz), (2, .int (nI kd)), (3, .int (nI nf))]) hx hb dX1_moveWhatFieldsReferTo_75 hl (k := 4) rfl (by rw [ex_6]; rfl) (by decide) rfl (fun ls hl => ?_)
              refine lv_goto (tgt := 7) hx hb dX1_moveWhatFieldsReferTo_78 (by decide) ?_
              rw [ex_6, nI_1] at hl
              exact ih (i + 1) nf kd L g (by omega) (by rw [← hsc, scn_s h9, (hs.stay h9 hst).2.1]) (hs.stay h9 hst).1 hb9 _ _ ls hP hD hS (lv_sub hl [1, 2, 3, 4, 0] rfl)
            · have hk0 : kd = 0 := (nI_eq (by omega) (by decide)).mp c_5
              have hgi : g i = fo (p9 + j9) := by rw [hs.2.2.1 i h9, if_neg (Nat.lt_irrefl i)]; unfold rawV; rw [hp2]
              have hwa : fX0_wordAt n g (nI i) = g i := waI (by omega) hn
              rcases hs.1.field hp1 hp3 hp4 with ⟨q1, -⟩ | ⟨q1, q2, q3⟩ | ⟨q1, q2, q5, q6, q7, q8⟩
              · omega
              · have hst : ¬ ((lcp fo L i).2 ≠ 0 ∧ so ((lcp fo L i).1 + (lcp fo L i).2) = 2) := by rintro ⟨-, q4⟩; rw [hp2] at q4; exact absurd (q2.symm.trans q4) (by decide)
                have ev : fX0_wordAt n g (nI i) &&& 1 = 0 := by rw [hwa, hgi]; exact q3
                refine lv_aload_n hx hb dX1_moveWhatFieldsReferTo_58 rfl (lv_at hl 1 rfl) ?_
                refine lv_iload hx hb dX1_moveWhatFieldsReferTo_59 (lv_at hl 4 rfl) ?_
                refine lv_aload_n hx hb dX1_moveWhatFieldsReferTo_61 rfl (lv_at hl 0 rfl) ?_
                refine lv_aload_n hx hb dX1_moveWhatFieldsReferTo_62 rfl (lv_at hl 1 rfl) ?_
                refine lv_iload hx hb dX1_moveWhatFieldsReferTo_63 (lv_at hl 4 rfl) ?_
                have hPc := hP.sub (ws' := [(hz, .inr (0, [.ref wz, .int (nI (tot fo L)), .int (nI L.length)])), (wz, .inl (cI, n, .inl g))]) [2, 3] rfl
                have hKc := hK.sub (tys' := [(cI, .int)]) [0] rfl
                refine vp_callSi (va_runV (As := [.int (nI i)]) (rest := [.ref ha, .int (nI i), .ref hz]) ⟨hx, hb, hml, hown, ht⟩ (ctX0_wordAt l dC dI cI hz wz n (nI (tot fo L)) (nI L.length) g (nI i) hn) (cwV 1 ht gcX1_81 rfl rfl rfl (by decide +kernel) ⟨Nat.le_of_ble_eq_true rfl, Nat.le_of_ble_eq_true rfl⟩) ⟨pS.blind, va_recv hKc hPc (ci := 0) (q0 := 0) rfl rfl, pS.call hPc hKc hE⟩ rfl rfl hl.1 rfl (lv_room (Nat.le_of_ble_eq_true rfl)) dX1_moveWhatFieldsReferTo_65 ⟨Nat.le_of_ble_eq_true rfl, Nat.le_of_ble_eq_true rfl⟩).run (fun r_7 hr_7 => ?_)
                subst hr_7
                refine lv_aload_n hx hb dX1_moveWhatFieldsReferTo_68 rfl (lv_at hl 1 rfl) ?_
                have hPc := hP.sub (ws' := [(ha, .inr (0, [.ref wa, .int us, .int ob])), (wa, .inl (cI, n, .inl (fwdW fo L))), (hz, .inr (0, [.ref wz, .int (nI (tot fo L)), .int (nI L.length)])), (wz, .inl (cI, n, .inl g))]) [0, 1, 2, 3] rfl
                have hKc := hK.sub (tys' := [(cI, .int)]) [0] rfl
                have hDc := hD.sub (ws' := [(ha, .inr (0, [.ref wa, .int us, .int ob])), (wa, .inl (cI, n, .inl (fwdW fo L))), (hz, .inr (0, [.ref wz, .int (nI (tot fo L)), .int (nI L.length)])), (wz, .inl (cI, n, .inl g))]) [0, 1, 2, 3] (by decide) rfl
                have hFc := va_free (wc := [(ha, .inr (0, [.ref wa, .int us, .int ob])), (wa, .inl (cI, n, .inl (fwdW fo L))), (hz, .inr (0, [.ref wz, .int (nI (tot fo L)), .int (nI L.length)])), (wz, .inl (cI, n, .inl g))]) hD hS hA [0, 1, 2, 3] rfl
                refine va_calli (va_runV (As := [.int (fX0_wordAt n g (nI i)), .ref hz]) (rest := [.int (nI i), .ref hz]) ⟨hx, hb, hml, hown, ht⟩ (ctX0_movedValue l dC dI cI ha wa n us ob (fwdW fo L) hz wz (nI (tot fo L)) (nI L.length) g (fX0_wordAt n g (nI i)) 0 0 0 _ hn (fun q => absurd (isRefE ev) q)) (cwV 2 ht gcX1_129 rfl rfl rfl (by decide +kernel) ⟨Nat.le_of_ble_eq_true rfl, Nat.le_of_ble_eq_true rfl⟩) ⟨pM.blind, va_recv hKc hPc (ci := 0) (q0 := 0) rfl rfl, pM.call hPc hKc hDc hE⟩ rfl rfl hl.1 rfl (lv_room (Nat.le_of_ble_eq_true rfl)) dX1_moveWhatFieldsReferTo_69 ⟨Nat.le_of_ble_eq_true rfl, Nat.le_of_ble_eq_true rfl⟩) hS (fun q _ h => hFc q h) hFc (fun r_9 u_8 t H1 locs ht9 hvm hw hB hz1 hk1 hS => ?_)
                obtain ⟨rfl, rfl⟩ : r_9 = (fX0_movedValue n us ob (fwdW fo L) (nI (tot fo L)) (nI L.length) g (fX0_wordAt n g (nI i)) 0 0 0).1 ∧ u_8 = (fX0_movedValue n us ob (fwdW fo L) (nI (tot fo L)) (nI L.length) g (fX0_wordAt n g (nI i)) 0 0 0).2 := by rw [← hw]; exact ⟨rfl, rfl⟩
                obtain ⟨hP1, hK1, hD1⟩ := hB
                rw [ht9] at hP1
                obtain ⟨hP, hD⟩ := va_join (wr := []) (w1 := [(ha, .inr (0, [.ref wa, .int (((fX0_movedValue n us ob (fwdW fo L) (nI (tot fo L)) (nI L.length) g (fX0_wordAt n g (nI i)) 0 0 0).2).1), .int (((fX0_movedValue n us ob (fwdW fo L) (nI (tot fo L)) (nI L.length) g (fX0_wordAt n g (nI i)) 0 0 0).2).2.1)])), (wa, .inl (cI, n, .inl (((fX0_movedValue n us ob (fwdW fo L) (nI (tot fo L)) (nI L.length) g (fX0_wordAt n g (nI i)) 0 0 0).2).2.2.1))), (hz, .inr (0, [.ref wz, .int (((fX0_movedValue n us ob (fwdW fo L) (nI (tot fo L)) (nI L.length) g (fX0_wordAt n g (nI i)) 0 0 0).2).2.2.2.1), .int (((fX0_movedValue n us ob (fwdW fo L) (nI (tot fo L)) (nI L.length) g (fX0_wordAt n g (nI i)) 0 0 0).2).2.2.2.2.1)])), (wz, .inl (cI, n, .inl (((fX0_movedValue n us ob (fwdW fo L) (nI (tot fo L)) (nI L.length) g (fX0_wordAt n g (nI i)) 0 0 0).2).2.2.2.2.2)))]) hP hD [0, 1, 2, 3] [] rfl rfl (by decide) (by decide) hk1 hFc hP1 hD1
                generalize H1 = H at hP hS ⊢
                have hP := hP.sub (ws' := [(ha, .inr (0, [.ref wa, .int (((fX0_movedValue n us ob (fwdW fo L) (nI (tot fo L)) (nI L.length) g (fX0_wordAt n g (nI i)) 0 0 0).2).1), .int (((fX0_movedValue n us ob (fwdW fo L) (nI (tot fo L)) (nI L.length) g (fX0_wordAt n g (nI i)) 0 0 0).2).2.1)])), (wa, .inl (cI, n, .inl (((fX0_movedValue n us ob (fwdW fo L) (nI (tot fo L)) (nI L.length) g (fX0_wordAt n g (nI i)) 0 0 0).2).2.2.1))), (hz, .inr (0, [.ref wz, .int (((fX0_movedValue n us ob (fwdW fo L) (nI (tot fo L)) (nI L.length) g (fX0_wordAt n g (nI i)) 0 0 0).2).2.2.2.1), .int (((fX0_movedValue n us ob (fwdW fo L) (nI (tot fo L)) (nI L.length) g (fX0_wordAt n g (nI i)) 0 0 0).2).2.2.2.2.1)])), (wz, .inl (cI, n, .inl (((fX0_movedValue n us ob (fwdW fo L) (nI (tot fo L)) (nI L.length) g (fX0_wordAt n g (nI i)) 0 0 0).2).2.2.2.2.2)))]) [0, 1, 2, 3] rfl
                have hD := hD.sub (ws' := [(ha, .inr (0, [.ref wa, .int (((fX0_movedValue n us ob (fwdW fo L) (nI (tot fo L)) (nI L.length) g (fX0_wordAt n g (nI i)) 0 0 0).2).1), .int (((fX0_movedValue n us ob (fwdW fo L) (nI (tot fo L)) (nI L.length) g (fX0_wordAt n g (nI i)) 0 0 0).2).2.1)])), (wa, .inl (cI, n, .inl (((fX0_movedValue n us ob (fwdW fo L) (nI (tot fo L)) (nI L.length) g (fX0_wordAt n g (nI i)) 0 0 0).2).2.2.1))), (hz, .inr (0, [.ref wz, .int (((fX0_movedValue n us ob (fwdW fo L) (nI (tot fo L)) (nI L.length) g (fX0_wordAt n g (nI i)) 0 0 0).2).2.2.2.1), .int (((fX0_movedValue n us ob (fwdW fo L) (nI (tot fo L)) (nI L.length) g (fX0_wordAt n g (nI i)) 0 0 0).2).2.2.2.2.1)])), (wz, .inl (cI, n, .inl (((fX0_movedValue n us ob (fwdW fo L) (nI (tot fo L)) (nI L.length) g (fX0_wordAt n g (nI i)) 0 0 0).2).2.2.2.2.2)))]) [0, 1, 2, 3] (by decide) rfl
                have e3 : fX0_movedValue n us ob (fwdW fo L) (nI (tot fo L)) (nI L.length) g (fX0_wordAt n g (nI i))  0 0 0 = (g i, us, ob, fwdW fo L, nI (tot fo L), nI L.length, g) := by rw [mvNum ev, hwa]
                rw [e3] at hP hD
                rw [e3]
                have hP : va_P (dC, dI) vwCl [(ha, .inr (0, [.ref wa, .int us, .int ob])), (wa, .inl (cI, n, .inl (fwdW fo L))), (hz, .inr (0, [.ref wz, .int (nI (tot fo L)), .int (nI L.length)])), (wz, .inl (cI, n, .inl g))] H := hP
                have hD : va_D A [(ha, .inr (0, [.ref wa, .int us, .int ob])), (wa, .inl (cI, n, .inl (fwdW fo L))), (hz, .inr (0, [.ref wz, .int (nI (tot fo L)), .int (nI L.length)])), (wz, .inl (cI, n, .inl g))] := hD
                refine W.eq (g2 := F0 m 72 ls [.int (g i), .int (nI i), .ref hz]) rfl ?_
                have hPc := hP.sub (ws' := [(hz, .inr (0, [.ref wz, .int (nI (tot fo L)), .int (nI L.length)])), (wz, .inl (cI, n, .inl g))]) [2, 3] rfl
                have hKc := hK.sub (tys' := [(cI, .int)]) [0] rfl
                have hDc := hD.sub (ws' := [(hz, .inr (0, [.ref wz, .int (nI (tot fo L)), .int (nI L.length)])), (wz, .inl (cI, n, .inl g))]) [2, 3] (by decide) rfl
                have hFc := va_free (wc := [(hz, .inr (0, [.ref wz, .int (nI (tot fo L)), .int (nI L.length)])), (wz, .inl (cI, n, .inl g))]) hD hS hA [2, 3] rfl
                refine va_callv (va_runV (As := [.int (nI i), .int (g i)]) (rest := []) ⟨hx, hb, hml, hown, ht⟩ (ctX0_setWord l dC dI cI hz wz n (nI (tot fo L)) (nI L.length) g (nI i) (g i) _ hn) (cwV 2 ht gcX1_76 rfl rfl rfl (by decide +kernel) ⟨Nat.le_of_ble_eq_true rfl, Nat.le_of_ble_eq_true rfl⟩) ⟨pM.blind, va_recv hKc hPc (ci := 0) (q0 := 0) rfl rfl, pM.call hPc hKc hDc hE⟩ rfl rfl hl.1 rfl (lv_room (Nat.le_of_ble_eq_true rfl)) dX1_moveWhatFieldsReferTo_72 ⟨Nat.le_of_ble_eq_true rfl, Nat.le_of_ble_eq_true rfl⟩) hS (fun q _ h => hFc q h) hFc (fun u_10 t H1 locs ht9 hvm hw hB hz1 hk1 hS => ?_)
                subst hw
                obtain ⟨hP1, hK1, hD1⟩ := hB
                rw [ht9] at hP1
                obtain ⟨hP, hD⟩ := va_join (wr := [(ha, .inr (0, [.ref wa, .int us, .int ob])), (wa, .inl (cI, n, .inl (fwdW fo L)))]) (w1 := [(hz, .inr (0, [.ref wz, .int ((fX0_setWord n (nI (tot fo L)) (nI L.length) g (nI i) (g i)).1), .int ((fX0_setWord n (nI (tot fo L)) (nI L.length) g (nI i) (g i)).2.1)])), (wz, .inl (cI, n, .inl ((fX0_setWord n (nI (tot fo L)) (nI L.length) g (nI i) (g i)).2.2)))]) hP hD [2, 3] [0, 1] rfl rfl (by decide) (by decide) hk1 hFc hP1 hD1
                generalize H1 = H at hP hS ⊢
                have hP := hP.sub (ws' := [(ha, .inr (0, [.ref wa, .int us, .int ob])), (wa, .inl (cI, n, .inl (fwdW fo L))), (hz, .inr (0, [.ref wz, .int ((fX0_setWord n (nI (tot fo L)) (nI L.length) g (nI i) (g i)).1), .int ((fX0_setWord n (nI (tot fo L)) (nI L.length) g (nI i) (g i)).2.1)])), (wz, .inl (cI, n, .inl ((fX0_setWord n (nI (tot fo L)) (nI L.length) g (nI i) (g i)).2.2)))]) [0, 1, 2, 3] rfl
                have hD := hD.sub (ws' := [(ha, .inr (0, [.ref wa, .int us, .int ob])), (wa, .inl (cI, n, .inl (fwdW fo L))), (hz, .inr (0, [.ref wz, .int ((fX0_setWord n (nI (tot fo L)) (nI L.length) g (nI i) (g i)).1), .int ((fX0_setWord n (nI (tot fo L)) (nI L.length) g (nI i) (g i)).2.1)])), (wz, .inl (cI, n, .inl ((fX0_setWord n (nI (tot fo L)) (nI L.length) g (nI i) (g i)).2.2)))]) [0, 1, 2, 3] (by decide) rfl
                have e4 : fX0_setWord n (nI (tot fo L)) (nI L.length) g (nI i) (g i) = (nI (tot fo L), nI L.length, g) := by rw [swI (by omega) hn, upd_self]
                rw [e4] at hP hD
                have hP : va_P (dC, dI) vwCl [(ha, .inr (0, [.ref wa, .int us, .int ob])), (wa, .inl (cI, n, .inl (fwdW fo L))), (hz, .inr (0, [.ref wz, .int (nI (tot fo L)), .int (nI L.length)])), (wz, .inl (cI, n, .inl g))] H := hP
                have hD : va_D A [(ha, .inr (0, [.ref wa, .int us, .int ob])), (wa, .inl (cI, n, .inl (fwdW fo L))), (hz, .inr (0, [.ref wz, .int (nI (tot fo L)), .int (nI L.length)])), (wz, .inl (cI, n, .inl g))] := hD
                obtain ⟨x_11, ex_11⟩ : ∃ y : Int32, y = nI i + 1 := ⟨_, rfl⟩
                refine lv_iinc (v := x_11) (lv' := [(4, .int x_11), (0, .ref ha), (1, .ref hz), (2, .int (nI kd)), (3, .int (nI nf))]) hx hb dX1_moveWhatFieldsReferTo_75 hl (k := 4) rfl (by rw [ex_11]; rfl) (by decide) rfl (fun ls hl => ?_)
                refine lv_goto (tgt := 7) hx hb dX1_moveWhatFieldsReferTo_78 (by decide) ?_
                rw [ex_11, nI_1] at hl
                exact ih (i + 1) nf kd L g (by omega) (by rw [← hsc, scn_s h9, (hs.stay h9 hst).2.1]) (hs.stay h9 hst).1 hb9 _ _ ls hP hD hS (lv_sub hl [1, 2, 3, 4, 0] rfl)
              · have ev : fX0_wordAt n g (nI i) = nI (2 * q5 + 1) := by rw [hwa, hgi]; exact q8
                refine lv_aload_n hx hb dX1_moveWhatFieldsReferTo_58 rfl (lv_at hl 1 rfl) ?_
                refine lv_iload hx hb dX1_moveWhatFieldsReferTo_59 (lv_at hl 4 rfl) ?_
                refine lv_aload_n hx hb dX1_moveWhatFieldsReferTo_61 rfl (lv_at hl 0 rfl) ?_
                refine lv_aload_n hx hb dX1_moveWhatFieldsReferTo_62 rfl (lv_at hl 1 rfl) ?_
                refine lv_iload hx hb dX1_moveWhatFieldsReferTo_63 (lv_at hl 4 rfl) ?_
                have hPc := hP.sub (ws' := [(hz, .inr (0, [.ref wz, .int (nI (tot fo L)), .int (nI L.length)])), (wz, .inl (cI, n, .inl g))]) [2, 3] rfl
                have hKc := hK.sub (tys' := [(cI, .int)]) [0] rfl
                refine vp_callSi (va_runV (As := [.int (nI i)]) (rest := [.ref ha, .int (nI i), .ref hz]) ⟨hx, hb, hml, hown, ht⟩ (ctX0_wordAt l dC dI cI hz wz n (nI (tot fo L)) (nI L.length) g (nI i) hn) (cwV 1 ht gcX1_81 rfl rfl rfl (by decide +kernel) ⟨Nat.le_of_ble_eq_true rfl, Nat.le_of_ble_eq_true rfl⟩) ⟨pS.blind, va_recv hKc hPc (ci := 0) (q0 := 0) rfl rfl, pS.call hPc hKc hE⟩ rfl rfl hl.1 rfl (lv_room (Nat.le_of_ble_eq_true rfl)) dX1_moveWhatFieldsReferTo_65 ⟨Nat.le_of_ble_eq_true rfl, Nat.le_of_ble_eq_true rfl⟩).run (fun r_12 hr_12 => ?_)
                subst hr_12
                refine lv_aload_n hx hb dX1_moveWhatFieldsReferTo_68 rfl (lv_at hl 1 rfl) ?_
                have hPc := hP.sub (ws' := [(ha, .inr (0, [.ref wa, .int us, .int ob])), (wa, .inl (cI, n, .inl (fwdW fo L))), (hz, .inr (0, [.ref wz, .int (nI (tot fo L)), .int (nI L.length)])), (wz, .inl (cI, n, .inl g))]) [0, 1, 2, 3] rfl
                have hKc := hK.sub (tys' := [(cI, .int)]) [0] rfl
                have hDc := hD.sub (ws' := [(ha, .inr (0, [.ref wa, .int us, .int ob])), (wa, .inl (cI, n, .inl (fwdW fo L))), (hz, .inr (0, [.ref wz, .int (nI (tot fo L)), .int (nI L.length)])), (wz, .inl (cI, n, .inl g))]) [0, 1, 2, 3] (by decide) rfl
                have hFc := va_free (wc := [(ha, .inr (0, [.ref wa, .int us, .int ob])), (wa, .inl (cI, n, .inl (fwdW fo L))), (hz, .inr (0, [.ref wz, .int (nI (tot fo L)), .int (nI L.length)])), (wz, .inl (cI, n, .inl g))]) hD hS hA [0, 1, 2, 3] rfl
                refine va_calli (va_runV (As := [.int (fX0_wordAt n g (nI i)), .ref hz]) (rest := [.int (nI i), .ref hz]) ⟨hx, hb, hml, hown, ht⟩ (ctX0_movedValue l dC dI cI ha wa n us ob (fwdW fo L) hz wz (nI (tot fo L)) (nI L.length) g (fX0_wordAt n g (nI i)) q5 (tot fo L) (oF fo q5) _ hn (by rw [ev]; exact mvHyp hs.1 q6 q7)) (cwV 2 ht gcX1_129 rfl rfl rfl (by decide +kernel) ⟨Nat.le_of_ble_eq_true rfl, Nat.le_of_ble_eq_true rfl⟩) ⟨pM.blind, va_recv hKc hPc (ci := 0) (q0 := 0) rfl rfl, pM.call hPc hKc hDc hE⟩ rfl rfl hl.1 rfl (lv_room (Nat.le_of_ble_eq_true rfl)) dX1_moveWhatFieldsReferTo_69 ⟨Nat.le_of_ble_eq_true rfl, Nat.le_of_ble_eq_true rfl⟩) hS (fun q _ h => hFc q h) hFc (fun r_14 u_13 t H1 locs ht9 hvm hw hB hz1 hk1 hS => ?_)
                obtain ⟨rfl, rfl⟩ : r_14 = (fX0_movedValue n us ob (fwdW fo L) (nI (tot fo L)) (nI L.length) g (fX0_wordAt n g (nI i)) q5 (tot fo L) (oF fo q5)).1 ∧ u_13 = (fX0_movedValue n us ob (fwdW fo L) (nI (tot fo L)) (nI L.length) g (fX0_wordAt n g (nI i)) q5 (tot fo L) (oF fo q5)).2 := by rw [← hw]; exact ⟨rfl, rfl⟩
                obtain ⟨hP1, hK1, hD1⟩ := hB
                rw [ht9] at hP1
                obtain ⟨hP, hD⟩ := va_join (wr := []) (w1 := [(ha, .inr (0, [.ref wa, .int (((fX0_movedValue n us ob (fwdW fo L) (nI (tot fo L)) (nI L.length) g (fX0_wordAt n g (nI i)) q5 (tot fo L) (oF fo q5)).2).1), .int (((fX0_movedValue n us ob (fwdW fo L) (nI (tot fo L)) (nI L.length) g (fX0_wordAt n g (nI i)) q5 (tot fo L) (oF fo q5)).2).2.1)])), (wa, .inl (cI, n, .inl (((fX0_movedValue n us ob (fwdW fo L) (nI (tot fo L)) (nI L.length) g (fX0_wordAt n g (nI i)) q5 (tot fo L) (oF fo q5)).2).2.2.1))), (hz, .inr (0, [.ref wz, .int (((fX0_movedValue n us ob (fwdW fo L) (nI (tot fo L)) (nI L.length) g (fX0_wordAt n g (nI i)) q5 (tot fo L) (oF fo q5)).2).2.2.2.1), .int (((fX0_movedValue n us ob (fwdW fo L) (nI (tot fo L)) (nI L.length) g (fX0_wordAt n g (nI i)) q5 (tot fo L) (oF fo q5)).2).2.2.2.2.1)])), (wz, .inl (cI, n, .inl (((fX0_movedValue n us ob (fwdW fo L) (nI (tot fo L)) (nI L.length) g (fX0_wordAt n g (nI i)) q5 (tot fo L) (oF fo q5)).2).2.2.2.2.2)))]) hP hD [0, 1, 2, 3] [] rfl rfl (by decide) (by decide) hk1 hFc hP1 hD1
                generalize H1 = H at hP hS ⊢
                have hP := hP.sub (ws' := [(ha, .inr (0, [.ref wa, .int (((fX0_movedValue n us ob (fwdW fo L) (nI (tot fo L)) (nI L.length) g (fX0_wordAt n g (nI i)) q5 (tot fo L) (oF fo q5)).2).1), .int (((fX0_movedValue n us ob (fwdW fo L) (nI (tot fo L)) (nI L.length) g (fX0_wordAt n g (nI i)) q5 (tot fo L) (oF fo q5)).2).2.1)])), (wa, .inl (cI, n, .inl (((fX0_movedValue n us ob (fwdW fo L) (nI (tot fo L)) (nI L.length) g (fX0_wordAt n g (nI i)) q5 (tot fo L) (oF fo q5)).2).2.2.1))), (hz, .inr (0, [.ref wz, .int (((fX0_movedValue n us ob (fwdW fo L) (nI (tot fo L)) (nI L.length) g (fX0_wordAt n g (nI i)) q5 (tot fo L) (oF fo q5)).2).2.2.2.1), .int (((fX0_movedValue n us ob (fwdW fo L) (nI (tot fo L)) (nI L.length) g (fX0_wordAt n g (nI i)) q5 (tot fo L) (oF fo q5)).2).2.2.2.2.1)])), (wz, .inl (cI, n, .inl (((fX0_movedValue n us ob (fwdW fo L) (nI (tot fo L)) (nI L.length) g (fX0_wordAt n g (nI i)) q5 (tot fo L) (oF fo q5)).2).2.2.2.2.2)))]) [0, 1, 2, 3] rfl
                have hD := hD.sub (ws' := [(ha, .inr (0, [.ref wa, .int (((fX0_movedValue n us ob (fwdW fo L) (nI (tot fo L)) (nI L.length) g (fX0_wordAt n g (nI i)) q5 (tot fo L) (oF fo q5)).2).1), .int (((fX0_movedValue n us ob (fwdW fo L) (nI (tot fo L)) (nI L.length) g (fX0_wordAt n g (nI i)) q5 (tot fo L) (oF fo q5)).2).2.1)])), (wa, .inl (cI, n, .inl (((fX0_movedValue n us ob (fwdW fo L) (nI (tot fo L)) (nI L.length) g (fX0_wordAt n g (nI i)) q5 (tot fo L) (oF fo q5)).2).2.2.1))), (hz, .inr (0, [.ref wz, .int (((fX0_movedValue n us ob (fwdW fo L) (nI (tot fo L)) (nI L.length) g (fX0_wordAt n g (nI i)) q5 (tot fo L) (oF fo q5)).2).2.2.2.1), .int (((fX0_movedValue n us ob (fwdW fo L) (nI (tot fo L)) (nI L.length) g (fX0_wordAt n g (nI i)) q5 (tot fo L) (oF fo q5)).2).2.2.2.2.1)])), (wz, .inl (cI, n, .inl (((fX0_movedValue n us ob (fwdW fo L) (nI (tot fo L)) (nI L.length) g (fX0_wordAt n g (nI i)) q5 (tot fo L) (oF fo q5)).2).2.2.2.2.2)))]) [0, 1, 2, 3] (by decide) rfl
                have e3 : fX0_movedValue n us ob (fwdW fo L) (nI (tot fo L)) (nI L.length) g (fX0_wordAt n g (nI i))  q5 (tot fo L) (oF fo q5) = (nI (2 * tgt fo (kpL L q5) q5 + 1), us, ob, fwdW fo (kpL L q5), nI (tot fo (kpL L q5)), nI (kpL L q5).length, (if q5 ∈ L then g else va_cpy (fwdW fo L) g q5 (tot fo L) (oF fo q5 + 1))) := by rw [ev]; exact mvRef hs.1 q6 q7
                rw [e3] at hP hD
                rw [e3]
                have hP : va_P (dC, dI) vwCl [(ha, .inr (0, [.ref wa, .int us, .int ob])), (wa, .inl (cI, n, .inl (fwdW fo (kpL L q5)))), (hz, .inr (0, [.ref wz, .int (nI (tot fo (kpL L q5))), .int (nI (kpL L q5).length)])), (wz, .inl (cI, n, .inl (if q5 ∈ L then g else va_cpy (fwdW fo L) g q5 (tot fo L) (oF fo q5 + 1))))] H := hP
                have hD : va_D A [(ha, .inr (0, [.ref wa, .int us, .int ob])), (wa, .inl (cI, n, .inl (fwdW fo (kpL L q5)))), (hz, .inr (0, [.ref wz, .int (nI (tot fo (kpL L q5))), .int (nI (kpL L q5).length)])), (wz, .inl (cI, n, .inl (if q5 ∈ L then g else va_cpy (fwdW fo L) g q5 (tot fo L) (oF fo q5 + 1))))] := hD
                refine W.eq (g2 := F0 m 72 ls [.int (nI (2 * tgt fo (kpL L q5) q5 + 1)), .int (nI i), .ref hz]) rfl ?_
                have hPc := hP.sub (ws' := [(hz, .inr (0, [.ref wz, .int (nI (tot fo (kpL L q5))), .int (nI (kpL L q5).length)])), (wz, .inl (cI, n, .inl (if q5 ∈ L then g else va_cpy (fwdW fo L) g q5 (tot fo L) (oF fo q5 + 1))))]) [2, 3] rfl
                have hKc := hK.sub (tys' := [(cI, .int)]) [0] rfl
                have hDc := hD.sub (ws' := [(hz, .inr (0, [.ref wz, .int (nI (tot fo (kpL L q5))), .int (nI (kpL L q5).length)])), (wz, .inl (cI, n, .inl (if q5 ∈ L then g else va_cpy (fwdW fo L) g q5 (tot fo L) (oF fo q5 + 1))))]) [2, 3] (by decide) rfl
                have hFc := va_free (wc := [(hz, .inr (0, [.ref wz, .int (nI (tot fo (kpL L q5))), .int (nI (kpL L q5).length)])), (wz, .inl (cI, n, .inl (if q5 ∈ L then g else va_cpy (fwdW fo L) g q5 (tot fo L) (oF fo q5 + 1))))]) hD hS hA [2, 3] rfl
                refine va_callv (va_runV (As := [.int (nI i), .int (nI (2 * tgt fo (kpL L q5) q5 + 1))]) (rest := []) ⟨hx, hb, hml, hown, ht⟩ (ctX0_setWord l dC dI cI hz wz n (nI (tot fo (kpL L q5))) (nI (kpL L q5).length) (if q5 ∈ L then g else va_cpy (fwdW fo L) g q5 (tot fo L) (oF fo q5 + 1)) (nI i) (nI (2 * tgt fo (kpL L q5) q5 + 1)) _ hn) (cwV 2 ht gcX1_76 rfl rfl rfl (by decide +kernel) ⟨Nat.le_of_ble_eq_true rfl, Nat.le_of_ble_eq_true rfl⟩) ⟨pM.blind, va_recv hKc hPc (ci := 0) (q0 := 0) rfl rfl, pM.call hPc hKc hDc hE⟩ rfl rfl hl.1 rfl (lv_room (Nat.le_of_ble_eq_true rfl)) dX1_moveWhatFieldsReferTo_72 ⟨Nat.le_of_ble_eq_true rfl, Nat.le_of_ble_eq_true rfl⟩) hS (fun q _ h => hFc q h) hFc (fun u_15 t H1 locs ht9 hvm hw hB hz1 hk1 hS => ?_)
                subst hw
                obtain ⟨hP1, hK1, hD1⟩ := hB
                rw [ht9] at hP1
                obtain ⟨hP, hD⟩ := va_join (wr := [(ha, .inr (0, [.ref wa, .int us, .int ob])), (wa, .inl (cI, n, .inl (fwdW fo (kpL L q5))))]) (w1 := [(hz, .inr (0, [.ref wz, .int ((fX0_setWord n (nI (tot fo (kpL L q5))) (nI (kpL L q5).length) (if q5 ∈ L then g else va_cpy (fwdW fo L) g q5 (tot fo L) (oF fo q5 + 1)) (nI i) (nI (2 * tgt fo (kpL L q5) q5 + 1))).1), .int ((fX0_setWord n (nI (tot fo (kpL L q5))) (nI (kpL L q5).length) (if q5 ∈ L then g else va_cpy (fwdW fo L) g q5 (tot fo L) (oF fo q5 + 1)) (nI i) (nI (2 * tgt fo (kpL L q5) q5 + 1))).2.1)])), (wz, .inl (cI, n, .inl ((fX0_setWord n (nI (tot fo (kpL L q5))) (nI (kpL L q5).length) (if q5 ∈ L then g else va_cpy (fwdW fo L) g q5 (tot fo L) (oF fo q5 + 1)) (nI i) (nI (2 * tgt fo (kpL L q5) q5 + 1))).2.2)))]) hP hD [2, 3] [0, 1] rfl rfl (by decide) (by decide) hk1 hFc hP1 hD1
                generalize H1 = H at hP hS ⊢
                have hP := hP.sub (ws' := [(ha, .inr (0, [.ref wa, .int us, .int ob])), (wa, .inl (cI, n, .inl (fwdW fo (kpL L q5)))), (hz, .inr (0, [.ref wz, .int ((fX0_setWord n (nI (tot fo (kpL L q5))) (nI (kpL L q5).length) (if q5 ∈ L then g else va_cpy (fwdW fo L) g q5 (tot fo L) (oF fo q5 + 1)) (nI i) (nI (2 * tgt fo (kpL L q5) q5 + 1))).1), .int ((fX0_setWord n (nI (tot fo (kpL L q5))) (nI (kpL L q5).length) (if q5 ∈ L then g else va_cpy (fwdW fo L) g q5 (tot fo L) (oF fo q5 + 1)) (nI i) (nI (2 * tgt fo (kpL L q5) q5 + 1))).2.1)])), (wz, .inl (cI, n, .inl ((fX0_setWord n (nI (tot fo (kpL L q5))) (nI (kpL L q5).length) (if q5 ∈ L then g else va_cpy (fwdW fo L) g q5 (tot fo L) (oF fo q5 + 1)) (nI i) (nI (2 * tgt fo (kpL L q5) q5 + 1))).2.2)))]) [0, 1, 2, 3] rfl
                have hD := hD.sub (ws' := [(ha, .inr (0, [.ref wa, .int us, .int ob])), (wa, .inl (cI, n, .inl (fwdW fo (kpL L q5)))), (hz, .inr (0, [.ref wz, .int ((fX0_setWord n (nI (tot fo (kpL L q5))) (nI (kpL L q5).length) (if q5 ∈ L then g else va_cpy (fwdW fo L) g q5 (tot fo L) (oF fo q5 + 1)) (nI i) (nI (2 * tgt fo (kpL L q5) q5 + 1))).1), .int ((fX0_setWord n (nI (tot fo (kpL L q5))) (nI (kpL L q5).length) (if q5 ∈ L then g else va_cpy (fwdW fo L) g q5 (tot fo L) (oF fo q5 + 1)) (nI i) (nI (2 * tgt fo (kpL L q5) q5 + 1))).2.1)])), (wz, .inl (cI, n, .inl ((fX0_setWord n (nI (tot fo (kpL L q5))) (nI (kpL L q5).length) (if q5 ∈ L then g else va_cpy (fwdW fo L) g q5 (tot fo L) (oF fo q5 + 1)) (nI i) (nI (2 * tgt fo (kpL L q5) q5 + 1))).2.2)))]) [0, 1, 2, 3] (by decide) rfl
                have e4 : fX0_setWord n (nI (tot fo (kpL L q5))) (nI (kpL L q5).length) (if q5 ∈ L then g else va_cpy (fwdW fo L) g q5 (tot fo L) (oF fo q5 + 1)) (nI i) (nI (2 * tgt fo (kpL L q5) q5 + 1)) = (nI (tot fo (kpL L q5)), nI (kpL L q5).length, upd (if q5 ∈ L then g else va_cpy (fwdW fo L) g q5 (tot fo L) (oF fo q5 + 1)) i (nI (2 * tgt fo (kpL L q5) q5 + 1))) := swI (by omega) hn
                rw [e4] at hP hD
                have hmv := hs.move h9 (by rw [hp2]; exact hp3) (by rw [hp2]; exact q2) q6 q7 (by unfold rawV; rw [hp2]; exact q8)
                have hP : va_P (dC, dI) vwCl [(ha, .inr (0, [.ref wa, .int us, .int ob])), (wa, .inl (cI, n, .inl (fwdW fo (kpL L q5)))), (hz, .inr (0, [.ref wz, .int (nI (tot fo (kpL L q5))), .int (nI (kpL L q5).length)])), (wz, .inl (cI, n, .inl (upd (if q5 ∈ L then g else va_cpy (fwdW fo L) g q5 (tot fo L) (oF fo q5 + 1)) i (nI (2 * tgt fo (kpL L q5) q5 + 1)))))] H := hP
                have hD : va_D A [(ha, .inr (0, [.ref wa, .int us, .int ob])), (wa, .inl (cI, n, .inl (fwdW fo (kpL L q5)))), (hz, .inr (0, [.ref wz, .int (nI (tot fo (kpL L q5))), .int (nI (kpL L q5).length)])), (wz, .inl (cI, n, .inl (upd (if q5 ∈ L then g else va_cpy (fwdW fo L) g q5 (tot fo L) (oF fo q5 + 1)) i (nI (2 * tgt fo (kpL L q5) q5 + 1)))))] := hD
                obtain ⟨x_16, ex_16⟩ : ∃ y : Int32, y = nI i + 1 := ⟨_, rfl⟩
                refine lv_iinc (v := x_16) (lv' := [(4, .int x_16), (0, .ref ha), (1, .ref hz), (2, .int (nI kd)), (3, .int (nI nf))]) hx hb dX1_moveWhatFieldsReferTo_75 hl (k := 4) rfl (by rw [ex_16]; rfl) (by decide) rfl (fun ls hl => ?_)
                refine lv_goto (tgt := 7) hx hb dX1_moveWhatFieldsReferTo_78 (by decide) ?_
                obtain ⟨M9, hM9⟩ := kpL_ext L q5
                rw [ex_16, nI_1] at hl
                exact ih (i + 1) nf kd (kpL L q5) _ (by omega) (by rw [← hsc, scn_s h9, hmv.1]) hmv.2 (by rw [hM9]; exact hb9.app) _ _ ls hP hD hS (lv_sub hl [1, 2, 3, 4, 0] rfl)
          · have e29 : nf = i := ((nI_eq (by omega) (by omega)).mp c_4).symm
            obtain ⟨p9, hp1, hp2, hp3, hp4⟩ := bdI.first hs hbi h9 e29
            have hst : ¬ ((lcp fo L i).2 ≠ 0 ∧ so ((lcp fo L i).1 + (lcp fo L i).2) = 2) := fun q => q.1 (by rw [hp2])
            have hh := hs.1.1.2.2.2.1 p9 (hs.1.2.2 p9 hp1).1 (hs.1.2.2 p9 hp1).2
            have e1 : fX0_kindAt n g (nI i) = nI (oK fo p9) := kndJ hn (by omega) hh.1 hp3
            have e2 : nI i + 1 + fX0_fieldsAt n g (nI i) = nI (i + 1 + oF fo p9) := by rw [fldJ hn (by omega) hh.1 hp3, nI_1, nI_add]
            refine lv_aload_n hx hb dX1_moveWhatFieldsReferTo_32 rfl (lv_at hl 1 rfl) ?_
            refine lv_iload hx hb dX1_moveWhatFieldsReferTo_33 (lv_at hl 4 rfl) ?_
            have hPc := hP.sub (ws' := [(hz, .inr (0, [.ref wz, .int (nI (tot fo L)), .int (nI L.length)])), (wz, .inl (cI, n, .inl g))]) [2, 3] rfl
            have hKc := hK.sub (tys' := [(cI, .int)]) [0] rfl
            refine vp_callSi (va_runV (As := [.int (nI i)]) (rest := []) ⟨hx, hb, hml, hown, ht⟩ (ctX0_kindAt l dC dI cI hz wz n (nI (tot fo L)) (nI L.length) g (nI i) hn) (cwV 1 ht gcX1_67 rfl rfl rfl (by decide +kernel) ⟨Nat.le_of_ble_eq_true rfl, Nat.le_of_ble_eq_true rfl⟩) ⟨pS.blind, va_recv hKc hPc (ci := 0) (q0 := 0) rfl rfl, pS.call hPc hKc hE⟩ rfl rfl hl.1 rfl (lv_room (Nat.le_of_ble_eq_true rfl)) dX1_moveWhatFieldsReferTo_35 ⟨Nat.le_of_ble_eq_true rfl, Nat.le_of_ble_eq_true rfl⟩).run (fun r_17 hr_17 => ?_)
            subst hr_17
            refine lv_istore_n (lv' := [(2, .int (fX0_kindAt n g (nI i))), (0, .ref ha), (1, .ref hz), (3, .int (nI nf)), (4, .int (nI i))]) hx hb dX1_moveWhatFieldsReferTo_38 rfl hl (by decide) rfl (fun ls hl => ?_)
            refine lv_iload hx hb dX1_moveWhatFieldsReferTo_39 (lv_at hl 4 rfl) ?_
            refine lv_iconst (v := 1) hx hb dX1_moveWhatFieldsReferTo_41 (by decide) ?_
            refine lv_iadd hx hb dX1_moveWhatFieldsReferTo_42 ?_
            refine lv_aload_n hx hb dX1_moveWhatFieldsReferTo_43 rfl (lv_at hl 2 rfl) ?_
            refine lv_iload hx hb dX1_moveWhatFieldsReferTo_44 (lv_at hl 4 rfl) ?_
            have hPc := hP.sub (ws' := [(hz, .inr (0, [.ref wz, .int (nI (tot fo L)), .int (nI L.length)])), (wz, .inl (cI, n, .inl g))]) [2, 3] rfl
            have hKc := hK.sub (tys' := [(cI, .int)]) [0] rfl
            refine vp_callSi (va_runV (As := [.int (nI i)]) (rest := [.int ((nI i) + 1)]) ⟨hx, hb, hml, hown, ht⟩ (ctX0_fieldsAt l dC dI cI hz wz n (nI (tot fo L)) (nI L.length) g (nI i) hn) (cwV 1 ht gcX1_88 rfl rfl rfl (by decide +kernel) ⟨Nat.le_of_ble_eq_true rfl, Nat.le_of_ble_eq_true rfl⟩) ⟨pS.blind, va_recv hKc hPc (ci := 0) (q0 := 0) rfl rfl, pS.call hPc hKc hE⟩ rfl rfl hl.1 rfl (lv_room (Nat.le_of_ble_eq_true rfl)) dX1_moveWhatFieldsReferTo_46 ⟨Nat.le_of_ble_eq_true rfl, Nat.le_of_ble_eq_true rfl⟩).run (fun r_18 hr_18 => ?_)
            subst hr_18
            refine lv_iadd hx hb dX1_moveWhatFieldsReferTo_49 ?_
            refine lv_istore_n (lv' := [(3, .int (((nI i) + 1) + (fX0_fieldsAt n g (nI i)))), (2, .int (fX0_kindAt n g (nI i))), (0, .ref ha), (1, .ref hz), (4, .int (nI i))]) hx hb dX1_moveWhatFieldsReferTo_50 rfl hl (by decide) rfl (fun ls hl => ?_)
            refine lv_goto (tgt := 75) hx hb dX1_moveWhatFieldsReferTo_51 (by decide) ?_
            obtain ⟨x_19, ex_19⟩ : ∃ y : Int32, y = nI i + 1 := ⟨_, rfl⟩
            refine lv_iinc (v := x_19) (lv' := [(4, .int x_19), (3, .int (((nI i) + 1) + (fX0_fieldsAt n g (nI i)))), (2, .int (fX0_kindAt n g (nI i))), (0, .ref ha), (1, .ref hz)]) hx hb dX1_moveWhatFieldsReferTo_75 hl (k := 4) rfl (by rw [ex_19]; rfl) (by decide) rfl (fun ls hl => ?_)
            refine lv_goto (tgt := 7) hx hb dX1_moveWhatFieldsReferTo_78 (by decide) ?_
            rw [e1, e2] at hl
            rw [ex_19, nI_1] at hl
            exact ih (i + 1) (i + 1 + oF fo p9) (oK fo p9) L g (by omega) (by rw [← hsc, scn_s h9, (hs.stay h9 hst).2.1]) (hs.stay h9 hst).1 hp4 _ _ ls hP hD hS (lv_sub hl [3, 4, 2, 1, 0] rfl)
  exact hloop (uu + 1) 0 0 0 L0 f2 (by omega) rfl hI hb0 _ _ ls hP hD hS (lv_sub hl [3, 4, 2, 1, 0] rfl)
