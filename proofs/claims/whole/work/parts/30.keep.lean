def fX2_keep (th : Int32) (us : Int32) (col : Int32) (mov : Int32) (so : Nat → Int32) (va : Nat → Int32) (ns : Nat → Int32) (nv : Nat → Int32) (rs : Nat → Int32) (rv : Nat → Int32) (sty : Int32) (st : Nat → Int32) (go : Nat → Int32) (ip : Int32) : Int32 × Int32 × Int32 × Int32 × (Nat → Int32) × (Nat → Int32) × (Nat → Int32) × (Nat → Int32) × (Nat → Int32) × (Nat → Int32) × Int32 × (Nat → Int32) × (Nat → Int32) := (if go ip.toNatClampNeg = (-1) then (if sty ≤ 0 then (th, us, col, mov, so, va, ns, nv, rs, rv, sty + 1, upd st sty.toNatClampNeg ip, upd go ip.toNatClampNeg 0) else (th, us, col, mov, so, va, ns, nv, rs, rv, sty + 1, upd st sty.toNatClampNeg ip, upd go ip.toNatClampNeg (((go (st (sty - 1).toNatClampNeg).toNatClampNeg) + 1) + (fX2_fieldsAt va (st (sty - 1).toNatClampNeg))))) else (th, us, col, mov, so, va, ns, nv, rs, rv, sty, st, go))
abbrev atX2_keep (dC : Nat → ClassId) (dI : Nat → Nat → Nat) (cI : ClassId) (A : Nat → Prop) (mx : Nat) (aso : Nat) (ava : Nat) (ans : Nat) (anv : Nat) (ars : Nat) (arv : Nat) (ast : Nat) (ago : Nat) (hf : Int32) (u : Int32 × Int32 × Int32 × Int32 × (Nat → Int32) × (Nat → Int32) × (Nat → Int32) × (Nat → Int32) × (Nat → Int32) × (Nat → Int32) × Int32 × (Nat → Int32) × (Nat → Int32)) (t : State) : Prop := va_P (dC, dI) vwCl [(mx, .inr (2, [.int u.1, .int hf, .int u.2.1, .int u.2.2.1, .int u.2.2.2.1, .ref aso, .ref ava, .ref ans, .ref anv, .ref ars, .ref arv, .int u.2.2.2.2.2.2.2.2.2.2.1, .ref ast, .ref ago])), (aso, .inl (cI, 2100, .inl u.2.2.2.2.1)), (ava, .inl (cI, 2100, .inl u.2.2.2.2.2.1)), (ans, .inl (cI, 2100, .inl u.2.2.2.2.2.2.1)), (anv, .inl (cI, 2100, .inl u.2.2.2.2.2.2.2.1)), (ars, .inl (cI, 8, .inl u.2.2.2.2.2.2.2.2.1)), (arv, .inl (cI, 8, .inl u.2.2.2.2.2.2.2.2.2.1)), (ast, .inl (cI, 2100, .inl u.2.2.2.2.2.2.2.2.2.2.2.1)), (ago, .inl (cI, 2100, .inl u.2.2.2.2.2.2.2.2.2.2.2.2))] t.heap ∧ va_K (dC, dI) vwCl [(cI, .int)] t ∧ va_D A [(mx, .inr (2, [.int u.1, .int hf, .int u.2.1, .int u.2.2.1, .int u.2.2.2.1, .ref aso, .ref ava, .ref ans, .ref anv, .ref ars, .ref arv, .int u.2.2.2.2.2.2.2.2.2.2.1, .ref ast, .ref ago])), (aso, .inl (cI, 2100, .inl u.2.2.2.2.1)), (ava, .inl (cI, 2100, .inl u.2.2.2.2.2.1)), (ans, .inl (cI, 2100, .inl u.2.2.2.2.2.2.1)), (anv, .inl (cI, 2100, .inl u.2.2.2.2.2.2.2.1)), (ars, .inl (cI, 8, .inl u.2.2.2.2.2.2.2.2.1)), (arv, .inl (cI, 8, .inl u.2.2.2.2.2.2.2.2.2.1)), (ast, .inl (cI, 2100, .inl u.2.2.2.2.2.2.2.2.2.2.2.1)), (ago, .inl (cI, 2100, .inl u.2.2.2.2.2.2.2.2.2.2.2.2))]
set_option maxHeartbeats 4000000 in
set_option maxRecDepth 100000 in
theorem ctX2_keep (l : Launch) (dC : Nat → ClassId) (dI : Nat → Nat → Nat) (cI : ClassId) (mx : Nat) (aso : Nat) (ava : Nat) (ans : Nat) (anv : Nat) (ars : Nat) (arv : Nat) (ast : Nat) (ago : Nat) (th : Int32) (hf : Int32) (us : Int32) (col : Int32) (mov : Int32) (sty : Int32) (so : Nat → Int32) (va : Nat → Int32) (ns : Nat → Int32) (nv : Nat → Int32) (rs : Nat → Int32) (rv : Nat → Int32) (st : Nat → Int32) (go : Nat → Int32) (ip : Int32) (sz : Nat) (h1 : vp_in ip 2100) (h2 : ¬ sty ≤ 0 → vp_in (sty - 1) 2100 ∧ vp_in (st (sty - 1).toNatClampNeg) 2100) (h3 : vp_in sty 2100) : Met l yX2_keep (kX2_keep :: gT) ({ frames := 1, cells := 0, slots := 0, locals := 21 }) (va_Pc [.ref mx, .int ip] (pM (dC, dI) [(mx, .inr (2, [.int th, .int hf, .int us, .int col, .int mov, .ref aso, .ref ava, .ref ans, .ref anv, .ref ars, .ref arv, .int sty, .ref ast, .ref ago])), (aso, .inl (cI, 2100, .inl so)), (ava, .inl (cI, 2100, .inl va)), (ans, .inl (cI, 2100, .inl ns)), (anv, .inl (cI, 2100, .inl nv)), (ars, .inl (cI, 8, .inl rs)), (arv, .inl (cI, 8, .inl rv)), (ast, .inl (cI, 2100, .inl st)), (ago, .inl (cI, 2100, .inl go))] [(cI, .int)] sz)) (va_Qv (fun u : Int32 × Int32 × Int32 × Int32 × (Nat → Int32) × (Nat → Int32) × (Nat → Int32) × (Nat → Int32) × (Nat → Int32) × (Nat → Int32) × Int32 × (Nat → Int32) × (Nat → Int32) => u = fX2_keep th us col mov so va ns nv rs rv sty st go ip) (atX2_keep dC dI cI (va_A [(mx, .inr (2, [.int th, .int hf, .int us, .int col, .int mov, .ref aso, .ref ava, .ref ans, .ref anv, .ref ars, .ref arv, .int sty, .ref ast, .ref ago])), (aso, .inl (cI, 2100, .inl so)), (ava, .inl (cI, 2100, .inl va)), (ans, .inl (cI, 2100, .inl ns)), (anv, .inl (cI, 2100, .inl nv)), (ars, .inl (cI, 8, .inl rs)), (arv, .inl (cI, 8, .inl rv)), (ast, .inl (cI, 2100, .inl st)), (ago, .inl (cI, 2100, .inl go))] sz) mx aso ava ans anv ars arv ast ago hf) (va_A [(mx, .inr (2, [.int th, .int hf, .int us, .int col, .int mov, .ref aso, .ref ava, .ref ans, .ref anv, .ref ars, .ref arv, .int sty, .ref ast, .ref ago])), (aso, .inl (cI, 2100, .inl so)), (ava, .inl (cI, 2100, .inl va)), (ans, .inl (cI, 2100, .inl ns)), (anv, .inl (cI, 2100, .inl nv)), (ars, .inl (cI, 8, .inl rs)), (arv, .inl (cI, 8, .inl rv)), (ast, .inl (cI, 2100, .inl st)), (ago, .inl (cI, 2100, .inl go))] sz)) 0 0 (va_A [(mx, .inr (2, [.int th, .int hf, .int us, .int col, .int mov, .ref aso, .ref ava, .ref ans, .ref anv, .ref ars, .ref arv, .int sty, .ref ast, .ref ago])), (aso, .inl (cI, 2100, .inl so)), (ava, .inl (cI, 2100, .inl va)), (ans, .inl (cI, 2100, .inl ns)), (anv, .inl (cI, 2100, .inl nv)), (ars, .inl (cI, 8, .inl rs)), (arv, .inl (cI, 8, .inl rv)), (ast, .inl (cI, 2100, .inl st)), (ago, .inl (cI, 2100, .inl go))] sz) := by
  refine Met.ofW (cc := cX2_keep) (maxL := 3) (ret := none) (by decide) rfl ?_
  intro p e s m args below meth c s₁ B hml hv
  obtain ⟨rfl, hsz, hP, hK, hD0, hE⟩ := hv
  have hx := B.exec
  have hb := B.bytes
  have hr := B.returns
  have ht : ∀ w ∈ gT, w.before ([.ref mx, .int ip] : List Value).toArray s = true := fun w h => atoms_spec (ws := kX2_keep :: gT) B.pre w (List.mem_cons_of_mem _ h)
  have hown : s.vm.findClass RX2 = some m.cls := findClass_of_methodNamed B.named
  have hlocks := B.notSynchronized
  subst hsz
  have hD := hD0.self (sz := s.heap.size)
  generalize hAe : va_A [(mx, .inr (2, [.int th, .int hf, .int us, .int col, .int mov, .ref aso, .ref ava, .ref ans, .ref anv, .ref ars, .ref arv, .int sty, .ref ast, .ref ago])), (aso, .inl (cI, 2100, .inl so)), (ava, .inl (cI, 2100, .inl va)), (ans, .inl (cI, 2100, .inl ns)), (anv, .inl (cI, 2100, .inl nv)), (ars, .inl (cI, 8, .inl rs)), (arv, .inl (cI, 8, .inl rv)), (ast, .inl (cI, 2100, .inl st)), (ago, .inl (cI, 2100, .inl go))] s.heap.size = A at hD ⊢
  have hA : ∀ q : Nat, s.heap.size ≤ q → A q := fun q h => by rw [← hAe]; exact Or.inr h
  have hS : va_S A s.heap s.heap [] := va_S.rf
  have hl := lv_entry ([.ref mx, .int ip]) (n := 3) (Nat.le_of_ble_eq_true rfl)
  rw [lg_entry_eq]
  generalize (lg_sl ([.ref mx, .int ip]) ++ List.replicate (3 - (lg_sl ([.ref mx, .int ip])).length) Slot.unset).toArray = ls at hl ⊢
  have hl : lv_has ls 3 [(0, .ref mx), (1, .int ip)] := hl
  refine lv_aload_n hx hb dX2_keep_0 rfl (lv_at hl 0 rfl) ?_
  refine va_get (D := (dC, dI)) (ci := 2) (v := .ref ago) (C := RX2) (T := TX2) (N := 14) hx hb ht iX2 hown hK hP 0 rfl rfl 13 (by decide) (ht _ g_339) (fun _ h9 => h9) rfl dX2_keep_1 ?_
  refine lv_iload_n hx hb dX2_keep_4 rfl (lv_at hl 1 rfl) ?_
  refine va_iald hx hb hK hP 8 0 rfl rfl h1 dX2_keep_5 ?_
  refine lv_iconst (v := (-1)) hx hb dX2_keep_6 (by decide) ?_
  refine lv_icmp_eq (tgt := 11) hx hb dX2_keep_7 (by decide) (fun c_1 => ?_) (fun c_1 => ?_)
  · refine lv_iconst (v := 0) hx hb dX2_keep_11 (by decide) ?_
    refine lv_istore_n (lv' := [(2, .int 0), (0, .ref mx), (1, .int ip)]) hx hb dX2_keep_12 rfl hl (by decide) rfl (fun ls hl => ?_)
    refine lv_aload_n hx hb dX2_keep_13 rfl (lv_at hl 1 rfl) ?_
    refine va_get (D := (dC, dI)) (ci := 2) (v := .int sty) (C := RX2) (T := TX2) (N := 14) hx hb ht iX2 hown hK hP 0 rfl rfl 11 (by decide) (ht _ g_337) (fun _ h9 => h9) rfl dX2_keep_14 ?_
    refine lv_if_le (tgt := 55) hx hb dX2_keep_17 (by decide) (fun c_2 => ?_) (fun c_2 => ?_)
    · refine lv_aload_n hx hb dX2_keep_55 rfl (lv_at hl 1 rfl) ?_
      refine va_get (D := (dC, dI)) (ci := 2) (v := .ref ago) (C := RX2) (T := TX2) (N := 14) hx hb ht iX2 hown hK hP 0 rfl rfl 13 (by decide) (ht _ g_339) (fun _ h9 => h9) rfl dX2_keep_56 ?_
      refine lv_iload_n hx hb dX2_keep_59 rfl (lv_at hl 2 rfl) ?_
      refine lv_iload_n hx hb dX2_keep_60 rfl (lv_at hl 0 rfl) ?_
      refine va_iast hx hb hK hP hD hS 8 0 rfl rfl h1 dX2_keep_61 (fun H locs hP hD hS => ?_)
      have hP : va_P (dC, dI) vwCl [(mx, .inr (2, [.int th, .int hf, .int us, .int col, .int mov, .ref aso, .ref ava, .ref ans, .ref anv, .ref ars, .ref arv, .int sty, .ref ast, .ref ago])), (aso, .inl (cI, 2100, .inl so)), (ava, .inl (cI, 2100, .inl va)), (ans, .inl (cI, 2100, .inl ns)), (anv, .inl (cI, 2100, .inl nv)), (ars, .inl (cI, 8, .inl rs)), (arv, .inl (cI, 8, .inl rv)), (ast, .inl (cI, 2100, .inl st)), (ago, .inl (cI, 2100, .inl (upd go ip.toNatClampNeg 0)))] H := hP
      have hD : va_D A [(mx, .inr (2, [.int th, .int hf, .int us, .int col, .int mov, .ref aso, .ref ava, .ref ans, .ref anv, .ref ars, .ref arv, .int sty, .ref ast, .ref ago])), (aso, .inl (cI, 2100, .inl so)), (ava, .inl (cI, 2100, .inl va)), (ans, .inl (cI, 2100, .inl ns)), (anv, .inl (cI, 2100, .inl nv)), (ars, .inl (cI, 8, .inl rs)), (arv, .inl (cI, 8, .inl rv)), (ast, .inl (cI, 2100, .inl st)), (ago, .inl (cI, 2100, .inl (upd go ip.toNatClampNeg 0)))] := hD
      refine lv_aload_n hx hb dX2_keep_62 rfl (lv_at hl 1 rfl) ?_
      refine va_get (D := (dC, dI)) (ci := 2) (v := .ref ast) (C := RX2) (T := TX2) (N := 14) hx hb ht iX2 hown hK hP 0 rfl rfl 12 (by decide) (ht _ g_338) (fun _ h9 => h9) rfl dX2_keep_63 ?_
      refine lv_aload_n hx hb dX2_keep_66 rfl (lv_at hl 1 rfl) ?_
      refine va_get (D := (dC, dI)) (ci := 2) (v := .int sty) (C := RX2) (T := TX2) (N := 14) hx hb ht iX2 hown hK hP 0 rfl rfl 11 (by decide) (ht _ g_337) (fun _ h9 => h9) rfl dX2_keep_67 ?_
      refine lv_iload_n hx hb dX2_keep_70 rfl (lv_at hl 2 rfl) ?_
      refine va_iast hx hb hK hP hD hS 7 0 rfl rfl h3 dX2_keep_71 (fun H locs hP hD hS => ?_)
      have hP : va_P (dC, dI) vwCl [(mx, .inr (2, [.int th, .int hf, .int us, .int col, .int mov, .ref aso, .ref ava, .ref ans, .ref anv, .ref ars, .ref arv, .int sty, .ref ast, .ref ago])), (aso, .inl (cI, 2100, .inl so)), (ava, .inl (cI, 2100, .inl va)), (ans, .inl (cI, 2100, .inl ns)), (anv, .inl (cI, 2100, .inl nv)), (ars, .inl (cI, 8, .inl rs)), (arv, .inl (cI, 8, .inl rv)), (ast, .inl (cI, 2100, .inl (upd st sty.toNatClampNeg ip))), (ago, .inl (cI, 2100, .inl (upd go ip.toNatClampNeg 0)))] H := hP
      have hD : va_D A [(mx, .inr (2, [.int th, .int hf, .int us, .int col, .int mov, .ref aso, .ref ava, .ref ans, .ref anv, .ref ars, .ref arv, .int sty, .ref ast, .ref ago])), (aso, .inl (cI, 2100, .inl so)), (ava, .inl (cI, 2100, .inl va)), (ans, .inl (cI, 2100, .inl ns)), (anv, .inl (cI, 2100, .inl nv)), (ars, .inl (cI, 8, .inl rs)), (arv, .inl (cI, 8, .inl rv)), (ast, .inl (cI, 2100, .inl (upd st sty.toNatClampNeg ip))), (ago, .inl (cI, 2100, .inl (upd go ip.toNatClampNeg 0)))] := hD
      refine lv_aload_n hx hb dX2_keep_72 rfl (lv_at hl 1 rfl) ?_
      refine lv_dup hx hb dX2_keep_73 rfl ?_
      refine va_get (D := (dC, dI)) (ci := 2) (v := .int sty) (C := RX2) (T := TX2) (N := 14) hx hb ht iX2 hown hK hP 0 rfl rfl 11 (by decide) (ht _ g_337) (fun _ h9 => h9) rfl dX2_keep_74 ?_
      refine lv_iconst (v := 1) hx hb dX2_keep_77 (by decide) ?_
      refine lv_iadd hx hb dX2_keep_78 ?_
      refine va_put (D := (dC, dI)) (ci := 2) (v := .int (sty + 1)) (ty := .int) (C := RX2) (T := TX2) (N := 14) hx hb ht iX2 tyX2 tkX2 nmX2 hown hK hP hD hS 0 rfl rfl 11 (by decide) (ht _ g_337) (fun _ h9 => h9) rfl (by decide +kernel) rfl rfl (Nat.le_of_ble_eq_true rfl) dX2_keep_79 (fun H locs hP hD hS => ?_)
      have hP : va_P (dC, dI) vwCl [(mx, .inr (2, [.int th, .int hf, .int us, .int col, .int mov, .ref aso, .ref ava, .ref ans, .ref anv, .ref ars, .ref arv, .int (sty + 1), .ref ast, .ref ago])), (aso, .inl (cI, 2100, .inl so)), (ava, .inl (cI, 2100, .inl va)), (ans, .inl (cI, 2100, .inl ns)), (anv, .inl (cI, 2100, .inl nv)), (ars, .inl (cI, 8, .inl rs)), (arv, .inl (cI, 8, .inl rv)), (ast, .inl (cI, 2100, .inl (upd st sty.toNatClampNeg ip))), (ago, .inl (cI, 2100, .inl (upd go ip.toNatClampNeg 0)))] H := hP
      have hD : va_D A [(mx, .inr (2, [.int th, .int hf, .int us, .int col, .int mov, .ref aso, .ref ava, .ref ans, .ref anv, .ref ars, .ref arv, .int (sty + 1), .ref ast, .ref ago])), (aso, .inl (cI, 2100, .inl so)), (ava, .inl (cI, 2100, .inl va)), (ans, .inl (cI, 2100, .inl ns)), (anv, .inl (cI, 2100, .inl nv)), (ars, .inl (cI, 8, .inl rs)), (arv, .inl (cI, 8, .inl rv)), (ast, .inl (cI, 2100, .inl (upd st sty.toNatClampNeg ip))), (ago, .inl (cI, 2100, .inl (upd go ip.toNatClampNeg 0)))] := hD
      have hP9 := hP.sub (ws' := [(mx, .inr (2, [.int th, .int hf, .int us, .int col, .int mov, .ref aso, .ref ava, .ref ans, .ref anv, .ref ars, .ref arv, .int (sty + 1), .ref ast, .ref ago])), (aso, .inl (cI, 2100, .inl so)), (ava, .inl (cI, 2100, .inl va)), (ans, .inl (cI, 2100, .inl ns)), (anv, .inl (cI, 2100, .inl nv)), (ars, .inl (cI, 8, .inl rs)), (arv, .inl (cI, 8, .inl rv)), (ast, .inl (cI, 2100, .inl (upd st sty.toNatClampNeg ip))), (ago, .inl (cI, 2100, .inl (upd go ip.toNatClampNeg 0)))]) [0, 1, 2, 3, 4, 5, 6, 7, 8] rfl
      have hD9 := hD.sub (ws' := [(mx, .inr (2, [.int th, .int hf, .int us, .int col, .int mov, .ref aso, .ref ava, .ref ans, .ref anv, .ref ars, .ref arv, .int (sty + 1), .ref ast, .ref ago])), (aso, .inl (cI, 2100, .inl so)), (ava, .inl (cI, 2100, .inl va)), (ans, .inl (cI, 2100, .inl ns)), (anv, .inl (cI, 2100, .inl nv)), (ars, .inl (cI, 8, .inl rs)), (arv, .inl (cI, 8, .inl rv)), (ast, .inl (cI, 2100, .inl (upd st sty.toNatClampNeg ip))), (ago, .inl (cI, 2100, .inl (upd go ip.toNatClampNeg 0)))]) [0, 1, 2, 3, 4, 5, 6, 7, 8] (by decide) rfl
      have hK9 := hK.sub (tys' := [(cI, .int)]) [0] rfl
      exact W.vret hx hb hr (fun t ht hW => ⟨⟨(th, us, col, mov, so, va, ns, nv, rs, rv, sty + 1, upd st sty.toNatClampNeg ip, upd go ip.toNatClampNeg 0), rfl, (by simp only [fX2_keep, if_pos c_1, if_pos c_2]), by rw [ht]; exact hP9, va_K.moved hW.alike hK9, hD9⟩, hS.F ht⟩) hS.2.2 dX2_keep_82
    · refine lv_aload_n hx hb dX2_keep_20 rfl (lv_at hl 1 rfl) ?_
      refine va_get (D := (dC, dI)) (ci := 2) (v := .ref ago) (C := RX2) (T := TX2) (N := 14) hx hb ht iX2 hown hK hP 0 rfl rfl 13 (by decide) (ht _ g_339) (fun _ h9 => h9) rfl dX2_keep_21 ?_
      refine lv_aload_n hx hb dX2_keep_24 rfl (lv_at hl 1 rfl) ?_
      refine va_get (D := (dC, dI)) (ci := 2) (v := .ref ast) (C := RX2) (T := TX2) (N := 14) hx hb ht iX2 hown hK hP 0 rfl rfl 12 (by decide) (ht _ g_338) (fun _ h9 => h9) rfl dX2_keep_25 ?_
      refine lv_aload_n hx hb dX2_keep_28 rfl (lv_at hl 1 rfl) ?_
      refine va_get (D := (dC, dI)) (ci := 2) (v := .int sty) (C := RX2) (T := TX2) (N := 14) hx hb ht iX2 hown hK hP 0 rfl rfl 11 (by decide) (ht _ g_337) (fun _ h9 => h9) rfl dX2_keep_29 ?_
      refine lv_iconst (v := 1) hx hb dX2_keep_32 (by decide) ?_
      refine lv_isub hx hb dX2_keep_33 ?_
      refine va_iald hx hb hK hP 7 0 rfl rfl (h2 c_2).1 dX2_keep_34 ?_
      refine va_iald hx hb hK hP 8 0 rfl rfl (h2 c_2).2 dX2_keep_35 ?_
      refine lv_iconst (v := 1) hx hb dX2_keep_36 (by decide) ?_
      refine lv_iadd hx hb dX2_keep_37 ?_
      refine lv_aload_n hx hb dX2_keep_38 rfl (lv_at hl 1 rfl) ?_
      refine lv_aload_n hx hb dX2_keep_39 rfl (lv_at hl 1 rfl) ?_
      refine va_get (D := (dC, dI)) (ci := 2) (v := .ref ast) (C := RX2) (T := TX2) (N := 14) hx hb ht iX2 hown hK hP 0 rfl rfl 12 (by decide) (ht _ g_338) (fun _ h9 => h9) rfl dX2_keep_40 ?_
      refine lv_aload_n hx hb dX2_keep_43 rfl (lv_at hl 1 rfl) ?_
      refine va_get (D := (dC, dI)) (ci := 2) (v := .int sty) (C := RX2) (T := TX2) (N := 14) hx hb ht iX2 hown hK hP 0 rfl rfl 11 (by decide) (ht _ g_337) (fun _ h9 => h9) rfl dX2_keep_44 ?_
      refine lv_iconst (v := 1) hx hb dX2_keep_47 (by decide) ?_
      refine lv_isub hx hb dX2_keep_48 ?_
      refine va_iald hx hb hK hP 7 0 rfl rfl (h2 c_2).1 dX2_keep_49 ?_
      have hPc := hP.sub (ws' := [(mx, .inr (2, [.int th, .int hf, .int us, .int col, .int mov, .ref aso, .ref ava, .ref ans, .ref anv, .ref ars, .ref arv, .int sty, .ref ast, .ref ago])), (aso, .inl (cI, 2100, .inl so)), (ava, .inl (cI, 2100, .inl va)), (ans, .inl (cI, 2100, .inl ns)), (anv, .inl (cI, 2100, .inl nv)), (ars, .inl (cI, 8, .inl rs)), (arv, .inl (cI, 8, .inl rv)), (ast, .inl (cI, 2100, .inl st)), (ago, .inl (cI, 2100, .inl go))]) [0, 1, 2, 3, 4, 5, 6, 7, 8] rfl
      have hKc := hK.sub (tys' := [(cI, .int)]) [0] rfl
      refine vp_callSi (va_runV (As := [.int (st (sty - 1).toNatClampNeg)]) (rest := [.int ((go (st (sty - 1).toNatClampNeg).toNatClampNeg) + 1)]) ⟨hx, hb, hml, hown, ht⟩ (ctX2_fieldsAt l dC dI cI mx aso ava ans anv ars arv ast ago th hf us col mov sty so va ns nv rs rv st go (st (sty - 1).toNatClampNeg) (h2 c_2).2) (cwV 1 ht gcX2_44 rfl rfl rfl (by decide +kernel) ⟨Nat.le_of_ble_eq_true rfl, Nat.le_of_ble_eq_true rfl⟩) ⟨pS.blind, va_recv hKc hPc (ci := 2) (q0 := 0) rfl rfl, pS.call hPc hKc hE⟩ rfl rfl hl.1 rfl (lv_room (Nat.le_of_ble_eq_true rfl)) dX2_keep_50 ⟨Nat.le_of_ble_eq_true rfl, Nat.le_of_ble_eq_true rfl⟩).run (fun r_3 hr_3 => ?_)
      subst hr_3
      refine lv_iadd hx hb dX2_keep_53 ?_
      refine lv_istore_n (lv' := [(2, .int (((go (st (sty - 1).toNatClampNeg).toNatClampNeg) + 1) + (fX2_fieldsAt va (st (sty - 1).toNatClampNeg)))), (0, .ref mx), (1, .int ip)]) hx hb dX2_keep_54 rfl hl (by decide) rfl (fun ls hl => ?_)
      refine lv_aload_n hx hb dX2_keep_55 rfl (lv_at hl 1 rfl) ?_
      refine va_get (D := (dC, dI)) (ci := 2) (v := .ref ago) (C := RX2) (T := TX2) (N := 14) hx hb ht iX2 hown hK hP 0 rfl rfl 13 (by decide) (ht _ g_339) (fun _ h9 => h9) rfl dX2_keep_56 ?_
      refine lv_iload_n hx hb dX2_keep_59 rfl (lv_at hl 2 rfl) ?_
      refine lv_iload_n hx hb dX2_keep_60 rfl (lv_at hl 0 rfl) ?_
      refine va_iast hx hb hK hP hD hS 8 0 rfl rfl h1 dX2_keep_61 (fun H locs hP hD hS => ?_)
      have hP : va_P (dC, dI) vwCl [(mx, .inr (2, [.int th, .int hf, .int us, .int col, .int mov, .ref aso, .ref ava, .ref ans, .ref anv, .ref ars, .ref arv, .int sty, .ref ast, .ref ago])), (aso, .inl (cI, 2100, .inl so)), (ava, .inl (cI, 2100, .inl va)), (ans, .inl (cI, 2100, .inl ns)), (anv, .inl (cI, 2100, .inl nv)), (ars, .inl (cI, 8, .inl rs)), (arv, .inl (cI, 8, .inl rv)), (ast, .inl (cI, 2100, .inl st)), (ago, .inl (cI, 2100, .inl (upd go ip.toNatClampNeg (((go (st (sty - 1).toNatClampNeg).toNatClampNeg) + 1) + (fX2_fieldsAt va (st (sty - 1).toNatClampNeg))))))] H := hP
      have hD : va_D A [(mx, .inr (2, [.int th, .int hf, .int us, .int col, .int mov, .ref aso, .ref ava, .ref ans, .ref anv, .ref ars, .ref arv, .int sty, .ref ast, .ref ago])), (aso, .inl (cI, 2100, .inl so)), (ava, .inl (cI, 2100, .inl va)), (ans, .inl (cI, 2100, .inl ns)), (anv, .inl (cI, 2100, .inl nv)), (ars, .inl (cI, 8, .inl rs)), (arv, .inl (cI, 8, .inl rv)), (ast, .inl (cI, 2100, .inl st)), (ago, .inl (cI, 2100, .inl (upd go ip.toNatClampNeg (((go (st (sty - 1).toNatClampNeg).toNatClampNeg) + 1) + (fX2_fieldsAt va (st (sty - 1).toNatClampNeg))))))] := hD
      refine lv_aload_n hx hb dX2_keep_62 rfl (lv_at hl 1 rfl) ?_
      refine va_get (D := (dC, dI)) (ci := 2) (v := .ref ast) (C := RX2) (T := TX2) (N := 14) hx hb ht iX2 hown hK hP 0 rfl rfl 12 (by decide) (ht _ g_338) (fun _ h9 => h9) rfl dX2_keep_63 ?_
      refine lv_aload_n hx hb dX2_keep_66 rfl (lv_at hl 1 rfl) ?_
      refine va_get (D := (dC, dI)) (ci := 2) (v := .int sty) (C := RX2) (T := TX2) (N := 14) hx hb ht iX2 hown hK hP 0 rfl rfl 11 (by decide) (ht _ g_337) (fun _ h9 => h9) rfl dX2_keep_67 ?_
      refine lv_iload_n hx hb dX2_keep_70 rfl (lv_at hl 2 rfl) ?_
      refine va_iast hx hb hK hP hD hS 7 0 rfl rfl h3 dX2_keep_71 (fun H locs hP hD hS => ?_)
      have hP : va_P (dC, dI) vwCl [(mx, .inr (2, [.int th, .int hf, .int us, .int col, .int mov, .ref aso, .ref ava, .ref ans, .ref anv, .ref ars, .ref arv, .int sty, .ref ast, .ref ago])), (aso, .inl (cI, 2100, .inl so)), (ava, .inl (cI, 2100, .inl va)), (ans, .inl (cI, 2100, .inl ns)), (anv, .inl (cI, 2100, .inl nv)), (ars, .inl (cI, 8, .inl rs)), (arv, .inl (cI, 8, .inl rv)), (ast, .inl (cI, 2100, .inl (upd st sty.toNatClampNeg ip))), (ago, .inl (cI, 2100, .inl (upd go ip.toNatClampNeg (((go (st (sty - 1).toNatClampNeg).toNatClampNeg) + 1) + (fX2_fieldsAt va (st (sty - 1).toNatClampNeg))))))] H := hP
      have hD : va_D A [(mx, .inr (2, [.int th, .int hf, .int us, .int col, .int mov, .ref aso, .ref ava, .ref ans, .ref anv, .ref ars, .ref arv, .int sty, .ref ast, .ref ago])), (aso, .inl (cI, 2100, .inl so)), (ava, .inl (cI, 2100, .inl va)), (ans, .inl (cI, 2100, .inl ns)), (anv, .inl (cI, 2100, .inl nv)), (ars, .inl (cI, 8, .inl rs)), (arv, .inl (cI, 8, .inl rv)), (ast, .inl (cI, 2100, .inl (upd st sty.toNatClampNeg ip))), (ago, .inl (cI, 2100, .inl (upd go ip.toNatClampNeg (((go (st (sty - 1).toNatClampNeg).toNatClampNeg) + 1) + (fX2_fieldsAt va (st (sty - 1).toNatClampNeg))))))] := hD
      refine lv_aload_n hx hb dX2_keep_72 rfl (lv_at hl 1 rfl) ?_
      refine lv_dup hx hb dX2_keep_73 rfl ?_
      refine va_get (D := (dC, dI)) (ci := 2) (v := .int sty) (C := RX2) (T := TX2) (N := 14) hx hb ht iX2 hown hK hP 0 rfl rfl 11 (by decide) (ht _ g_337) (fun _ h9 => h9) rfl dX2_keep_74 ?_
      refine lv_iconst (v := 1) hx hb dX2_keep_77 (by decide) ?_
      refine lv_iadd hx hb dX2_keep_78 ?_
      refine va_put (D := (dC, dI)) (ci := 2) (v := .int (sty + 1)) (ty := .int) (C := RX2) (T := TX2) (N := 14) hx hb ht iX2 tyX2 tkX2 nmX2 hown hK hP hD hS 0 rfl rfl 11 (by decide) (ht _ g_337) (fun _ h9 => h9) rfl (by decide +kernel) rfl rfl (Nat.le_of_ble_eq_true rfl) dX2_keep_79 (fun H locs hP hD hS => ?_)
      have hP : va_P (dC, dI) vwCl [(mx, .inr (2, [.int th, .int hf, .int us, .int col, .int mov, .ref aso, .ref ava, .ref ans, .ref anv, .ref ars, .ref arv, .int (sty + 1), .ref ast, .ref ago])), (aso, .inl (cI, 2100, .inl so)), (ava, .inl (cI, 2100, .inl va)), (ans, .inl (cI, 2100, .inl ns)), (anv, .inl (cI, 2100, .inl nv)), (ars, .inl (cI, 8, .inl rs)), (arv, .inl (cI, 8, .inl rv)), (ast, .inl (cI, 2100, .inl (upd st sty.toNatClampNeg ip))), (ago, .inl (cI, 2100, .inl (upd go ip.toNatClampNeg (((go (st (sty - 1).toNatClampNeg).toNatClampNeg) + 1) + (fX2_fieldsAt va (st (sty - 1).toNatClampNeg))))))] H := hP
      have hD : va_D A [(mx, .inr (2, [.int th, .int hf, .int us, .int col, .int mov, .ref aso, .ref ava, .ref ans, .ref anv, .ref ars, .ref arv, .int (sty + 1), .ref ast, .ref ago])), (aso, .inl (cI, 2100, .inl so)), (ava, .inl (cI, 2100, .inl va)), (ans, .inl (cI, 2100, .inl ns)), (anv, .inl (cI, 2100, .inl nv)), (ars, .inl (cI, 8, .inl rs)), (arv, .inl (cI, 8, .inl rv)), (ast, .inl (cI, 2100, .inl (upd st sty.toNatClampNeg ip))), (ago, .inl (cI, 2100, .inl (upd go ip.toNatClampNeg (((go (st (sty - 1).toNatClampNeg).toNatClampNeg) + 1) + (fX2_fieldsAt va (st (sty - 1).toNatClampNeg))))))] := hD
      have hP9 := hP.sub (ws' := [(mx, .inr (2, [.int th, .int hf, .int us, .int col, .int mov, .ref aso, .ref ava, .ref ans, .ref anv, .ref ars, .ref arv, .int (sty + 1), .ref ast, .ref ago])), (aso, .inl (cI, 2100, .inl so)), (ava, .inl (cI, 2100, .inl va)), (ans, .inl (cI, 2100, .inl ns)), (anv, .inl (cI, 2100, .inl nv)), (ars, .inl (cI, 8, .inl rs)), (arv, .inl (cI, 8, .inl rv)), (ast, .inl (cI, 2100, .inl (upd st sty.toNatClampNeg ip))), (ago, .inl (cI, 2100, .inl (upd go ip.toNatClampNeg (((go (st (sty - 1).toNatClampNeg).toNatClampNeg) + 1) + (fX2_fieldsAt va (st (sty - 1).toNatClampNeg))))))]) [0, 1, 2, 3, 4, 5, 6, 7, 8] rfl
      have hD9 := hD.sub (ws' := [(mx, .inr (2, [.int th, .int hf, .int us, .int col, .int mov, .ref aso, .ref ava, .ref ans, .ref anv, .ref ars, .ref arv, .int (sty + 1), .ref ast, .ref ago])), (aso, .inl (cI, 2100, .inl so)), (ava, .inl (cI, 2100, .inl va)), (ans, .inl (cI, 2100, .inl ns)), (anv, .inl (cI, 2100, .inl nv)), (ars, .inl (cI, 8, .inl rs)), (arv, .inl (cI, 8, .inl rv)), (ast, .inl (cI, 2100, .inl (upd st sty.toNatClampNeg ip))), (ago, .inl (cI, 2100, .inl (upd go ip.toNatClampNeg (((go (st (sty - 1).toNatClampNeg).toNatClampNeg) + 1) + (fX2_fieldsAt va (st (sty - 1).toNatClampNeg))))))]) [0, 1, 2, 3, 4, 5, 6, 7, 8] (by decide) rfl
      have hK9 := hK.sub (tys' := [(cI, .int)]) [0] rfl
      exact W.vret hx hb hr (fun t ht hW => ⟨⟨(th, us, col, mov, so, va, ns, nv, rs, rv, sty + 1, upd st sty.toNatClampNeg ip, upd go ip.toNatClampNeg (((go (st (sty - 1).toNatClampNeg).toNatClampNeg) + 1) + (fX2_fieldsAt va (st (sty - 1).toNatClampNeg)))), rfl, (by simp only [fX2_keep, if_pos c_1, if_neg c_2]), by rw [ht]; exact hP9, va_K.moved hW.alike hK9, hD9⟩, hS.F ht⟩) hS.2.2 dX2_keep_82
  · have hP9 := hP.sub (ws' := [(mx, .inr (2, [.int th, .int hf, .int us, .int col, .int mov, .ref aso, .ref ava, .ref ans, .ref anv, .ref ars, .ref arv, .int sty, .ref ast, .ref ago])), (aso, .inl (cI, 2100, .inl so)), (ava, .inl (cI, 2100, .inl va)), (ans, .inl (cI, 2100, .inl ns)), (anv, .inl (cI, 2100, .inl nv)), (ars, .inl (cI, 8, .inl rs)), (arv, .inl (cI, 8, .inl rv)), (ast, .inl (cI, 2100, .inl st)), (ago, .inl (cI, 2100, .inl go))]) [0, 1, 2, 3, 4, 5, 6, 7, 8] rfl
    have hD9 := hD.sub (ws' := [(mx, .inr (2, [.int th, .int hf, .int us, .int col, .int mov, .ref aso, .ref ava, .ref ans, .ref anv, .ref ars, .ref arv, .int sty, .ref ast, .ref ago])), (aso, .inl (cI, 2100, .inl so)), (ava, .inl (cI, 2100, .inl va)), (ans, .inl (cI, 2100, .inl ns)), (anv, .inl (cI, 2100, .inl nv)), (ars, .inl (cI, 8, .inl rs)), (arv, .inl (cI, 8, .inl rv)), (ast, .inl (cI, 2100, .inl st)), (ago, .inl (cI, 2100, .inl go))]) [0, 1, 2, 3, 4, 5, 6, 7, 8] (by decide) rfl
    have hK9 := hK.sub (tys' := [(cI, .int)]) [0] rfl
    exact W.vret hx hb hr (fun t ht hW => ⟨⟨(th, us, col, mov, so, va, ns, nv, rs, rv, sty, st, go), rfl, (by simp only [fX2_keep, if_neg c_1]), by rw [ht]; exact hP9, va_K.moved hW.alike hK9, hD9⟩, hS.F ht⟩) hS.2.2 dX2_keep_10
/-- the model's lists hold L -/
def kR (u : Nat) (fo : Nat → Int32) (L : List Nat) (sty : Int32) (st go : Nat → Int32) : Prop :=
  sty = nI L.length ∧ (∀ i, i < L.length → st i = nI (L.getD i 0)) ∧ (∀ k, k < u → go k = if k ∈ L then nI (tgt fo L k) else (-1))
theorem nI_ne_m1 {k : Nat} (h : k < 2 ^ 31) : ¬ nI k = -1 := by
  intro e
  have := congrArg Int32.toInt e
  rw [nI_toInt h] at this
  have h2 : (-1 : Int32).toInt = -1 := by decide
  rw [h2] at this; omega
theorem tot_last {f : Nat → Int32} {L : List Nat} (hN : L.Nodup) (h : 0 < L.length) : L.getD (L.length - 1) 0 ∈ L ∧ tgt f L (L.getD (L.length - 1) 0) + 1 + oF f (L.getD (L.length - 1) 0) = tot f L := by
  induction L with
  | nil => simp at h
  | cons a L ih =>
    obtain ⟨ha, hN⟩ := List.nodup_cons.mp hN
    cases L with
    | nil => simp [tgt, tot]; omega
    | cons b M =>
      have h1 := ih hN (by simp)
      have e : (a :: b :: M).getD ((a :: b :: M).length - 1) 0 = (b :: M).getD ((b :: M).length - 1) 0 := by
        simp [List.getD_cons_succ]
      rw [e]
      refine ⟨List.mem_cons_of_mem _ h1.1, ?_⟩
      have e2 : ¬ a = (b :: M).getD ((b :: M).length - 1) 0 := fun e2 => ha (by rw [e2]; exact h1.1)
      have e3 : tgt f (a :: b :: M) ((b :: M).getD ((b :: M).length - 1) 0) = oF f a + 1 + tgt f (b :: M) ((b :: M).getD ((b :: M).length - 1) 0) := by
        simp only [tgt]; rw [if_neg e2]
      have e4 : tot f (a :: b :: M) = oF f a + 1 + tot f (b :: M) := rfl
      rw [e3, e4]; omega
theorem keepHyp {u n : Nat} {fo so : Nat → Int32} {L : List Nat} {sty : Int32} {st go : Nat → Int32} (hC : CL u n fo so L) (hk : kR u fo L sty st go) : (¬ sty ≤ 0 → vp_in (sty - 1) 2100 ∧ vp_in (st (sty - 1).toNatClampNeg) 2100) ∧ vp_in sty 2100 := by
  have hb := hC.bd
  have hl := lenTot fo L
  obtain ⟨h1, h2, h3⟩ := hk
  subst h1
  refine ⟨fun h => ?_, vp_in_nI (by omega) (by decide)⟩
  have hp : 0 < L.length := by
    rcases Nat.eq_zero_or_pos L.length with e | e
    · rw [e] at h; exact absurd (by decide) h
    · exact e
  have e : nI L.length - 1 = nI (L.length - 1) := by
    have := nI_pred (L.length - 1)
    rw [show L.length - 1 + 1 = L.length by omega] at this
    exact this
  rw [e, nI_clamp (by omega), h2 _ (by omega)]
  have hm := (hC.2.2 _ (tot_last hC.2.1 (f := fo) hp).1).1
  exact ⟨vp_in_nI (by omega) (by decide), vp_in_nI (by omega) (by decide)⟩
theorem keepL {u n : Nat} {fo so va : Nat → Int32} {L : List Nat} {sty : Int32} {st go : Nat → Int32} (hC : CL u n fo so L) (hk : kR u fo L sty st go) (hv : ∀ k, k < u → so k = 0 → va k = fo k) {p : Nat} (hp : p < u) (sp : so p = 0)
    {th us col mov : Int32} {ns nv rs rv : Nat → Int32} : ∃ sty9 st9 go9, fX2_keep th us col mov so va ns nv rs rv sty st go (nI p) = (th, us, col, mov, so, va, ns, nv, rs, rv, sty9, st9, go9) ∧ kR u fo (kpL L p) sty9 st9 go9 := by
  have hb := hC.bd
  have hl := lenTot fo L
  have hk0 := hk
  obtain ⟨h1, h2, h3⟩ := hk
  have hc : (nI p).toNatClampNeg = p := nI_clamp (by omega)
  by_cases e : p ∈ L
  · refine ⟨sty, st, go, ?_, ?_⟩
    · unfold fX2_keep
      rw [hc, if_neg]
      rw [h3 p hp, if_pos e]
      have := tgt_lt (f := fo) e
      exact nI_ne_m1 (by omega)
    · unfold kpL; rw [if_pos e]; exact hk0
  · refine ⟨nI (L.length + 1), upd st L.length (nI p), upd go p (nI (tot fo L)), ?_, ?_⟩
    · unfold fX2_keep
      subst h1
      rw [hc, if_pos (by rw [h3 p hp, if_neg e]), nI_clamp (by omega), nI_1]
      rcases Nat.eq_zero_or_pos L.length with e0 | e0
      · have eL : L = [] := List.length_eq_zero_iff.mp e0
        subst eL
        rw [if_pos (by decide)]
        rfl
      · have et := tot_last hC.2.1 (f := fo) e0
        have hm := hC.2.2 _ et.1
        have hh := hC.1.2.2.2.1 _ hm.1 hm.2
        have e1 : nI L.length - 1 = nI (L.length - 1) := by
          have := nI_pred (L.length - 1)
          rw [show L.length - 1 + 1 = L.length by omega] at this
          exact this
        rw [if_neg (nI_nle e0 (by omega)), e1, nI_clamp (by omega), h2 _ (by omega), nI_clamp (by omega), h3 _ hm.1, if_pos et.1]
        have e2 : fX2_fieldsAt va (nI (L.getD (L.length - 1) 0)) = nI (oF fo (L.getD (L.length - 1) 0)) := by
          unfold fX2_fieldsAt
          obtain ⟨q1, q2, q3⟩ := headW hh.1
          rw [nI_clamp (by omega), hv _ hm.1 hm.2, q1, shr1 (by omega)]; congr 1; omega
        rw [e2, nI_1, nI_add, et.2]
    · have eL : kpL L p = L ++ [p] := by unfold kpL; rw [if_neg e]
      rw [eL]
      refine ⟨by rw [List.length_append]; rfl, ?_, ?_⟩
      · intro i hi
        rw [List.length_append] at hi
        by_cases ei : i = L.length
        · rw [ei, pk_us]; simp
        · have : i < L.length := by simp at hi; omega
          rw [pk_un ei, h2 i this]
          simp [List.getD_eq_getElem?_getD, List.getElem?_append_left this]
      · intro k hk
        by_cases ek : k = p
        · rw [ek, pk_us, if_pos (List.mem_append_right _ List.mem_cons_self), tgt_snoc e]
        · rw [pk_un ek, h3 k hk]
          by_cases em : k ∈ L
          · rw [if_pos em, if_pos (List.mem_append_left _ em), tgt_app em]
          · have : k ∉ L ++ [p] := fun hh => (List.mem_append.mp hh).elim em (fun hh => (List.mem_cons.mp hh).elim ek (fun hh => by cases hh))
            rw [if_neg em, if_neg this]
