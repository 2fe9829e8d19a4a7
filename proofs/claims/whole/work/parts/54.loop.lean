theorem sw_out10 {x : Int32} (h0 : ¬ x = 0) (h1 : ¬ x = 1) (h2 : ¬ x = 2) (h3 : ¬ x = 3) (h4 : ¬ x = 4) (h5 : ¬ x = 5) (h6 : ¬ x = 6) (h7 : ¬ x = 7) (h8 : ¬ x = 8) (h9 : ¬ x = 9) : x.toInt < 0 ∨ 9 < x.toInt := by
  have a0 : x.toInt ≠ 0 := tiNe h0
  have a1 : x.toInt ≠ 1 := tiNe h1
  have a2 : x.toInt ≠ 2 := tiNe h2
  have a3 : x.toInt ≠ 3 := tiNe h3
  have a4 : x.toInt ≠ 4 := tiNe h4
  have a5 : x.toInt ≠ 5 := tiNe h5
  have a6 : x.toInt ≠ 6 := tiNe h6
  have a7 : x.toInt ≠ 7 := tiNe h7
  have a8 : x.toInt ≠ 8 := tiNe h8
  have a9 : x.toInt ≠ 9 := tiNe h9
  omega
def NY (p : Program) (l : Launch) (e : Env) (s : State) (m : MethodId) (below : List Frame) (meth : Method) (c : Code) (b : Nat) (dC : Nat → ClassId) (dI : Nat → Nat → Nat) (cI cJ : ClassId) (A : Nat → Prop) (n : Nat) (cx ar mx ao aso ava ans anv ars arv ast ago : Nat) (j : Nat) (kc ks : Nat) : Prop := ∀ (ha wa hz wz : Nat) (X : St9) (M : St13) (out : Nat → Int64) (H : Heap) (locs : List Loc) (ls : Array Slot), CplT n X M → va_P (dC, dI) vwCl [(cx, .inr (1, [.ref ar, .ref ha, .ref hz, .int X.2.2.2.2.2.2.2.1, .int X.2.2.2.2.2.2.2.2])), (ar, .inl (cI, 8, .inl X.1)), (ha, .inr (0, [.ref wa, .int X.2.1, .int X.2.2.1])), (wa, .inl (cI, n, .inl X.2.2.2.1)), (hz, .inr (0, [.ref wz, .int X.2.2.2.2.1, .int X.2.2.2.2.2.1])), (wz, .inl (cI, n, .inl X.2.2.2.2.2.2.1)), (ao, .inl (cJ, 1, .inr (.inl out))), (mx, .inr (2, [.int M.1, .int (nI n), .int M.2.1, .int M.2.2.1, .int M.2.2.2.1, .ref aso, .ref ava, .ref ans, .ref anv, .ref ars, .ref arv, .int M.2.2.2.2.2.2.2.2.2.2.1, .ref ast, .ref ago])), (aso, .inl (cI, 2100, .inl M.2.2.2.2.1)), (ava, .inl (cI, 2100, .inl M.2.2.2.2.2.1)), (ans, .inl (cI, 2100, .inl M.2.2.2.2.2.2.1)), (anv, .inl (cI, 2100, .inl M.2.2.2.2.2.2.2.1)), (ars, .inl (cI, 8, .inl M.2.2.2.2.2.2.2.2.1)), (arv, .inl (cI, 8, .inl M.2.2.2.2.2.2.2.2.2.1)), (ast, .inl (cI, 2100, .inl M.2.2.2.2.2.2.2.2.2.2.2.1)), (ago, .inl (cI, 2100, .inl M.2.2.2.2.2.2.2.2.2.2.2.2))] H → va_D A [(cx, .inr (1, [.ref ar, .ref ha, .ref hz, .int X.2.2.2.2.2.2.2.1, .int X.2.2.2.2.2.2.2.2])), (ar, .inl (cI, 8, .inl X.1)), (ha, .inr (0, [.ref wa, .int X.2.1, .int X.2.2.1])), (wa, .inl (cI, n, .inl X.2.2.2.1)), (hz, .inr (0, [.ref wz, .int X.2.2.2.2.1, .int X.2.2.2.2.2.1])), (wz, .inl (cI, n, .inl X.2.2.2.2.2.2.1)), (ao, .inl (cJ, 1, .inr (.inl out))), (mx, .inr (2, [.int M.1, .int (nI n), .int M.2.1, .int M.2.2.1, .int M.2.2.2.1, .ref aso, .ref ava, .ref ans, .ref anv, .ref ars, .ref arv, .int M.2.2.2.2.2.2.2.2.2.2.1, .ref ast, .ref ago])), (aso, .inl (cI, 2100, .inl M.2.2.2.2.1)), (ava, .inl (cI, 2100, .inl M.2.2.2.2.2.1)), (ans, .inl (cI, 2100, .inl M.2.2.2.2.2.2.1)), (anv, .inl (cI, 2100, .inl M.2.2.2.2.2.2.2.1)), (ars, .inl (cI, 8, .inl M.2.2.2.2.2.2.2.2.1)), (arv, .inl (cI, 8, .inl M.2.2.2.2.2.2.2.2.2.1)), (ast, .inl (cI, 2100, .inl M.2.2.2.2.2.2.2.2.2.2.2.1)), (ago, .inl (cI, 2100, .inl M.2.2.2.2.2.2.2.2.2.2.2.2))] → va_S A s.heap H locs → lv_has ls 7 [(0, .ref b), (1, .ref cx), (2, .ref mx), (3, .ref ao), (4, .int (nI (1 + 4 * j)))] → W p l e room_1 s m #[Value.ref b] below meth c H locs (kc) (ks) (lw_Z below #[Value.ref b] s) (F0 m 33 ls [])
set_option maxHeartbeats 4000000 in
set_option maxRecDepth 100000 in
theorem lw_step {p : Program} {l : Launch} {e : Env} {s : State} {m : MethodId} {below : List Frame} {meth : Method} {c : Code} {b : Nat} {dC : Nat → ClassId} {dI : Nat → Nat → Nat} {cI cJ : ClassId} {A : Nat → Prop} {n : Nat} {cx ar mx ao aso ava ans anv ars arv ast ago : Nat} {j : Nat} {sa : Nat → Nat} {L : Nat} {xs : Nat → Int32} {kc ks : Nat} (hx : p.tables.exec = Jvm.exec) (hb : c.code = cL_law) (hml : c.maxLocals = 7) (hown : s.vm.findClass RL = some m.cls) (ht : ∀ w ∈ gT, w.before #[Value.ref b] s = true) (hE : eN s) (hX : eX sa A s s.heap) (hC9 : eC s) (hl9 : l.stackTraces = false) (hK : va_K (dC, dI) vwCl [(cI, .int), (cJ, .long)] s) (hA : ∀ q : Nat, s.heap.size ≤ q → A q) (hsc : va_X b L xs s s.heap) (hbl : b < s.heap.size) (hbA : ¬ A b) (hn : n < 2 ^ 31) (hL : L ≤ 2049) (hr : meth.sig.returnType = ret) (hlocks : meth.locks = false) (hAz : ∀ q : Nat, A q → s.heap.size ≤ q) (hj0 : j ≤ 513) (hkc : kc + 5 ≤ 601024) (hks : ks + 30 ≤ 7293000) (hnext : 1 + 4 * j + 3 < L → NY p l e s m below meth c b dC dI cI cJ A n cx ar mx ao aso ava ans anv ars arv ast ago (j + 1) (kc + 5) (ks + 30)) : NY p l e s m below meth c b dC dI cI cJ A n cx ar mx ao aso ava ans anv ars arv ast ago j kc ks := by
  intro ha wa hz wz X M out H locs ls hT hP hD hS hl
  obtain ⟨rg, us, ob, f, us2, ob2, f2, col, mov⟩ := X
  obtain ⟨th, mus, mcol, mmov, so, va, ns, nv, rs, rv, sty, st, go⟩ := M
  have hP : va_P (dC, dI) vwCl [(cx, .inr (1, [.ref ar, .ref ha, .ref hz, .int col, .int mov])), (ar, .inl (cI, 8, .inl rg)), (ha, .inr (0, [.ref wa, .int us, .int ob])), (wa, .inl (cI, n, .inl f)), (hz, .inr (0, [.ref wz, .int us2, .int ob2])), (wz, .inl (cI, n, .inl f2)), (ao, .inl (cJ, 1, .inr (.inl out))), (mx, .inr (2, [.int th, .int (nI n), .int mus, .int mcol, .int mmov, .ref aso, .ref ava, .ref ans, .ref anv, .ref ars, .ref arv, .int sty, .ref ast, .ref ago])), (aso, .inl (cI, 2100, .inl so)), (ava, .inl (cI, 2100, .inl va)), (ans, .inl (cI, 2100, .inl ns)), (anv, .inl (cI, 2100, .inl nv)), (ars, .inl (cI, 8, .inl rs)), (arv, .inl (cI, 8, .inl rv)), (ast, .inl (cI, 2100, .inl st)), (ago, .inl (cI, 2100, .inl go))] H := hP
  have hD : va_D A [(cx, .inr (1, [.ref ar, .ref ha, .ref hz, .int col, .int mov])), (ar, .inl (cI, 8, .inl rg)), (ha, .inr (0, [.ref wa, .int us, .int ob])), (wa, .inl (cI, n, .inl f)), (hz, .inr (0, [.ref wz, .int us2, .int ob2])), (wz, .inl (cI, n, .inl f2)), (ao, .inl (cJ, 1, .inr (.inl out))), (mx, .inr (2, [.int th, .int (nI n), .int mus, .int mcol, .int mmov, .ref aso, .ref ava, .ref ans, .ref anv, .ref ars, .ref arv, .int sty, .ref ast, .ref ago])), (aso, .inl (cI, 2100, .inl so)), (ava, .inl (cI, 2100, .inl va)), (ans, .inl (cI, 2100, .inl ns)), (anv, .inl (cI, 2100, .inl nv)), (ars, .inl (cI, 8, .inl rs)), (arv, .inl (cI, 8, .inl rv)), (ast, .inl (cI, 2100, .inl st)), (ago, .inl (cI, 2100, .inl go))] := hD
  refine lv_iload hx hb dL_law_33 (lv_at hl 4 rfl) ?_
  refine lv_aload_n hx hb dL_law_35 rfl (lv_at hl 0 rfl) ?_
  refine va_slen hx hb hsc hbl hbA hS dL_law_36 ?_
  refine lv_iconst (v := 4) hx hb dL_law_37 (by decide) ?_
  refine lv_isub hx hb dL_law_38 ?_
  refine lv_icmp_gt (tgt := 765) hx hb dL_law_39 (by decide) (fun c1 => ?_) (fun c1 => ?_)
  · refine lv_iconst (v := 1) hx hb dL_law_765 (by decide) ?_
    refine va_forget (fun q hq => hAz _ (hS.2.2 q hq)) ?_
    refine W.widen (k := 601024) (n := 7293000) (by omega) (by omega) ?_
    exact lw_ret hx hb hr hlocks dL_law_766
  · have hj : 1 + 4 * j + 3 < L := by
      have c2 : ¬ (nI L - nI 4 < nI (1 + 4 * j)) := c1
      rw [Int32.lt_iff_toInt_lt, pk_sub_toInt (by omega) (by decide), nI_toInt (by omega)] at c2
      omega
    have hN : NX p l e s m below meth c b dC dI cI cJ A n cx ar mx ao aso ava ans anv ars arv ast ago j (kc + 5) (ks + 30) := by
      intro ha wa hz wz X M out H locs ls hT hP hD hS hl
      refine lv_iinc (v := nI (1 + 4 * (j + 1))) (lv' := [(4, .int (nI (1 + 4 * (j + 1)))), (0, .ref b), (1, .ref cx), (2, .ref mx), (3, .ref ao)]) hx hb dL_law_759 hl (k := 4) rfl (by show nI (1 + 4 * j) + nI 4 = _; rw [nI_add]; congr 1) (by decide) rfl (fun ls hl => ?_)
      refine lv_goto (tgt := 33) hx hb dL_law_762 (by decide) ?_
      exact hnext hj ha wa hz wz X M out H locs ls hT hP hD hS (lv_sub hl [1, 2, 3, 4, 0] rfl)
    refine lv_aload_n hx hb dL_law_42 rfl (lv_at hl 0 rfl) ?_
    refine lv_iload hx hb dL_law_43 (lv_at hl 4 rfl) ?_
    refine va_sld hx hb hsc hbl hbA hS (vp_in_nI (by omega) (by omega)) dL_law_45 ?_
    generalize xs (nI (1 + 4 * j)).toNatClampNeg = a0
    refine lv_bipush (v := 15) hx hb dL_law_46 (by decide) ?_
    refine lv_iand hx hb dL_law_48 ?_
    by_cases s0 : a0 &&& 15 = 0
    · refine lv_tableIn (tgt := 104) hx hb dL_law_49 (by rw [s0]; decide) (by rw [s0]; decide) (by rw [s0]; rfl) (by decide) ?_
      exact lc_make hx hb hml hown ht hE hX hC9 hl9 hK hA hsc hbl hbA hn hL hj hkc hks hN hT hP hD hS hl
    · skip
      by_cases s1 : a0 &&& 15 = 1
      · refine lv_tableIn (tgt := 184) hx hb dL_law_49 (by rw [s1]; decide) (by rw [s1]; decide) (by rw [s1]; rfl) (by decide) ?_
        exact lc_number hx hb hml hown ht hE hX hC9 hl9 hK hA hsc hbl hbA hn hL hj hkc hks hN hT hP hD hS hl
      · skip
        by_cases s2 : a0 &&& 15 = 2
        · refine lv_tableIn (tgt := 252) hx hb dL_law_49 (by rw [s2]; decide) (by rw [s2]; decide) (by rw [s2]; rfl) (by decide) ?_
          exact lc_copy hx hb hml hown ht hE hX hC9 hl9 hK hA hsc hbl hbA hn hL hj hkc hks hN hT hP hD hS hl
        · skip
          by_cases s3 : a0 &&& 15 = 3
          · refine lv_tableIn (tgt := 327) hx hb dL_law_49 (by rw [s3]; decide) (by rw [s3]; decide) (by rw [s3]; rfl) (by decide) ?_
            exact lc_put hx hb hml hown ht hE hX hC9 hl9 hK hA hsc hbl hbA hn hL hj hkc hks hN hT hP hD hS hl
          · skip
            by_cases s4 : a0 &&& 15 = 4
            · refine lv_tableIn (tgt := 387) hx hb dL_law_49 (by rw [s4]; decide) (by rw [s4]; decide) (by rw [s4]; rfl) (by decide) ?_
              exact lc_raw hx hb hml hown ht hE hX hC9 hl9 hK hA hsc hbl hbA hn hL hj hkc hks hN hT hP hD hS hl
            · skip
              by_cases s5 : a0 &&& 15 = 5
              · refine lv_tableIn (tgt := 467) hx hb dL_law_49 (by rw [s5]; decide) (by rw [s5]; decide) (by rw [s5]; rfl) (by decide) ?_
                exact lc_get hx hb hml hown ht hE hX hC9 hl9 hK hA hsc hbl hbA hn hL hj hkc hks hN hT hP hD hS hl
              · skip
                by_cases s6 : a0 &&& 15 = 6
                · refine lv_tableIn (tgt := 554) hx hb dL_law_49 (by rw [s6]; decide) (by rw [s6]; decide) (by rw [s6]; rfl) (by decide) ?_
                  exact lc_collect hx hb hml hown ht hE hX hC9 hl9 hK hA hsc hbl hbA hn hL hj hkc hks hN hT hP hD hS hl
                · skip
                  by_cases s7 : a0 &&& 15 = 7
                  · refine lv_tableIn (tgt := 567) hx hb dL_law_49 (by rw [s7]; decide) (by rw [s7]; decide) (by rw [s7]; rfl) (by decide) ?_
                    exact lc_about hx hb hml hown ht hE hX hC9 hl9 hK hA hsc hbl hbA hn hL hj hkc hks hN hT hP hD hS hl
                  · skip
                    by_cases s8 : a0 &&& 15 = 8
                    · refine lv_tableIn (tgt := 635) hx hb dL_law_49 (by rw [s8]; decide) (by rw [s8]; decide) (by rw [s8]; rfl) (by decide) ?_
                      exact lc_look hx hb hml hown ht hE hX hC9 hl9 hK hA hsc hbl hbA hn hL hj hkc hks hN hT hP hD hS hl
                    · skip
                      by_cases s9 : a0 &&& 15 = 9
                      · refine lv_tableIn (tgt := 703) hx hb dL_law_49 (by rw [s9]; decide) (by rw [s9]; decide) (by rw [s9]; rfl) (by decide) ?_
                        exact lc_count hx hb hml hown ht hE hX hC9 hl9 hK hA hsc hbl hbA hn hL hj hkc hks hN hT hP hD hS hl
                      · skip
                        refine lv_tableOut (tgt := 759) hx hb dL_law_49 (sw_out10 s0 s1 s2 s3 s4 s5 s6 s7 s8 s9) (by decide) ?_
                        refine W.widen (k := kc + 5) (n := ks + 30) (by omega) (by omega) ?_
                        exact hN ha wa hz wz _ _ out _ _ ls hT hP hD hS hl
theorem lw_loop {p : Program} {l : Launch} {e : Env} {s : State} {m : MethodId} {below : List Frame} {meth : Method} {c : Code} {b : Nat} {dC : Nat → ClassId} {dI : Nat → Nat → Nat} {cI cJ : ClassId} {A : Nat → Prop} {n : Nat} {cx ar mx ao aso ava ans anv ars arv ast ago : Nat} {sa : Nat → Nat} {L : Nat} {xs : Nat → Int32} (hx : p.tables.exec = Jvm.exec) (hb : c.code = cL_law) (hml : c.maxLocals = 7) (hown : s.vm.findClass RL = some m.cls) (ht : ∀ w ∈ gT, w.before #[Value.ref b] s = true) (hE : eN s) (hX : eX sa A s s.heap) (hC9 : eC s) (hl9 : l.stackTraces = false) (hK : va_K (dC, dI) vwCl [(cI, .int), (cJ, .long)] s) (hA : ∀ q : Nat, s.heap.size ≤ q → A q) (hsc : va_X b L xs s s.heap) (hbl : b < s.heap.size) (hbA : ¬ A b) (hn : n < 2 ^ 31) (hL : L ≤ 2049) (hr : meth.sig.returnType = ret) (hlocks : meth.locks = false) (hAz : ∀ q : Nat, A q → s.heap.size ≤ q) : ∀ (d j : Nat), j + d = 513 → NY p l e s m below meth c b dC dI cI cJ A n cx ar mx ao aso ava ans anv ars arv ast ago j (20 + 5 * j) (17000 + 30 * j) := by
  intro d
  induction d with
  | zero =>
    intro j hj
    exact lw_step hx hb hml hown ht hE hX hC9 hl9 hK hA hsc hbl hbA hn hL hr hlocks hAz (by omega) (by omega) (by omega) (fun h => absurd h (by omega))
  | succ d ih =>
    intro j hj
    refine lw_step hx hb hml hown ht hE hX hC9 hl9 hK hA hsc hbl hbA hn hL hr hlocks hAz (by omega) (by omega) (by omega) (fun _ => ?_)
    have q := ih (j + 1) (by omega)
    rw [show 20 + 5 * (j + 1) = 20 + 5 * j + 5 by omega, show 17000 + 30 * (j + 1) = 17000 + 30 * j + 30 by omega] at q
    exact q
