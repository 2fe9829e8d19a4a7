theorem goS {go : Nat → Int32} {j : Nat} (h : ∀ k, k < j → go k = -1) : ∀ k, k < j + 1 → upd go j (-1) k = -1 := by
  intro k hk
  by_cases e : k = j
  · rw [e, pk_us]
  · rw [pk_un e]; exact h k (by omega)
theorem kR0 {u : Nat} {fo st go : Nat → Int32} (h : ∀ k, k < u → go k = -1) : kR u fo [] 0 st go := ⟨rfl, fun i hi => absurd hi (Nat.not_lt_zero i), fun k hk => by rw [if_neg List.not_mem_nil]; exact h k hk⟩
theorem mfI {va fo : Nat → Int32} {p : Nat} (hp : p < 2 ^ 31) (h : ¬ fo p < 0) (e : va p = fo p) : fX2_fieldsAt va (nI p) = nI (oF fo p) := by
  unfold fX2_fieldsAt
  obtain ⟨q1, q2, q3⟩ := headW h
  rw [nI_clamp hp, e, q1, shr1 (by omega)]; congr 1; omega
theorem scnH {u n : Nat} {f so : Nat → Int32} {L A : List Nat} {i : Nat} (hC : CL u n f so L) (hi : i < L.length) (h : scnL f so (u + 1 - tot f (L.take i)) L (tot f (L.take i)) = A) : scnL f so (u + 1 - (tot f (L.take i) + 1)) L (tot f (L.take i) + 1) = A := by
  have hb := hC.bd
  have h1 := (take_tot (f := f) hC.2.1 hi).2.2
  have h2 := take_le (f := f) L (i + 1)
  have h3 := lcp_take (f := f) hC.2.1 hi (k := 0) (Nat.zero_le _)
  rw [Nat.add_zero] at h3
  have h4 : stpL f so L (tot f (L.take i)) = L := by unfold stpL; rw [h3]; exact if_neg (fun q => q.1 rfl)
  rw [show u + 1 - tot f (L.take i) = (u + 1 - (tot f (L.take i) + 1)) + 1 by omega, scn_s (by omega), h4] at h
  exact h
theorem scnF {u n : Nat} {f so : Nat → Int32} {L A : List Nat} {i k : Nat} (hC : CL u n f so L) (hi : i < L.length) (hk1 : 1 ≤ k) (hk : k ≤ oF f (L.getD i 0)) (h : scnL f so (u + 1 - (tot f (L.take i) + k)) L (tot f (L.take i) + k) = A) :
    scnL f so (u + 1 - (tot f (L.take i) + (k + 1))) (if so (L.getD i 0 + k) = 2 then kpL L (plc (f (L.getD i 0 + k))) else L) (tot f (L.take i) + (k + 1)) = A := by
  have hb := hC.bd
  have h1 := (take_tot (f := f) hC.2.1 hi).2.2
  have h2 := take_le (f := f) L (i + 1)
  have h3 := lcp_take (f := f) hC.2.1 hi hk
  have h4 : stpL f so L (tot f (L.take i) + k) = if so (L.getD i 0 + k) = 2 then kpL L (plc (f (L.getD i 0 + k))) else L := by
    unfold stpL; rw [h3]
    by_cases e : so (L.getD i 0 + k) = 2
    · rw [if_pos e]; exact if_pos ⟨by omega, e⟩
    · rw [if_neg e]; exact if_neg (fun q => e q.2)
  rw [show u + 1 - (tot f (L.take i) + k) = (u + 1 - (tot f (L.take i) + (k + 1))) + 1 by omega, scn_s (by omega), h4] at h
  exact h
theorem nvS {fo so va ns nv : Nat → Int32} {L : List Nat} {m : Nat} {x y : Int32} (h : ∀ j, j < m → ns j = so (srcA fo L j) ∧ nv j = mvV fo so va L j) (e1 : x = so (srcA fo L m)) (e2 : y = mvV fo so va L m) : ∀ j, j < m + 1 → upd ns m x j = so (srcA fo L j) ∧ upd nv m y j = mvV fo so va L j := by
  intro j hj
  by_cases e : j = m
  · rw [e, pk_us, pk_us]; exact ⟨e1, e2⟩
  · rw [pk_un e, pk_un e]; exact h j (by omega)
theorem cbS {so1 va1 ns nv : Nat → Int32} {k : Nat} (h : ∀ j, j < k → so1 j = ns j ∧ va1 j = nv j) : ∀ j, j < k + 1 → upd so1 k (ns k) j = ns j ∧ upd va1 k (nv k) j = nv j := by
  intro j hj
  by_cases e : j = k
  · rw [e, pk_us, pk_us]; exact ⟨rfl, rfl⟩
  · rw [pk_un e, pk_un e]; exact h j (by omega)
theorem rvS {rs rv rg rv1 fo : Nat → Int32} {A : List Nat} {r : Nat} {x : Int32} (h1 : ∀ k, k < r → rv1 k = if rs k = 2 then nI (tgt fo A (plc (rg k))) else rv k) (e : x = if rs r = 2 then nI (tgt fo A (plc (rg r))) else rv r) : ∀ k, k < r + 1 → upd rv1 r x k = if rs k = 2 then nI (tgt fo A (plc (rg k))) else rv k := by
  intro k hk
  by_cases ek : k = r
  · rw [ek, pk_us]; exact e
  · rw [pk_un ek]; exact h1 k (by omega)
theorem rvN {rs rv rg rv1 fo : Nat → Int32} {A : List Nat} {r : Nat} (h1 : ∀ k, k < r → rv1 k = if rs k = 2 then nI (tgt fo A (plc (rg k))) else rv k) (h2 : ∀ k, r ≤ k → rv1 k = rv k) (e : ¬ rs r = 2) : ∀ k, k < r + 1 → rv1 k = if rs k = 2 then nI (tgt fo A (plc (rg k))) else rv k := by
  intro k hk
  by_cases ek : k = r
  · rw [ek, if_neg e]; exact h2 r (Nat.le_refl _)
  · exact h1 k (by omega)
theorem rvU {rv rv1 : Nat → Int32} {r : Nat} {x : Int32} (h2 : ∀ k, r ≤ k → rv1 k = rv k) : ∀ k, r + 1 ≤ k → upd rv1 r x k = rv k := fun k hk => by rw [pk_un (by omega)]; exact h2 k (by omega)
abbrev atX2_gather (dC : Nat → ClassId) (dI : Nat → Nat → Nat) (cI : ClassId) (A : Nat → Prop) (mx : Nat) (aso : Nat) (ava : Nat) (ans : Nat) (anv : Nat) (ars : Nat) (arv : Nat) (ast : Nat) (ago : Nat) (hf : Int32) (u : Int32 × Int32 × Int32 × Int32 × (Nat → Int32) × (Nat → Int32) × (Nat → Int32) × (Nat → Int32) × (Nat → Int32) × (Nat → Int32) × Int32 × (Nat → Int32) × (Nat → Int32)) (t : State) : Prop := va_P (dC, dI) vwCl [(mx, .inr (2, [.int u.1, .int hf, .int u.2.1, .int u.2.2.1, .int u.2.2.2.1, .ref aso, .ref ava, .ref ans, .ref anv, .ref ars, .ref arv, .int u.2.2.2.2.2.2.2.2.2.2.1, .ref ast, .ref ago])), (aso, .inl (cI, 2100, .inl u.2.2.2.2.1)), (ava, .inl (cI, 2100, .inl u.2.2.2.2.2.1)), (ans, .inl (cI, 2100, .inl u.2.2.2.2.2.2.1)), (anv, .inl (cI, 2100, .inl u.2.2.2.2.2.2.2.1)), (ars, .inl (cI, 8, .inl u.2.2.2.2.2.2.2.2.1)), (arv, .inl (cI, 8, .inl u.2.2.2.2.2.2.2.2.2.1)), (ast, .inl (cI, 2100, .inl u.2.2.2.2.2.2.2.2.2.2.2.1)), (ago, .inl (cI, 2100, .inl u.2.2.2.2.2.2.2.2.2.2.2.2))] t.heap ∧ va_K (dC, dI) vwCl [(cI, .int)] t ∧ va_D A [(mx, .inr (2, [.int u.1, .int hf, .int u.2.1, .int u.2.2.1, .int u.2.2.2.1, .ref aso, .ref ava, .ref ans, .ref anv, .ref ars, .ref arv, .int u.2.2.2.2.2.2.2.2.2.2.1, .ref ast, .ref ago])), (aso, .inl (cI, 2100, .inl u.2.2.2.2.1)), (ava, .inl (cI, 2100, .inl u.2.2.2.2.2.1)), (ans, .inl (cI, 2100, .inl u.2.2.2.2.2.2.1)), (anv, .inl (cI, 2100, .inl u.2.2.2.2.2.2.2.1)), (ars, .inl (cI, 8, .inl u.2.2.2.2.2.2.2.2.1)), (arv, .inl (cI, 8, .inl u.2.2.2.2.2.2.2.2.2.1)), (ast, .inl (cI, 2100, .inl u.2.2.2.2.2.2.2.2.2.2.2.1)), (ago, .inl (cI, 2100, .inl u.2.2.2.2.2.2.2.2.2.2.2.2))]
set_option maxHeartbeats 4000000 in
set_option maxRecDepth 100000 in
theorem ctX2_gather (l : Launch) (dC : Nat → ClassId) (dI : Nat → Nat → Nat) (cI : ClassId) (mx : Nat) (aso : Nat) (ava : Nat) (ans : Nat) (anv : Nat) (ars : Nat) (arv : Nat) (ast : Nat) (ago : Nat) (th : Int32) (hf : Int32) (us : Int32) (col : Int32) (mov : Int32) (sty : Int32) (so : Nat → Int32) (va : Nat → Int32) (ns : Nat → Int32) (nv : Nat → Int32) (rs : Nat → Int32) (rv : Nat → Int32) (st : Nat → Int32) (go : Nat → Int32) (uu : Nat) (n : Nat) (fo : Nat → Int32) (rg : Nat → Int32) (sz : Nat) (hwf : hWf uu n fo so) (hus : us = nI uu) (hrg : rgOK uu so rs rg) (hva : ∀ k, k < uu → (so k = 0 → va k = fo k) ∧ (so k = 2 → va k = nI (plc (fo k)))) (hrv : ∀ r, r < 8 → rs r = 2 → rv r = nI (plc (rg r))) : Met l yX2_gather (kX2_gather :: gT) ({ frames := 2, cells := 0, slots := 0, locals := 43 }) (va_Pc [.ref mx] (pM (dC, dI) [(mx, .inr (2, [.int th, .int hf, .int us, .int col, .int mov, .ref aso, .ref ava, .ref ans, .ref anv, .ref ars, .ref arv, .int sty, .ref ast, .ref ago])), (aso, .inl (cI, 2100, .inl so)), (ava, .inl (cI, 2100, .inl va)), (ans, .inl (cI, 2100, .inl ns)), (anv, .inl (cI, 2100, .inl nv)), (ars, .inl (cI, 8, .inl rs)), (arv, .inl (cI, 8, .inl rv)), (ast, .inl (cI, 2100, .inl st)), (ago, .inl (cI, 2100, .inl go))] [(cI, .int)] sz)) (va_Qi (fun (r : Int32) (u : Int32 × Int32 × Int32 × Int32 × (Nat → Int32) × (Nat → Int32) × (Nat → Int32) × (Nat → Int32) × (Nat → Int32) × (Nat → Int32) × Int32 × (Nat → Int32) × (Nat → Int32)) => r = nI (tot fo (allL uu fo so rs rg)) ∧ u.1 = th ∧ u.2.1 = nI (tot fo (allL uu fo so rs rg)) ∧ u.2.2.1 = col + 1 ∧ u.2.2.2.1 = mov + nI (tot fo (allL uu fo so rs rg)) ∧ (∀ k, k < tot fo (allL uu fo so rs rg) → u.2.2.2.2.1 k = so (srcA fo (allL uu fo so rs rg) k) ∧ u.2.2.2.2.2.1 k = mvV fo so va (allL uu fo so rs rg) k) ∧ u.2.2.2.2.2.2.2.2.1 = rs ∧ (∀ k, k < 8 → u.2.2.2.2.2.2.2.2.2.1 k = if rs k = 2 then nI (tgt fo (allL uu fo so rs rg) (plc (rg k))) else rv k)) (atX2_gather dC dI cI (va_A [(mx, .inr (2, [.int th, .int hf, .int us, .int col, .int mov, .ref aso, .ref ava, .ref ans, .ref anv, .ref ars, .ref arv, .int sty, .ref ast, .ref ago])), (aso, .inl (cI, 2100, .inl so)), (ava, .inl (cI, 2100, .inl va)), (ans, .inl (cI, 2100, .inl ns)), (anv, .inl (cI, 2100, .inl nv)), (ars, .inl (cI, 8, .inl rs)), (arv, .inl (cI, 8, .inl rv)), (ast, .inl (cI, 2100, .inl st)), (ago, .inl (cI, 2100, .inl go))] sz) mx aso ava ans anv ars arv ast ago hf) (va_A [(mx, .inr (2, [.int th, .int hf, .int us, .int col, .int mov, .ref aso, .ref ava, .ref ans, .ref anv, .ref ars, .ref arv, .int sty, .ref ast, .ref ago])), (aso, .inl (cI, 2100, .inl so)), (ava, .inl (cI, 2100, .inl va)), (ans, .inl (cI, 2100, .inl ns)), (anv, .inl (cI, 2100, .inl nv)), (ars, .inl (cI, 8, .inl rs)), (arv, .inl (cI, 8, .inl rv)), (ast, .inl (cI, 2100, .inl st)), (ago, .inl (cI, 2100, .inl go))] sz)) 0 0 (va_A [(mx, .inr (2, [.int th, .int hf, .int us, .int col, .int mov, .ref aso, .ref ava, .ref ans, .ref anv, .ref ars, .ref arv, .int sty, .ref ast, .ref ago])), (aso, .inl (cI, 2100, .inl so)), (ava, .inl (cI, 2100, .inl va)), (ans, .inl (cI, 2100, .inl ns)), (anv, .inl (cI, 2100, .inl nv)), (ars, .inl (cI, 8, .inl rs)), (arv, .inl (cI, 8, .inl rv)), (ast, .inl (cI, 2100, .inl st)), (ago, .inl (cI, 2100, .inl go))] sz) := by
  subst hus
  refine Met.ofW (cc := cX2_gather) (maxL := 6) (ret := (some .int)) (by decide) rfl ?_
  intro p e s m args below meth c s₁ B hml hv
  obtain ⟨rfl, hsz, hP, hK, hD0, hE⟩ := hv
  have hx := B.exec
  have hb := B.bytes
  have hr := B.returns
  have ht : ∀ w ∈ gT, w.before ([.ref mx] : List Value).toArray s = true := fun w h => atoms_spec (ws := kX2_gather :: gT) B.pre w (List.mem_cons_of_mem _ h)
  have hown : s.vm.findClass RX2 = some m.cls := findClass_of_methodNamed B.named
  have hlocks := B.notSynchronized
  subst hsz
  have hD := hD0.self (sz := s.heap.size)
  generalize hAe : va_A [(mx, .inr (2, [.int th, .int hf, .int (nI uu), .int col, .int mov, .ref aso, .ref ava, .ref ans, .ref anv, .ref ars, .ref arv, .int sty, .ref ast, .ref ago])), (aso, .inl (cI, 2100, .inl so)), (ava, .inl (cI, 2100, .inl va)), (ans, .inl (cI, 2100, .inl ns)), (anv, .inl (cI, 2100, .inl nv)), (ars, .inl (cI, 8, .inl rs)), (arv, .inl (cI, 8, .inl rv)), (ast, .inl (cI, 2100, .inl st)), (ago, .inl (cI, 2100, .inl go))] s.heap.size = A at hD ⊢
  have hA : ∀ q : Nat, s.heap.size ≤ q → A q := fun q h => by rw [← hAe]; exact Or.inr h
  have hS : va_S A s.heap s.heap [] := va_S.rf
  have hl := lv_entry ([.ref mx]) (n := 6) (Nat.le_of_ble_eq_true rfl)
  rw [lg_entry_eq]
  generalize (lg_sl ([.ref mx]) ++ List.replicate (6 - (lg_sl ([.ref mx])).length) Slot.unset).toArray = ls at hl ⊢
  have hl : lv_has ls 6 [(0, .ref mx)] := hl
  refine lv_aload_n hx hb dX2_gather_0 rfl (lv_at hl 0 rfl) ?_
  refine lv_iconst (v := 0) hx hb dX2_gather_1 (by decide) ?_
  refine va_put (D := (dC, dI)) (ci := 2) (v := .int 0) (ty := .int) (C := RX2) (T := TX2) (N := 14) hx hb ht iX2 tyX2 tkX2 nmX2 hown hK hP hD hS 0 rfl rfl 11 (by decide) (ht _ g_337) (fun _ h9 => h9) rfl (by decide +kernel) rfl rfl (Nat.le_of_ble_eq_true rfl) dX2_gather_2 (fun H locs hP hD hS => ?_)
  have hP : va_P (dC, dI) vwCl [(mx, .inr (2, [.int th, .int hf, .int (nI uu), .int col, .int mov, .ref aso, .ref ava, .ref ans, .ref anv, .ref ars, .ref arv, .int 0, .ref ast, .ref ago])), (aso, .inl (cI, 2100, .inl so)), (ava, .inl (cI, 2100, .inl va)), (ans, .inl (cI, 2100, .inl ns)), (anv, .inl (cI, 2100, .inl nv)), (ars, .inl (cI, 8, .inl rs)), (arv, .inl (cI, 8, .inl rv)), (ast, .inl (cI, 2100, .inl st)), (ago, .inl (cI, 2100, .inl go))] H := hP
  have hD : va_D A [(mx, .inr (2, [.int th, .int hf, .int (nI uu), .int col, .int mov, .ref aso, .ref ava, .ref ans, .ref anv, .ref ars, .ref arv, .int 0, .ref ast, .ref ago])), (aso, .inl (cI, 2100, .inl so)), (ava, .inl (cI, 2100, .inl va)), (ans, .inl (cI, 2100, .inl ns)), (anv, .inl (cI, 2100, .inl nv)), (ars, .inl (cI, 8, .inl rs)), (arv, .inl (cI, 8, .inl rv)), (ast, .inl (cI, 2100, .inl st)), (ago, .inl (cI, 2100, .inl go))] := hD
  refine lv_iconst (v := 0) hx hb dX2_gather_5 (by decide) ?_
  refine lv_istore_n (lv' := [(1, .int 0), (0, .ref mx)]) hx hb dX2_gather_6 rfl hl (by decide) rfl (fun ls hl => ?_)
  have hb1 := hwf.1
  have hb2 := hwf.2.1
  have hv0 : ∀ k, k < uu → so k = 0 → va k = fo k := fun k hk e => (hva k hk).1 e
  have hlA : ∀ (d : Nat) (j : Nat) (go1 : Nat → Int32), (hd : j + d = uu) → (hgo : ∀ k, k < j → go1 k = -1) → ∀ (H : Heap) (locs : List Loc) (ls : Array Slot), va_P (dC, dI) vwCl [(mx, .inr (2, [.int th, .int hf, .int (nI uu), .int col, .int mov, .ref aso, .ref ava, .ref ans, .ref anv, .ref ars, .ref arv, .int 0, .ref ast, .ref ago])), (aso, .inl (cI, 2100, .inl so)), (ava, .inl (cI, 2100, .inl va)), (ans, .inl (cI, 2100, .inl ns)), (anv, .inl (cI, 2100, .inl nv)), (ars, .inl (cI, 8, .inl rs)), (arv, .inl (cI, 8, .inl rv)), (ast, .inl (cI, 2100, .inl st)), (ago, .inl (cI, 2100, .inl go1))] H → va_D A [(mx, .inr (2, [.int th, .int hf, .int (nI uu), .int col, .int mov, .ref aso, .ref ava, .ref ans, .ref anv, .ref ars, .ref arv, .int 0, .ref ast, .ref ago])), (aso, .inl (cI, 2100, .inl so)), (ava, .inl (cI, 2100, .inl va)), (ans, .inl (cI, 2100, .inl ns)), (anv, .inl (cI, 2100, .inl nv)), (ars, .inl (cI, 8, .inl rs)), (arv, .inl (cI, 8, .inl rv)), (ast, .inl (cI, 2100, .inl st)), (ago, .inl (cI, 2100, .inl go1))] → va_S A s.heap H locs → lv_has ls 6 [(0, .ref mx), (1, .int (nI j))] → W p l e (headSpec (kX2_gather :: gT) ({ frames := 2, cells := 0, slots := 0, locals := 43 })).room s m ([.ref mx] : List Value).toArray below meth c H locs 0 0 (MQ below (va_Qi (fun (r : Int32) (u : Int32 × Int32 × Int32 × Int32 × (Nat → Int32) × (Nat → Int32) × (Nat → Int32) × (Nat → Int32) × (Nat → Int32) × (Nat → Int32) × Int32 × (Nat → Int32) × (Nat → Int32)) => r = nI (tot fo (allL uu fo so rs rg)) ∧ u.1 = th ∧ u.2.1 = nI (tot fo (allL uu fo so rs rg)) ∧ u.2.2.1 = col + 1 ∧ u.2.2.2.1 = mov + nI (tot fo (allL uu fo so rs rg)) ∧ (∀ k, k < tot fo (allL uu fo so rs rg) → u.2.2.2.2.1 k = so (srcA fo (allL uu fo so rs rg) k) ∧ u.2.2.2.2.2.1 k = mvV fo so va (allL uu fo so rs rg) k) ∧ u.2.2.2.2.2.2.2.2.1 = rs ∧ (∀ k, k < 8 → u.2.2.2.2.2.2.2.2.2.1 k = if rs k = 2 then nI (tgt fo (allL uu fo so rs rg) (plc (rg k))) else rv k)) (atX2_gather dC dI cI A mx aso ava ans anv ars arv ast ago hf) A) ([.ref mx] : List Value).toArray s 0 0 A) (F0 m 7 ls []) := by
    intro d
    induction d with
    | zero =>
      intro j go1 hd hgo H locs ls hP hD hS hl
      refine lv_iload_n hx hb dX2_gather_7 rfl (lv_at hl 1 rfl) ?_
      refine lv_aload_n hx hb dX2_gather_8 rfl (lv_at hl 0 rfl) ?_
      refine va_get (D := (dC, dI)) (ci := 2) (v := .int (nI uu)) (C := RX2) (T := TX2) (N := 14) hx hb ht iX2 hown hK hP 0 rfl rfl 2 (by decide) (ht _ g_328) (fun _ h9 => h9) rfl dX2_gather_9 ?_
      refine lv_icmp_ge (tgt := 28) hx hb dX2_gather_12 (by decide) (fun _ => ?_) (fun h => absurd (nI_le (by omega) (by omega)) h)
      refine lv_iconst (v := 0) hx hb dX2_gather_28 (by decide) ?_
      refine lv_istore_n (lv' := [(1, .int 0), (0, .ref mx)]) hx hb dX2_gather_29 rfl hl (by decide) rfl (fun ls hl => ?_)
      have hju : j = uu := by omega
      have hgu : ∀ k, k < uu → go1 k = -1 := fun k hk => hgo k (by omega)
      have hlB : ∀ (d : Nat) (r : Nat) (sty1 : Int32) (st1 : Nat → Int32) (go1 : Nat → Int32), (hd : r + d = 8) → (hk : kR uu fo (regL rs rg r) sty1 st1 go1) → ∀ (H : Heap) (locs : List Loc) (ls : Array Slot), va_P (dC, dI) vwCl [(mx, .inr (2, [.int th, .int hf, .int (nI uu), .int col, .int mov, .ref aso, .ref ava, .ref ans, .ref anv, .ref ars, .ref arv, .int sty1, .ref ast, .ref ago])), (aso, .inl (cI, 2100, .inl so)), (ava, .inl (cI, 2100, .inl va)), (ans, .inl (cI, 2100, .inl ns)), (anv, .inl (cI, 2100, .inl nv)), (ars, .inl (cI, 8, .inl rs)), (arv, .inl (cI, 8, .inl rv)), (ast, .inl (cI, 2100, .inl st1)), (ago, .inl (cI, 2100, .inl go1))] H → va_D A [(mx, .inr (2, [.int th, .int hf, .int (nI uu), .int col, .int mov, .ref aso, .ref ava, .ref ans, .ref anv, .ref ars, .ref arv, .int sty1, .ref ast, .ref ago])), (aso, .inl (cI, 2100, .inl so)), (ava, .inl (cI, 2100, .inl va)), (ans, .inl (cI, 2100, .inl ns)), (anv, .inl (cI, 2100, .inl nv)), (ars, .inl (cI, 8, .inl rs)), (arv, .inl (cI, 8, .inl rv)), (ast, .inl (cI, 2100, .inl st1)), (ago, .inl (cI, 2100, .inl go1))] → va_S A s.heap H locs → lv_has ls 6 [(0, .ref mx), (1, .int (nI r))] → W p l e (headSpec (kX2_gather :: gT) ({ frames := 2, cells := 0, slots := 0, locals := 43 })).room s m ([.ref mx] : List Value).toArray below meth c H locs 0 0 (MQ below (va_Qi (fun (r : Int32) (u : Int32 × Int32 × Int32 × Int32 × (Nat → Int32) × (Nat → Int32) × (Nat → Int32) × (Nat → Int32) × (Nat → Int32) × (Nat → Int32) × Int32 × (Nat → Int32) × (Nat → Int32)) => r = nI (tot fo (allL uu fo so rs rg)) ∧ u.1 = th ∧ u.2.1 = nI (tot fo (allL uu fo so rs rg)) ∧ u.2.2.1 = col + 1 ∧ u.2.2.2.1 = mov + nI (tot fo (allL uu fo so rs rg)) ∧ (∀ k, k < tot fo (allL uu fo so rs rg) → u.2.2.2.2.1 k = so (srcA fo (allL uu fo so rs rg) k) ∧ u.2.2.2.2.2.1 k = mvV fo so va (allL uu fo so rs rg) k) ∧ u.2.2.2.2.2.2.2.2.1 = rs ∧ (∀ k, k < 8 → u.2.2.2.2.2.2.2.2.2.1 k = if rs k = 2 then nI (tgt fo (allL uu fo so rs rg) (plc (rg k))) else rv k)) (atX2_gather dC dI cI A mx aso ava ans anv ars arv ast ago hf) A) ([.ref mx] : List Value).toArray s 0 0 A) (F0 m 30 ls []) := by
        intro d
        induction d with
        | zero =>
          intro r sty1 st1 go1 hd hk H locs ls hP hD hS hl
          have hr8 : r = 8 := by omega
          subst hr8
          refine lv_iload_n hx hb dX2_gather_30 rfl (lv_at hl 1 rfl) ?_
          refine lv_bipush (v := 8) hx hb dX2_gather_31 (by decide) ?_
          refine lv_icmp_ge (tgt := 62) hx hb dX2_gather_33 (by decide) (fun _ => ?_) (fun h => absurd (by decide) h)
          refine lv_iconst (v := 0) hx hb dX2_gather_62 (by decide) ?_
          refine lv_istore_n (lv' := [(1, .int 0), (0, .ref mx)]) hx hb dX2_gather_63 rfl hl (by decide) rfl (fun ls hl => ?_)
          have hC8 := regCL hwf hrg 8 (Nat.le_refl _)
          have hlC : ∀ (d : Nat) (i : Nat) (L : List Nat) (sty2 : Int32) (st2 : Nat → Int32) (go2 : Nat → Int32), (hd : i + d = uu + 1) → (hC : CL uu n fo so L) → (hil : i ≤ L.length) → (hk2 : kR uu fo L sty2 st2 go2) → (hsc : scnL fo so (uu + 1 - tot fo (L.take i)) L (tot fo (L.take i)) = (allL uu fo so rs rg)) → ∀ (H : Heap) (locs : List Loc) (ls : Array Slot), va_P (dC, dI) vwCl [(mx, .inr (2, [.int th, .int hf, .int (nI uu), .int col, .int mov, .ref aso, .ref ava, .ref ans, .ref anv, .ref ars, .ref arv, .int sty2, .ref ast, .ref ago])), (aso, .inl (cI, 2100, .inl so)), (ava, .inl (cI, 2100, .inl va)), (ans, .inl (cI, 2100, .inl ns)), (anv, .inl (cI, 2100, .inl nv)), (ars, .inl (cI, 8, .inl rs)), (arv, .inl (cI, 8, .inl rv)), (ast, .inl (cI, 2100, .inl st2)), (ago, .inl (cI, 2100, .inl go2))] H → va_D A [(mx, .inr (2, [.int th, .int hf, .int (nI uu), .int col, .int mov, .ref aso, .ref ava, .ref ans, .ref anv, .ref ars, .ref arv, .int sty2, .ref ast, .ref ago])), (aso, .inl (cI, 2100, .inl so)), (ava, .inl (cI, 2100, .inl va)), (ans, .inl (cI, 2100, .inl ns)), (anv, .inl (cI, 2100, .inl nv)), (ars, .inl (cI, 8, .inl rs)), (arv, .inl (cI, 8, .inl rv)), (ast, .inl (cI, 2100, .inl st2)), (ago, .inl (cI, 2100, .inl go2))] → va_S A s.heap H locs → lv_has ls 6 [(0, .ref mx), (1, .int (nI i))] → W p l e (headSpec (kX2_gather :: gT) ({ frames := 2, cells := 0, slots := 0, locals := 43 })).room s m ([.ref mx] : List Value).toArray below meth c H locs 0 0 (MQ below (va_Qi (fun (r : Int32) (u : Int32 × Int32 × Int32 × Int32 × (Nat → Int32) × (Nat → Int32) × (Nat → Int32) × (Nat → Int32) × (Nat → Int32) × (Nat → Int32) × Int32 × (Nat → Int32) × (Nat → Int32)) => r = nI (tot fo (allL uu fo so rs rg)) ∧ u.1 = th ∧ u.2.1 = nI (tot fo (allL uu fo so rs rg)) ∧ u.2.2.1 = col + 1 ∧ u.2.2.2.1 = mov + nI (tot fo (allL uu fo so rs rg)) ∧ (∀ k, k < tot fo (allL uu fo so rs rg) → u.2.2.2.2.1 k = so (srcA fo (allL uu fo so rs rg) k) ∧ u.2.2.2.2.2.1 k = mvV fo so va (allL uu fo so rs rg) k) ∧ u.2.2.2.2.2.2.2.2.1 = rs ∧ (∀ k, k < 8 → u.2.2.2.2.2.2.2.2.2.1 k = if rs k = 2 then nI (tgt fo (allL uu fo so rs rg) (plc (rg k))) else rv k)) (atX2_gather dC dI cI A mx aso ava ans anv ars arv ast ago hf) A) ([.ref mx] : List Value).toArray s 0 0 A) (F0 m 64 ls []) := by
            intro d
            induction d with
            | zero =>
              intro i L sty2 st2 go2 hd hC hil hk2 hsc H locs ls hP hD hS hl
              have hb9 := hC.bd
              have hl9 := lenTot fo L
              exfalso
              omega
            | succ d ihC =>
              intro i L sty2 st2 go2 hd hC hil hk2 hsc H locs ls hP hD hS hl
              have hb9 := hC.bd
              have hl9 := lenTot fo L
              have hs9 := hk2.1
              subst hs9
              have er : (nI i).toNatClampNeg = i := nI_clamp (by omega)
              refine lv_iload_n hx hb dX2_gather_64 rfl (lv_at hl 1 rfl) ?_
              refine lv_aload_n hx hb dX2_gather_65 rfl (lv_at hl 0 rfl) ?_
              refine va_get (D := (dC, dI)) (ci := 2) (v := .int (nI L.length)) (C := RX2) (T := TX2) (N := 14) hx hb ht iX2 hown hK hP 0 rfl rfl 11 (by decide) (ht _ g_337) (fun _ h9 => h9) rfl dX2_gather_66 ?_
              refine lv_icmp_ge (tgt := 126) hx hb dX2_gather_69 (by decide) (fun c_1 => ?_) (fun c_1 => ?_)
              · have hi8 : L.length ≤ i := (nI_leI (by omega) (by omega)).mp c_1
                have e9 : L.take i = L := List.take_of_length_le hi8
                rw [e9] at hsc
                have hLA : L = (allL uu fo so rs rg) := by rw [← hsc]; exact (scn_e (by omega)).symm
                subst hLA
                obtain ⟨hCA, hcA⟩ := allCL hwf hrg
                refine lv_iconst (v := 0) hx hb dX2_gather_126 (by decide) ?_
                refine lv_istore_n (lv' := [(1, .int 0), (0, .ref mx)]) hx hb dX2_gather_127 rfl hl (by decide) rfl (fun ls hl => ?_)
                refine lv_iconst (v := 0) hx hb dX2_gather_128 (by decide) ?_
                refine lv_istore_n (lv' := [(2, .int 0), (1, .int 0), (0, .ref mx)]) hx hb dX2_gather_129 rfl hl (by decide) rfl (fun ls hl => ?_)
                have hlE : ∀ (d : Nat) (a9 : Nat) (ns1 : Nat → Int32) (nv1 : Nat → Int32), (hd3 : a9 + d = (allL uu fo so rs rg).length) → (hnv : ∀ k, k < tot fo (List.take a9 (allL uu fo so rs rg)) → ns1 k = so (srcA fo (allL uu fo so rs rg) k) ∧ nv1 k = mvV fo so va (allL uu fo so rs rg) k) → ∀ (H : Heap) (locs : List Loc) (ls : Array Slot), va_P (dC, dI) vwCl [(mx, .inr (2, [.int th, .int hf, .int (nI uu), .int col, .int mov, .ref aso, .ref ava, .ref ans, .ref anv, .ref ars, .ref arv, .int (nI (allL uu fo so rs rg).length), .ref ast, .ref ago])), (aso, .inl (cI, 2100, .inl so)), (ava, .inl (cI, 2100, .inl va)), (ans, .inl (cI, 2100, .inl ns1)), (anv, .inl (cI, 2100, .inl nv1)), (ars, .inl (cI, 8, .inl rs)), (arv, .inl (cI, 8, .inl rv)), (ast, .inl (cI, 2100, .inl st2)), (ago, .inl (cI, 2100, .inl go2))] H → va_D A [(mx, .inr (2, [.int th, .int hf, .int (nI uu), .int col, .int mov, .ref aso, .ref ava, .ref ans, .ref anv, .ref ars, .ref arv, .int (nI (allL uu fo so rs rg).length), .ref ast, .ref ago])), (aso, .inl (cI, 2100, .inl so)), (ava, .inl (cI, 2100, .inl va)), (ans, .inl (cI, 2100, .inl ns1)), (anv, .inl (cI, 2100, .inl nv1)), (ars, .inl (cI, 8, .inl rs)), (arv, .inl (cI, 8, .inl rv)), (ast, .inl (cI, 2100, .inl st2)), (ago, .inl (cI, 2100, .inl go2))] → va_S A s.heap H locs → lv_has ls 6 [(0, .ref mx), (1, .int (nI (tot fo (List.take a9 (allL uu fo so rs rg))))), (2, .int (nI a9))] → W p l e (headSpec (kX2_gather :: gT) ({ frames := 2, cells := 0, slots := 0, locals := 43 })).room s m ([.ref mx] : List Value).toArray below meth c H locs 0 0 (MQ below (va_Qi (fun (r : Int32) (u : Int32 × Int32 × Int32 × Int32 × (Nat → Int32) × (Nat → Int32) × (Nat → Int32) × (Nat → Int32) × (Nat → Int32) × (Nat → Int32) × Int32 × (Nat → Int32) × (Nat → Int32)) => r = nI (tot fo (allL uu fo so rs rg)) ∧ u.1 = th ∧ u.2.1 = nI (tot fo (allL uu fo so rs rg)) ∧ u.2.2.1 = col + 1 ∧ u.2.2.2.1 = mov + nI (tot fo (allL uu fo so rs rg)) ∧ (∀ k, k < tot fo (allL uu fo so rs rg) → u.2.2.2.2.1 k = so (srcA fo (allL uu fo so rs rg) k) ∧ u.2.2.2.2.2.1 k = mvV fo so va (allL uu fo so rs rg) k) ∧ u.2.2.2.2.2.2.2.2.1 = rs ∧ (∀ k, k < 8 → u.2.2.2.2.2.2.2.2.2.1 k = if rs k = 2 then nI (tgt fo (allL uu fo so rs rg) (plc (rg k))) else rv k)) (atX2_gather dC dI cI A mx aso ava ans anv ars arv ast ago hf) A) ([.ref mx] : List Value).toArray s 0 0 A) (F0 m 130 ls []) := by
                  intro d
                  induction d with
                  | zero =>
                    intro a9 ns1 nv1 hd3 hnv H locs ls hP hD hS hl
                    refine lv_iload_n hx hb dX2_gather_130 rfl (lv_at hl 2 rfl) ?_
                    refine lv_aload_n hx hb dX2_gather_131 rfl (lv_at hl 0 rfl) ?_
                    refine va_get (D := (dC, dI)) (ci := 2) (v := .int (nI (allL uu fo so rs rg).length)) (C := RX2) (T := TX2) (N := 14) hx hb ht iX2 hown hK hP 0 rfl rfl 11 (by decide) (ht _ g_337) (fun _ h9 => h9) rfl dX2_gather_132 ?_
                    refine lv_icmp_ge (tgt := 238) hx hb dX2_gather_135 (by decide) (fun _ => ?_) (fun h => absurd (nI_le (by omega) (by omega)) h)
                    have e9 : List.take a9 (allL uu fo so rs rg) = (allL uu fo so rs rg) := List.take_of_length_le (by omega)
                    rw [e9] at hl hnv
                    refine lv_iconst (v := 0) hx hb dX2_gather_238 (by decide) ?_
                    refine lv_istore_n (lv' := [(2, .int 0), (0, .ref mx), (1, .int (nI (tot fo (allL uu fo so rs rg))))]) hx hb dX2_gather_239 rfl hl (by decide) rfl (fun ls hl => ?_)
                    have hlG : ∀ (d : Nat) (r : Nat) (rv1 : Nat → Int32), (hd5 : r + d = 8) → (hG1 : ∀ k, k < r → rv1 k = if rs k = 2 then nI (tgt fo (allL uu fo so rs rg) (plc (rg k))) else rv k) → (hG2 : ∀ k, r ≤ k → rv1 k = rv k) → ∀ (H : Heap) (locs : List Loc) (ls : Array Slot), va_P (dC, dI) vwCl [(mx, .inr (2, [.int th, .int hf, .int (nI uu), .int col, .int mov, .ref aso, .ref ava, .ref ans, .ref anv, .ref ars, .ref arv, .int (nI (allL uu fo so rs rg).length), .ref ast, .ref ago])), (aso, .inl (cI, 2100, .inl so)), (ava, .inl (cI, 2100, .inl va)), (ans, .inl (cI, 2100, .inl ns1)), (anv, .inl (cI, 2100, .inl nv1)), (ars, .inl (cI, 8, .inl rs)), (arv, .inl (cI, 8, .inl rv1)), (ast, .inl (cI, 2100, .inl st2)), (ago, .inl (cI, 2100, .inl go2))] H → va_D A [(mx, .inr (2, [.int th, .int hf, .int (nI uu), .int col, .int mov, .ref aso, .ref ava, .ref ans, .ref anv, .ref ars, .ref arv, .int (nI (allL uu fo so rs rg).length), .ref ast, .ref ago])), (aso, .inl (cI, 2100, .inl so)), (ava, .inl (cI, 2100, .inl va)), (ans, .inl (cI, 2100, .inl ns1)), (anv, .inl (cI, 2100, .inl nv1)), (ars, .inl (cI, 8, .inl rs)), (arv, .inl (cI, 8, .inl rv1)), (ast, .inl (cI, 2100, .inl st2)), (ago, .inl (cI, 2100, .inl go2))] → va_S A s.heap H locs → lv_has ls 6 [(0, .ref mx), (1, .int (nI (tot fo (allL uu fo so rs rg)))), (2, .int (nI r))] → W p l e (headSpec (kX2_gather :: gT) ({ frames := 2, cells := 0, slots := 0, locals := 43 })).room s m ([.ref mx] : List Value).toArray below meth c H locs 0 0 (MQ below (va_Qi (fun (r : Int32) (u : Int32 × Int32 × Int32 × Int32 × (Nat → Int32) × (Nat → Int32) × (Nat → Int32) × (Nat → Int32) × (Nat → Int32) × (Nat → Int32) × Int32 × (Nat → Int32) × (Nat → Int32)) => r = nI (tot fo (allL uu fo so rs rg)) ∧ u.1 = th ∧ u.2.1 = nI (tot fo (allL uu fo so rs rg)) ∧ u.2.2.1 = col + 1 ∧ u.2.2.2.1 = mov + nI (tot fo (allL uu fo so rs rg)) ∧ (∀ k, k < tot fo (allL uu fo so rs rg) → u.2.2.2.2.1 k = so (srcA fo (allL uu fo so rs rg) k) ∧ u.2.2.2.2.2.1 k = mvV fo so va (allL uu fo so rs rg) k) ∧ u.2.2.2.2.2.2.2.2.1 = rs ∧ (∀ k, k < 8 → u.2.2.2.2.2.2.2.2.2.1 k = if rs k = 2 then nI (tgt fo (allL uu fo so rs rg) (plc (rg k))) else rv k)) (atX2_gather dC dI cI A mx aso ava ans anv ars arv ast ago hf) A) ([.ref mx] : List Value).toArray s 0 0 A) (F0 m 240 ls []) := by
                      intro d
                      induction d with
                      | zero =>
                        intro r rv1 hd5 hG1 hG2 H locs ls hP hD hS hl
                        have hr8 : r = 8 := by omega
                        subst hr8
                        refine lv_iload_n hx hb dX2_gather_240 rfl (lv_at hl 2 rfl) ?_
                        refine lv_bipush (v := 8) hx hb dX2_gather_241 (by decide) ?_
                        refine lv_icmp_ge (tgt := 279) hx hb dX2_gather_243 (by decide) (fun _ => ?_) (fun h => absurd (by decide) h)
                        refine lv_iconst (v := 0) hx hb dX2_gather_279 (by decide) ?_
                        refine lv_istore_n (lv' := [(2, .int 0), (0, .ref mx), (1, .int (nI (tot fo (allL uu fo so rs rg))))]) hx hb dX2_gather_280 rfl hl (by decide) rfl (fun ls hl => ?_)
                        have hlH : ∀ (d : Nat) (k : Nat) (so1 : Nat → Int32) (va1 : Nat → Int32), (hd6 : k + d = tot fo (allL uu fo so rs rg)) → (hH : ∀ j, j < k → so1 j = ns1 j ∧ va1 j = nv1 j) → ∀ (H : Heap) (locs : List Loc) (ls : Array Slot), va_P (dC, dI) vwCl [(mx, .inr (2, [.int th, .int hf, .int (nI uu), .int col, .int mov, .ref aso, .ref ava, .ref ans, .ref anv, .ref ars, .ref arv, .int (nI (allL uu fo so rs rg).length), .ref ast, .ref ago])), (aso, .inl (cI, 2100, .inl so1)), (ava, .inl (cI, 2100, .inl va1)), (ans, .inl (cI, 2100, .inl ns1)), (anv, .inl (cI, 2100, .inl nv1)), (ars, .inl (cI, 8, .inl rs)), (arv, .inl (cI, 8, .inl rv1)), (ast, .inl (cI, 2100, .inl st2)), (ago, .inl (cI, 2100, .inl go2))] H → va_D A [(mx, .inr (2, [.int th, .int hf, .int (nI uu), .int col, .int mov, .ref aso, .ref ava, .ref ans, .ref anv, .ref ars, .ref arv, .int (nI (allL uu fo so rs rg).length), .ref ast, .ref ago])), (aso, .inl (cI, 2100, .inl so1)), (ava, .inl (cI, 2100, .inl va1)), (ans, .inl (cI, 2100, .inl ns1)), (anv, .inl (cI, 2100, .inl nv1)), (ars, .inl (cI, 8, .inl rs)), (arv, .inl (cI, 8, .inl rv1)), (ast, .inl (cI, 2100, .inl st2)), (ago, .inl (cI, 2100, .inl go2))] → va_S A s.heap H locs → lv_has ls 6 [(0, .ref mx), (1, .int (nI (tot fo (allL uu fo so rs rg)))), (2, .int (nI k))] → W p l e (headSpec (kX2_gather :: gT) ({ frames := 2, cells := 0, slots := 0, locals := 43 })).room s m ([.ref mx] : List Value).toArray below meth c H locs 0 0 (MQ below (va_Qi (fun (r : Int32) (u : Int32 × Int32 × Int32 × Int32 × (Nat → Int32) × (Nat → Int32) × (Nat → Int32) × (Nat → Int32) × (Nat → Int32) × (Nat → Int32) × Int32 × (Nat → Int32) × (Nat → Int32)) => r = nI (tot fo (allL uu fo so rs rg)) ∧ u.1 = th ∧ u.2.1 = nI (tot fo (allL uu fo so rs rg)) ∧ u.2.2.1 = col + 1 ∧ u.2.2.2.1 = mov + nI (tot fo (allL uu fo so rs rg)) ∧ (∀ k, k < tot fo (allL uu fo so rs rg) → u.2.2.2.2.1 k = so (srcA fo (allL uu fo so rs rg) k) ∧ u.2.2.2.2.2.1 k = mvV fo so va (allL uu fo so rs rg) k) ∧ u.2.2.2.2.2.2.2.2.1 = rs ∧ (∀ k, k < 8 → u.2.2.2.2.2.2.2.2.2.1 k = if rs k = 2 then nI (tgt fo (allL uu fo so rs rg) (plc (rg k))) else rv k)) (atX2_gather dC dI cI A mx aso ava ans anv ars arv ast ago hf) A) ([.ref mx] : List Value).toArray s 0 0 A) (F0 m 281 ls []) := by
                          intro d
                          induction d with
                          | zero =>
                            intro k so1 va1 hd6 hH H locs ls hP hD hS hl
                            refine lv_iload_n hx hb dX2_gather_281 rfl (lv_at hl 2 rfl) ?_
                            refine lv_iload_n hx hb dX2_gather_282 rfl (lv_at hl 1 rfl) ?_
                            refine lv_icmp_ge (tgt := 316) hx hb dX2_gather_283 (by decide) (fun _ => ?_) (fun h => absurd (nI_le (by omega) (by omega)) h)
                            refine lv_aload_n hx hb dX2_gather_316 rfl (lv_at hl 0 rfl) ?_
                            refine lv_iload_n hx hb dX2_gather_317 rfl (lv_at hl 1 rfl) ?_
                            refine va_put (D := (dC, dI)) (ci := 2) (v := .int (nI (tot fo (allL uu fo so rs rg)))) (ty := .int) (C := RX2) (T := TX2) (N := 14) hx hb ht iX2 tyX2 tkX2 nmX2 hown hK hP hD hS 0 rfl rfl 2 (by decide) (ht _ g_328) (fun _ h9 => h9) rfl (by decide +kernel) rfl rfl (Nat.le_of_ble_eq_true rfl) dX2_gather_318 (fun H locs hP hD hS => ?_)
                            have hP : va_P (dC, dI) vwCl [(mx, .inr (2, [.int th, .int hf, .int (nI (tot fo (allL uu fo so rs rg))), .int col, .int mov, .ref aso, .ref ava, .ref ans, .ref anv, .ref ars, .ref arv, .int (nI (allL uu fo so rs rg).length), .ref ast, .ref ago])), (aso, .inl (cI, 2100, .inl so1)), (ava, .inl (cI, 2100, .inl va1)), (ans, .inl (cI, 2100, .inl ns1)), (anv, .inl (cI, 2100, .inl nv1)), (ars, .inl (cI, 8, .inl rs)), (arv, .inl (cI, 8, .inl rv1)), (ast, .inl (cI, 2100, .inl st2)), (ago, .inl (cI, 2100, .inl go2))] H := hP
                            have hD : va_D A [(mx, .inr (2, [.int th, .int hf, .int (nI (tot fo (allL uu fo so rs rg))), .int col, .int mov, .ref aso, .ref ava, .ref ans, .ref anv, .ref ars, .ref arv, .int (nI (allL uu fo so rs rg).length), .ref ast, .ref ago])), (aso, .inl (cI, 2100, .inl so1)), (ava, .inl (cI, 2100, .inl va1)), (ans, .inl (cI, 2100, .inl ns1)), (anv, .inl (cI, 2100, .inl nv1)), (ars, .inl (cI, 8, .inl rs)), (arv, .inl (cI, 8, .inl rv1)), (ast, .inl (cI, 2100, .inl st2)), (ago, .inl (cI, 2100, .inl go2))] := hD
                            refine lv_aload_n hx hb dX2_gather_321 rfl (lv_at hl 0 rfl) ?_
                            refine lv_dup hx hb dX2_gather_322 rfl ?_
                            refine va_get (D := (dC, dI)) (ci := 2) (v := .int col) (C := RX2) (T := TX2) (N := 14) hx hb ht iX2 hown hK hP 0 rfl rfl 3 (by decide) (ht _ g_329) (fun _ h9 => h9) rfl dX2_gather_323 ?_
                            refine lv_iconst (v := 1) hx hb dX2_gather_326 (by decide) ?_
                            refine lv_iadd hx hb dX2_gather_327 ?_
                            refine va_put (D := (dC, dI)) (ci := 2) (v := .int (col + 1)) (ty := .int) (C := RX2) (T := TX2) (N := 14) hx hb ht iX2 tyX2 tkX2 nmX2 hown hK hP hD hS 0 rfl rfl 3 (by decide) (ht _ g_329) (fun _ h9 => h9) rfl (by decide +kernel) rfl rfl (Nat.le_of_ble_eq_true rfl) dX2_gather_328 (fun H locs hP hD hS => ?_)
                            have hP : va_P (dC, dI) vwCl [(mx, .inr (2, [.int th, .int hf, .int (nI (tot fo (allL uu fo so rs rg))), .int (col + 1), .int mov, .ref aso, .ref ava, .ref ans, .ref anv, .ref ars, .ref arv, .int (nI (allL uu fo so rs rg).length), .ref ast, .ref ago])), (aso, .inl (cI, 2100, .inl so1)), (ava, .inl (cI, 2100, .inl va1)), (ans, .inl (cI, 2100, .inl ns1)), (anv, .inl (cI, 2100, .inl nv1)), (ars, .inl (cI, 8, .inl rs)), (arv, .inl (cI, 8, .inl rv1)), (ast, .inl (cI, 2100, .inl st2)), (ago, .inl (cI, 2100, .inl go2))] H := hP
                            have hD : va_D A [(mx, .inr (2, [.int th, .int hf, .int (nI (tot fo (allL uu fo so rs rg))), .int (col + 1), .int mov, .ref aso, .ref ava, .ref ans, .ref anv, .ref ars, .ref arv, .int (nI (allL uu fo so rs rg).length), .ref ast, .ref ago])), (aso, .inl (cI, 2100, .inl so1)), (ava, .inl (cI, 2100, .inl va1)), (ans, .inl (cI, 2100, .inl ns1)), (anv, .inl (cI, 2100, .inl nv1)), (ars, .inl (cI, 8, .inl rs)), (arv, .inl (cI, 8, .inl rv1)), (ast, .inl (cI, 2100, .inl st2)), (ago, .inl (cI, 2100, .inl go2))] := hD
                            refine lv_aload_n hx hb dX2_gather_331 rfl (lv_at hl 0 rfl) ?_
                            refine lv_dup hx hb dX2_gather_332 rfl ?_
                            refine va_get (D := (dC, dI)) (ci := 2) (v := .int mov) (C := RX2) (T := TX2) (N := 14) hx hb ht iX2 hown hK hP 0 rfl rfl 4 (by decide) (ht _ g_330) (fun _ h9 => h9) rfl dX2_gather_333 ?_
                            refine lv_iload_n hx hb dX2_gather_336 rfl (lv_at hl 1 rfl) ?_
                            refine lv_iadd hx hb dX2_gather_337 ?_
                            refine va_put (D := (dC, dI)) (ci := 2) (v := .int (mov + (nI (tot fo (allL uu fo so rs rg))))) (ty := .int) (C := RX2) (T := TX2) (N := 14) hx hb ht iX2 tyX2 tkX2 nmX2 hown hK hP hD hS 0 rfl rfl 4 (by decide) (ht _ g_330) (fun _ h9 => h9) rfl (by decide +kernel) rfl rfl (Nat.le_of_ble_eq_true rfl) dX2_gather_338 (fun H locs hP hD hS => ?_)
                            have hP : va_P (dC, dI) vwCl [(mx, .inr (2, [.int th, .int hf, .int (nI (tot fo (allL uu fo so rs rg))), .int (col + 1), .int (mov + (nI (tot fo (allL uu fo so rs rg)))), .ref aso, .ref ava, .ref ans, .ref anv, .ref ars, .ref arv, .int (nI (allL uu fo so rs rg).length), .ref ast, .ref ago])), (aso, .inl (cI, 2100, .inl so1)), (ava, .inl (cI, 2100, .inl va1)), (ans, .inl (cI, 2100, .inl ns1)), (anv, .inl (cI, 2100, .inl nv1)), (ars, .inl (cI, 8, .inl rs)), (arv, .inl (cI, 8, .inl rv1)), (ast, .inl (cI, 2100, .inl st2)), (ago, .inl (cI, 2100, .inl go2))] H := hP
                            have hD : va_D A [(mx, .inr (2, [.int th, .int hf, .int (nI (tot fo (allL uu fo so rs rg))), .int (col + 1), .int (mov + (nI (tot fo (allL uu fo so rs rg)))), .ref aso, .ref ava, .ref ans, .ref anv, .ref ars, .ref arv, .int (nI (allL uu fo so rs rg).length), .ref ast, .ref ago])), (aso, .inl (cI, 2100, .inl so1)), (ava, .inl (cI, 2100, .inl va1)), (ans, .inl (cI, 2100, .inl ns1)), (anv, .inl (cI, 2100, .inl nv1)), (ars, .inl (cI, 8, .inl rs)), (arv, .inl (cI, 8, .inl rv1)), (ast, .inl (cI, 2100, .inl st2)), (ago, .inl (cI, 2100, .inl go2))] := hD
                            refine lv_iload_n hx hb dX2_gather_341 rfl (lv_at hl 1 rfl) ?_
                            have hkt : k = tot fo (allL uu fo so rs rg) := by omega
                            have hP9 := hP.sub (ws' := [(mx, .inr (2, [.int th, .int hf, .int (nI (tot fo (allL uu fo so rs rg))), .int (col + 1), .int (mov + (nI (tot fo (allL uu fo so rs rg)))), .ref aso, .ref ava, .ref ans, .ref anv, .ref ars, .ref arv, .int (nI (allL uu fo so rs rg).length), .ref ast, .ref ago])), (aso, .inl (cI, 2100, .inl so1)), (ava, .inl (cI, 2100, .inl va1)), (ans, .inl (cI, 2100, .inl ns1)), (anv, .inl (cI, 2100, .inl nv1)), (ars, .inl (cI, 8, .inl rs)), (arv, .inl (cI, 8, .inl rv1)), (ast, .inl (cI, 2100, .inl st2)), (ago, .inl (cI, 2100, .inl go2))]) [0, 1, 2, 3, 4, 5, 6, 7, 8] rfl
                            have hD9 := hD.sub (ws' := [(mx, .inr (2, [.int th, .int hf, .int (nI (tot fo (allL uu fo so rs rg))), .int (col + 1), .int (mov + (nI (tot fo (allL uu fo so rs rg)))), .ref aso, .ref ava, .ref ans, .ref anv, .ref ars, .ref arv, .int (nI (allL uu fo so rs rg).length), .ref ast, .ref ago])), (aso, .inl (cI, 2100, .inl so1)), (ava, .inl (cI, 2100, .inl va1)), (ans, .inl (cI, 2100, .inl ns1)), (anv, .inl (cI, 2100, .inl nv1)), (ars, .inl (cI, 8, .inl rs)), (arv, .inl (cI, 8, .inl rv1)), (ast, .inl (cI, 2100, .inl st2)), (ago, .inl (cI, 2100, .inl go2))]) [0, 1, 2, 3, 4, 5, 6, 7, 8] (by decide) rfl
                            have hK9 := hK.sub (tys' := [(cI, .int)]) [0] rfl
                            exact W.iret (v := nI (tot fo (allL uu fo so rs rg))) hx hb hr (fun t ht hW => ⟨⟨_, (th, nI (tot fo (allL uu fo so rs rg)), col + 1, mov + (nI (tot fo (allL uu fo so rs rg))), so1, va1, ns1, nv1, rs, rv1, nI (allL uu fo so rs rg).length, st2, go2), rfl, ⟨rfl, rfl, rfl, rfl, rfl, (fun j hj => ⟨(hH j (by omega)).1.trans (hnv j hj).1, (hH j (by omega)).2.trans (hnv j hj).2⟩), rfl, hG1⟩, by rw [ht]; exact hP9, va_K.moved hW.alike hK9, hD9⟩, hS.F ht⟩) hS.2.2 dX2_gather_342
                          | succ d ihH =>
                            intro k so1 va1 hd6 hH H locs ls hP hD hS hl
                            have er : (nI k).toNatClampNeg = k := nI_clamp (by omega)
                            refine lv_iload_n hx hb dX2_gather_281 rfl (lv_at hl 2 rfl) ?_
                            refine lv_iload_n hx hb dX2_gather_282 rfl (lv_at hl 1 rfl) ?_
                            refine lv_icmp_ge (tgt := 316) hx hb dX2_gather_283 (by decide) (fun h => absurd h (nI_ge (by omega) (by omega))) (fun _ => ?_)
                            refine lv_aload_n hx hb dX2_gather_286 rfl (lv_at hl 0 rfl) ?_
                            refine va_get (D := (dC, dI)) (ci := 2) (v := .ref aso) (C := RX2) (T := TX2) (N := 14) hx hb ht iX2 hown hK hP 0 rfl rfl 5 (by decide) (ht _ g_331) (fun _ h9 => h9) rfl dX2_gather_287 ?_
                            refine lv_iload_n hx hb dX2_gather_290 rfl (lv_at hl 2 rfl) ?_
                            refine lv_aload_n hx hb dX2_gather_291 rfl (lv_at hl 0 rfl) ?_
                            refine va_get (D := (dC, dI)) (ci := 2) (v := .ref ans) (C := RX2) (T := TX2) (N := 14) hx hb ht iX2 hown hK hP 0 rfl rfl 7 (by decide) (ht _ g_333) (fun _ h9 => h9) rfl dX2_gather_292 ?_
                            refine lv_iload_n hx hb dX2_gather_295 rfl (lv_at hl 2 rfl) ?_
                            refine va_iald hx hb hK hP 3 0 rfl rfl (vp_in_nI (by omega) (by decide)) dX2_gather_296 ?_
                            rw [er]
                            refine va_iast hx hb hK hP hD hS 1 0 rfl rfl (vp_in_nI (by omega) (by decide)) dX2_gather_297 (fun H locs hP hD hS => ?_)
                            have hP : va_P (dC, dI) vwCl [(mx, .inr (2, [.int th, .int hf, .int (nI uu), .int col, .int mov, .ref aso, .ref ava, .ref ans, .ref anv, .ref ars, .ref arv, .int (nI (allL uu fo so rs rg).length), .ref ast, .ref ago])), (aso, .inl (cI, 2100, .inl (upd so1 (nI k).toNatClampNeg (ns1 k)))), (ava, .inl (cI, 2100, .inl va1)), (ans, .inl (cI, 2100, .inl ns1)), (anv, .inl (cI, 2100, .inl nv1)), (ars, .inl (cI, 8, .inl rs)), (arv, .inl (cI, 8, .inl rv1)), (ast, .inl (cI, 2100, .inl st2)), (ago, .inl (cI, 2100, .inl go2))] H := hP
                            have hD : va_D A [(mx, .inr (2, [.int th, .int hf, .int (nI uu), .int col, .int mov, .ref aso, .ref ava, .ref ans, .ref anv, .ref ars, .ref arv, .int (nI (allL uu fo so rs rg).length), .ref ast, .ref ago])), (aso, .inl (cI, 2100, .inl (upd so1 (nI k).toNatClampNeg (ns1 k)))), (ava, .inl (cI, 2100, .inl va1)), (ans, .inl (cI, 2100, .inl ns1)), (anv, .inl (cI, 2100, .inl nv1)), (ars, .inl (cI, 8, .inl rs)), (arv, .inl (cI, 8, .inl rv1)), (ast, .inl (cI, 2100, .inl st2)), (ago, .inl (cI, 2100, .inl go2))] := hD
                            refine lv_aload_n hx hb dX2_gather_298 rfl (lv_at hl 0 rfl) ?_
                            refine va_get (D := (dC, dI)) (ci := 2) (v := .ref ava) (C := RX2) (T := TX2) (N := 14) hx hb ht iX2 hown hK hP 0 rfl rfl 6 (by decide) (ht _ g_332) (fun _ h9 => h9) rfl dX2_gather_299 ?_
                            refine lv_iload_n hx hb dX2_gather_302 rfl (lv_at hl 2 rfl) ?_
                            refine lv_aload_n hx hb dX2_gather_303 rfl (lv_at hl 0 rfl) ?_
                            refine va_get (D := (dC, dI)) (ci := 2) (v := .ref anv) (C := RX2) (T := TX2) (N := 14) hx hb ht iX2 hown hK hP 0 rfl rfl 8 (by decide) (ht _ g_334) (fun _ h9 => h9) rfl dX2_gather_304 ?_
                            refine lv_iload_n hx hb dX2_gather_307 rfl (lv_at hl 2 rfl) ?_
                            refine va_iald hx hb hK hP 4 0 rfl rfl (vp_in_nI (by omega) (by decide)) dX2_gather_308 ?_
                            rw [er]
                            refine va_iast hx hb hK hP hD hS 2 0 rfl rfl (vp_in_nI (by omega) (by decide)) dX2_gather_309 (fun H locs hP hD hS => ?_)
                            have hP : va_P (dC, dI) vwCl [(mx, .inr (2, [.int th, .int hf, .int (nI uu), .int col, .int mov, .ref aso, .ref ava, .ref ans, .ref anv, .ref ars, .ref arv, .int (nI (allL uu fo so rs rg).length), .ref ast, .ref ago])), (aso, .inl (cI, 2100, .inl (upd so1 (nI k).toNatClampNeg (ns1 k)))), (ava, .inl (cI, 2100, .inl (upd va1 (nI k).toNatClampNeg (nv1 k)))), (ans, .inl (cI, 2100, .inl ns1)), (anv, .inl (cI, 2100, .inl nv1)), (ars, .inl (cI, 8, .inl rs)), (arv, .inl (cI, 8, .inl rv1)), (ast, .inl (cI, 2100, .inl st2)), (ago, .inl (cI, 2100, .inl go2))] H := hP
                            have hD : va_D A [(mx, .inr (2, [.int th, .int hf, .int (nI uu), .int col, .int mov, .ref aso, .ref ava, .ref ans, .ref anv, .ref ars, .ref arv, .int (nI (allL uu fo so rs rg).length), .ref ast, .ref ago])), (aso, .inl (cI, 2100, .inl (upd so1 (nI k).toNatClampNeg (ns1 k)))), (ava, .inl (cI, 2100, .inl (upd va1 (nI k).toNatClampNeg (nv1 k)))), (ans, .inl (cI, 2100, .inl ns1)), (anv, .inl (cI, 2100, .inl nv1)), (ars, .inl (cI, 8, .inl rs)), (arv, .inl (cI, 8, .inl rv1)), (ast, .inl (cI, 2100, .inl st2)), (ago, .inl (cI, 2100, .inl go2))] := hD
                            rw [er] at hP hD
                            have hP : va_P (dC, dI) vwCl [(mx, .inr (2, [.int th, .int hf, .int (nI uu), .int col, .int mov, .ref aso, .ref ava, .ref ans, .ref anv, .ref ars, .ref arv, .int (nI (allL uu fo so rs rg).length), .ref ast, .ref ago])), (aso, .inl (cI, 2100, .inl (upd so1 k (ns1 k)))), (ava, .inl (cI, 2100, .inl (upd va1 k (nv1 k)))), (ans, .inl (cI, 2100, .inl ns1)), (anv, .inl (cI, 2100, .inl nv1)), (ars, .inl (cI, 8, .inl rs)), (arv, .inl (cI, 8, .inl rv1)), (ast, .inl (cI, 2100, .inl st2)), (ago, .inl (cI, 2100, .inl go2))] H := hP
                            have hD : va_D A [(mx, .inr (2, [.int th, .int hf, .int (nI uu), .int col, .int mov, .ref aso, .ref ava, .ref ans, .ref anv, .ref ars, .ref arv, .int (nI (allL uu fo so rs rg).length), .ref ast, .ref ago])), (aso, .inl (cI, 2100, .inl (upd so1 k (ns1 k)))), (ava, .inl (cI, 2100, .inl (upd va1 k (nv1 k)))), (ans, .inl (cI, 2100, .inl ns1)), (anv, .inl (cI, 2100, .inl nv1)), (ars, .inl (cI, 8, .inl rs)), (arv, .inl (cI, 8, .inl rv1)), (ast, .inl (cI, 2100, .inl st2)), (ago, .inl (cI, 2100, .inl go2))] := hD
                            obtain ⟨x_2, ex_2⟩ : ∃ y : Int32, y = nI k + 1 := ⟨_, rfl⟩
                            refine lv_iinc (v := x_2) (lv' := [(2, .int x_2), (0, .ref mx), (1, .int (nI (tot fo (allL uu fo so rs rg))))]) hx hb dX2_gather_310 hl (k := 2) rfl (by rw [ex_2]; rfl) (by decide) rfl (fun ls hl => ?_)
                            refine lv_goto (tgt := 281) hx hb dX2_gather_313 (by decide) ?_
                            rw [ex_2, nI_1] at hl
                            exact ihH (k + 1) (upd so1 k (ns1 k)) (upd va1 k (nv1 k)) (by omega) (cbS hH) _ _ ls hP hD hS (lv_sub hl [1, 2, 0] rfl)
                        exact hlH (tot fo (allL uu fo so rs rg)) 0 so va (by omega) (fun k hk => absurd hk (Nat.not_lt_zero k)) _ _ ls hP hD hS (lv_sub hl [1, 2, 0] rfl)
                      | succ d ihG =>
                        intro r rv1 hd5 hG1 hG2 H locs ls hP hD hS hl
                        have er : (nI r).toNatClampNeg = r := nI_clamp (by omega)
                        refine lv_iload_n hx hb dX2_gather_240 rfl (lv_at hl 2 rfl) ?_
                        refine lv_bipush (v := 8) hx hb dX2_gather_241 (by decide) ?_
                        refine lv_icmp_ge (tgt := 279) hx hb dX2_gather_243 (by decide) (fun h => absurd h (by rw [show (8 : Int32) = nI 8 from rfl]; exact nI_ge (by omega) (by decide))) (fun _ => ?_)
                        refine lv_aload_n hx hb dX2_gather_246 rfl (lv_at hl 0 rfl) ?_
                        refine va_get (D := (dC, dI)) (ci := 2) (v := .ref ars) (C := RX2) (T := TX2) (N := 14) hx hb ht iX2 hown hK hP 0 rfl rfl 9 (by decide) (ht _ g_335) (fun _ h9 => h9) rfl dX2_gather_247 ?_
                        refine lv_iload_n hx hb dX2_gather_250 rfl (lv_at hl 2 rfl) ?_
                        refine va_iald hx hb hK hP 5 0 rfl rfl (vp_in_nI (by omega) (by decide)) dX2_gather_251 ?_
                        rw [er]
                        refine lv_iconst (v := 2) hx hb dX2_gather_252 (by decide) ?_
                        refine lv_icmp_ne (tgt := 273) hx hb dX2_gather_253 (by decide) (fun c_3 => ?_) (fun c_3 => ?_)
                        · obtain ⟨x_4, ex_4⟩ : ∃ y : Int32, y = nI r + 1 := ⟨_, rfl⟩
                          refine lv_iinc (v := x_4) (lv' := [(2, .int x_4), (0, .ref mx), (1, .int (nI (tot fo (allL uu fo so rs rg))))]) hx hb dX2_gather_273 hl (k := 2) rfl (by rw [ex_4]; rfl) (by decide) rfl (fun ls hl => ?_)
                          refine lv_goto (tgt := 240) hx hb dX2_gather_276 (by decide) ?_
                          rw [ex_4, nI_1] at hl
                          exact ihG (r + 1) rv1 (by omega) (rvN hG1 hG2 c_3) (fun k hk => hG2 k (by omega)) _ _ ls hP hD hS (lv_sub hl [1, 2, 0] rfl)
                        · obtain ⟨q1, q5, q6, q7, q8⟩ := (hrg r (by omega)).resolve_right (fun q => q.1 c_3)
                          have hpl : plc (rg r) = q5 := by rw [q8]; exact plcO (by omega)
                          have hqm : q5 ∈ (allL uu fo so rs rg) := by rw [← hpl]; exact all_in (by omega) q1
                          refine lv_aload_n hx hb dX2_gather_256 rfl (lv_at hl 0 rfl) ?_
                          refine va_get (D := (dC, dI)) (ci := 2) (v := .ref arv) (C := RX2) (T := TX2) (N := 14) hx hb ht iX2 hown hK hP 0 rfl rfl 10 (by decide) (ht _ g_336) (fun _ h9 => h9) rfl dX2_gather_257 ?_
                          refine lv_iload_n hx hb dX2_gather_260 rfl (lv_at hl 2 rfl) ?_
                          refine lv_aload_n hx hb dX2_gather_261 rfl (lv_at hl 0 rfl) ?_
                          refine va_get (D := (dC, dI)) (ci := 2) (v := .ref ago) (C := RX2) (T := TX2) (N := 14) hx hb ht iX2 hown hK hP 0 rfl rfl 13 (by decide) (ht _ g_339) (fun _ h9 => h9) rfl dX2_gather_262 ?_
                          refine lv_aload_n hx hb dX2_gather_265 rfl (lv_at hl 0 rfl) ?_
                          refine va_get (D := (dC, dI)) (ci := 2) (v := .ref arv) (C := RX2) (T := TX2) (N := 14) hx hb ht iX2 hown hK hP 0 rfl rfl 10 (by decide) (ht _ g_336) (fun _ h9 => h9) rfl dX2_gather_266 ?_
                          refine lv_iload_n hx hb dX2_gather_269 rfl (lv_at hl 2 rfl) ?_
                          refine va_iald hx hb hK hP 6 0 rfl rfl (vp_in_nI (by omega) (by decide)) dX2_gather_270 ?_
                          rw [er, hG2 r (Nat.le_refl _), hrv r (by omega) q1, hpl]
                          refine va_iald hx hb hK hP 8 0 rfl rfl (vp_in_nI (by omega) (by decide)) dX2_gather_271 ?_
                          rw [nI_clamp (show q5 < 2 ^ 31 by omega), hk2.2.2 q5 q6, if_pos hqm]
                          refine va_iast hx hb hK hP hD hS 6 0 rfl rfl (vp_in_nI (by omega) (by decide)) dX2_gather_272 (fun H locs hP hD hS => ?_)
                          have hP : va_P (dC, dI) vwCl [(mx, .inr (2, [.int th, .int hf, .int (nI uu), .int col, .int mov, .ref aso, .ref ava, .ref ans, .ref anv, .ref ars, .ref arv, .int (nI (allL uu fo so rs rg).length), .ref ast, .ref ago])), (aso, .inl (cI, 2100, .inl so)), (ava, .inl (cI, 2100, .inl va)), (ans, .inl (cI, 2100, .inl ns1)), (anv, .inl (cI, 2100, .inl nv1)), (ars, .inl (cI, 8, .inl rs)), (arv, .inl (cI, 8, .inl (upd rv1 (nI r).toNatClampNeg (nI (tgt fo (allL uu fo so rs rg) q5))))), (ast, .inl (cI, 2100, .inl st2)), (ago, .inl (cI, 2100, .inl go2))] H := hP
                          have hD : va_D A [(mx, .inr (2, [.int th, .int hf, .int (nI uu), .int col, .int mov, .ref aso, .ref ava, .ref ans, .ref anv, .ref ars, .ref arv, .int (nI (allL uu fo so rs rg).length), .ref ast, .ref ago])), (aso, .inl (cI, 2100, .inl so)), (ava, .inl (cI, 2100, .inl va)), (ans, .inl (cI, 2100, .inl ns1)), (anv, .inl (cI, 2100, .inl nv1)), (ars, .inl (cI, 8, .inl rs)), (arv, .inl (cI, 8, .inl (upd rv1 (nI r).toNatClampNeg (nI (tgt fo (allL uu fo so rs rg) q5))))), (ast, .inl (cI, 2100, .inl st2)), (ago, .inl (cI, 2100, .inl go2))] := hD
                          rw [er] at hP hD
                          have hP : va_P (dC, dI) vwCl [(mx, .inr (2, [.int th, .int hf, .int (nI uu), .int col, .int mov, .ref aso, .ref ava, .ref ans, .ref anv, .ref ars, .ref arv, .int (nI (allL uu fo so rs rg).length), .ref ast, .ref ago])), (aso, .inl (cI, 2100, .inl so)), (ava, .inl (cI, 2100, .inl va)), (ans, .inl (cI, 2100, .inl ns1)), (anv, .inl (cI, 2100, .inl nv1)), (ars, .inl (cI, 8, .inl rs)), (arv, .inl (cI, 8, .inl (upd rv1 r (nI (tgt fo (allL uu fo so rs rg) q5))))), (ast, .inl (cI, 2100, .inl st2)), (ago, .inl (cI, 2100, .inl go2))] H := hP
                          have hD : va_D A [(mx, .inr (2, [.int th, .int hf, .int (nI uu), .int col, .int mov, .ref aso, .ref ava, .ref ans, .ref anv, .ref ars, .ref arv, .int (nI (allL uu fo so rs rg).length), .ref ast, .ref ago])), (aso, .inl (cI, 2100, .inl so)), (ava, .inl (cI, 2100, .inl va)), (ans, .inl (cI, 2100, .inl ns1)), (anv, .inl (cI, 2100, .inl nv1)), (ars, .inl (cI, 8, .inl rs)), (arv, .inl (cI, 8, .inl (upd rv1 r (nI (tgt fo (allL uu fo so rs rg) q5))))), (ast, .inl (cI, 2100, .inl st2)), (ago, .inl (cI, 2100, .inl go2))] := hD
                          obtain ⟨x_5, ex_5⟩ : ∃ y : Int32, y = nI r + 1 := ⟨_, rfl⟩
                          refine lv_iinc (v := x_5) (lv' := [(2, .int x_5), (0, .ref mx), (1, .int (nI (tot fo (allL uu fo so rs rg))))]) hx hb dX2_gather_273 hl (k := 2) rfl (by rw [ex_5]; rfl) (by decide) rfl (fun ls hl => ?_)
                          refine lv_goto (tgt := 240) hx hb dX2_gather_276 (by decide) ?_
                          rw [ex_5, nI_1] at hl
                          exact ihG (r + 1) (upd rv1 r (nI (tgt fo (allL uu fo so rs rg) q5))) (by omega) (rvS hG1 (by rw [if_pos q1, hpl])) (rvU hG2) _ _ ls hP hD hS (lv_sub hl [1, 2, 0] rfl)
                    exact hlG 8 0 rv (by omega) (fun k hk => absurd hk (Nat.not_lt_zero k)) (fun _ _ => rfl) _ _ ls hP hD hS (lv_sub hl [1, 2, 0] rfl)
                  | succ d ihE =>
                    intro a9 ns1 nv1 hd3 hnv H locs ls hP hD hS hl
                    have hi9 : a9 < (allL uu fo so rs rg).length := by omega
                    have er : (nI a9).toNatClampNeg = a9 := nI_clamp (by omega)
                    obtain ⟨p9, hp9⟩ : ∃ p, p = List.getD (allL uu fo so rs rg) a9 0 := ⟨_, rfl⟩
                    obtain ⟨T9, hT9⟩ : ∃ T, T = tot fo (List.take a9 (allL uu fo so rs rg)) := ⟨_, rfl⟩
                    have htk := take_tot (f := fo) hC.2.1 hi9
                    rw [← hp9, ← hT9] at htk
                    have htl := take_le (f := fo) (allL uu fo so rs rg) (a9 + 1)
                    have hpm := hC.2.2 p9 htk.1
                    have hh := hwf.2.2.2.1 p9 hpm.1 hpm.2
                    have e5 : fX2_fieldsAt va (nI p9) = nI (oF fo p9) := mfI (by omega) hh.1 (hv0 p9 hpm.1 hpm.2)
                    rw [← hT9] at hl hnv
                    refine lv_iload_n hx hb dX2_gather_130 rfl (lv_at hl 2 rfl) ?_
                    refine lv_aload_n hx hb dX2_gather_131 rfl (lv_at hl 0 rfl) ?_
                    refine va_get (D := (dC, dI)) (ci := 2) (v := .int (nI (allL uu fo so rs rg).length)) (C := RX2) (T := TX2) (N := 14) hx hb ht iX2 hown hK hP 0 rfl rfl 11 (by decide) (ht _ g_337) (fun _ h9 => h9) rfl dX2_gather_132 ?_
                    refine lv_icmp_ge (tgt := 238) hx hb dX2_gather_135 (by decide) (fun h => absurd h (nI_ge (by omega) (by omega))) (fun _ => ?_)
                    refine lv_iconst (v := 1) hx hb dX2_gather_138 (by decide) ?_
                    refine lv_aload_n hx hb dX2_gather_139 rfl (lv_at hl 0 rfl) ?_
                    refine lv_aload_n hx hb dX2_gather_140 rfl (lv_at hl 0 rfl) ?_
                    refine va_get (D := (dC, dI)) (ci := 2) (v := .ref ast) (C := RX2) (T := TX2) (N := 14) hx hb ht iX2 hown hK hP 0 rfl rfl 12 (by decide) (ht _ g_338) (fun _ h9 => h9) rfl dX2_gather_141 ?_
                    refine lv_iload_n hx hb dX2_gather_144 rfl (lv_at hl 2 rfl) ?_
                    refine va_iald hx hb hK hP 7 0 rfl rfl (vp_in_nI (by omega) (by decide)) dX2_gather_145 ?_
                    rw [er, hk2.2.1 a9 hi9, ← hp9]
                    have hPc := hP.sub (ws' := [(mx, .inr (2, [.int th, .int hf, .int (nI uu), .int col, .int mov, .ref aso, .ref ava, .ref ans, .ref anv, .ref ars, .ref arv, .int (nI (allL uu fo so rs rg).length), .ref ast, .ref ago])), (aso, .inl (cI, 2100, .inl so)), (ava, .inl (cI, 2100, .inl va)), (ans, .inl (cI, 2100, .inl ns1)), (anv, .inl (cI, 2100, .inl nv1)), (ars, .inl (cI, 8, .inl rs)), (arv, .inl (cI, 8, .inl rv)), (ast, .inl (cI, 2100, .inl st2)), (ago, .inl (cI, 2100, .inl go2))]) [0, 1, 2, 3, 4, 5, 6, 7, 8] rfl
                    have hKc := hK.sub (tys' := [(cI, .int)]) [0] rfl
                    refine vp_callSi (va_runV (As := [.int (nI p9)]) (rest := [.int 1]) ⟨hx, hb, hml, hown, ht⟩ (ctX2_fieldsAt l dC dI cI mx aso ava ans anv ars arv ast ago th hf (nI uu) col mov (nI (allL uu fo so rs rg).length) so va ns1 nv1 rs rv st2 go2 (nI p9) (vp_in_nI (by omega) (by decide))) (cwV 1 ht gcX2_44 rfl rfl rfl (by decide +kernel) ⟨Nat.le_of_ble_eq_true rfl, Nat.le_of_ble_eq_true rfl⟩) ⟨pS.blind, va_recv hKc hPc (ci := 2) (q0 := 0) rfl rfl, pS.call hPc hKc hE⟩ rfl rfl hl.1 rfl (lv_room (Nat.le_of_ble_eq_true rfl)) dX2_gather_146 ⟨Nat.le_of_ble_eq_true rfl, Nat.le_of_ble_eq_true rfl⟩).run (fun r_6 hr_6 => ?_)
                    subst hr_6
                    rw [e5]
                    refine lv_iadd hx hb dX2_gather_149 ?_
                    rw [show (1 : Int32) + nI (oF fo p9) = nI (oF fo p9 + 1) by rw [Int32.add_comm, nI_1]]
                    refine lv_istore_n (lv' := [(3, .int (nI (oF fo p9 + 1))), (0, .ref mx), (1, .int (nI T9)), (2, .int (nI a9))]) hx hb dX2_gather_150 rfl hl (by decide) rfl (fun ls hl => ?_)
                    refine lv_iconst (v := 0) hx hb dX2_gather_151 (by decide) ?_
                    refine lv_istore (lv' := [(4, .int 0), (3, .int (nI (oF fo p9 + 1))), (0, .ref mx), (1, .int (nI T9)), (2, .int (nI a9))]) hx hb dX2_gather_152 hl (by decide) rfl (fun ls hl => ?_)
                    have hlF : ∀ (d : Nat) (k : Nat) (ns2 : Nat → Int32) (nv2 : Nat → Int32), (hd4 : k + d = oF fo p9 + 1) → (hnv2 : ∀ j, j < T9 + k → ns2 j = so (srcA fo (allL uu fo so rs rg) j) ∧ nv2 j = mvV fo so va (allL uu fo so rs rg) j) → ∀ (H : Heap) (locs : List Loc) (ls : Array Slot), va_P (dC, dI) vwCl [(mx, .inr (2, [.int th, .int hf, .int (nI uu), .int col, .int mov, .ref aso, .ref ava, .ref ans, .ref anv, .ref ars, .ref arv, .int (nI (allL uu fo so rs rg).length), .ref ast, .ref ago])), (aso, .inl (cI, 2100, .inl so)), (ava, .inl (cI, 2100, .inl va)), (ans, .inl (cI, 2100, .inl ns2)), (anv, .inl (cI, 2100, .inl nv2)), (ars, .inl (cI, 8, .inl rs)), (arv, .inl (cI, 8, .inl rv)), (ast, .inl (cI, 2100, .inl st2)), (ago, .inl (cI, 2100, .inl go2))] H → va_D A [(mx, .inr (2, [.int th, .int hf, .int (nI uu), .int col, .int mov, .ref aso, .ref ava, .ref ans, .ref anv, .ref ars, .ref arv, .int (nI (allL uu fo so rs rg).length), .ref ast, .ref ago])), (aso, .inl (cI, 2100, .inl so)), (ava, .inl (cI, 2100, .inl va)), (ans, .inl (cI, 2100, .inl ns2)), (anv, .inl (cI, 2100, .inl nv2)), (ars, .inl (cI, 8, .inl rs)), (arv, .inl (cI, 8, .inl rv)), (ast, .inl (cI, 2100, .inl st2)), (ago, .inl (cI, 2100, .inl go2))] → va_S A s.heap H locs → lv_has ls 6 [(0, .ref mx), (1, .int (nI (T9 + k))), (2, .int (nI a9)), (3, .int (nI (oF fo p9 + 1))), (4, .int (nI k))] → W p l e (headSpec (kX2_gather :: gT) ({ frames := 2, cells := 0, slots := 0, locals := 43 })).room s m ([.ref mx] : List Value).toArray below meth c H locs 0 0 (MQ below (va_Qi (fun (r : Int32) (u : Int32 × Int32 × Int32 × Int32 × (Nat → Int32) × (Nat → Int32) × (Nat → Int32) × (Nat → Int32) × (Nat → Int32) × (Nat → Int32) × Int32 × (Nat → Int32) × (Nat → Int32)) => r = nI (tot fo (allL uu fo so rs rg)) ∧ u.1 = th ∧ u.2.1 = nI (tot fo (allL uu fo so rs rg)) ∧ u.2.2.1 = col + 1 ∧ u.2.2.2.1 = mov + nI (tot fo (allL uu fo so rs rg)) ∧ (∀ k, k < tot fo (allL uu fo so rs rg) → u.2.2.2.2.1 k = so (srcA fo (allL uu fo so rs rg) k) ∧ u.2.2.2.2.2.1 k = mvV fo so va (allL uu fo so rs rg) k) ∧ u.2.2.2.2.2.2.2.2.1 = rs ∧ (∀ k, k < 8 → u.2.2.2.2.2.2.2.2.2.1 k = if rs k = 2 then nI (tgt fo (allL uu fo so rs rg) (plc (rg k))) else rv k)) (atX2_gather dC dI cI A mx aso ava ans anv ars arv ast ago hf) A) ([.ref mx] : List Value).toArray s 0 0 A) (F0 m 154 ls []) := by
                      intro d
                      induction d with
                      | zero =>
                        intro k ns2 nv2 hd4 hnv2 H locs ls hP hD hS hl
                        refine lv_iload hx hb dX2_gather_154 (lv_at hl 4 rfl) ?_
                        refine lv_iload_n hx hb dX2_gather_156 rfl (lv_at hl 3 rfl) ?_
                        refine lv_icmp_ge (tgt := 232) hx hb dX2_gather_157 (by decide) (fun _ => ?_) (fun h => absurd (nI_le (by omega) (by omega)) h)
                        obtain ⟨x_7, ex_7⟩ : ∃ y : Int32, y = nI a9 + 1 := ⟨_, rfl⟩
                        refine lv_iinc (v := x_7) (lv' := [(2, .int x_7), (0, .ref mx), (1, .int (nI (T9 + k))), (3, .int (nI (oF fo p9 + 1))), (4, .int (nI k))]) hx hb dX2_gather_232 hl (k := 2) rfl (by rw [ex_7]; rfl) (by decide) rfl (fun ls hl => ?_)
                        refine lv_goto (tgt := 130) hx hb dX2_gather_235 (by decide) ?_
                        have e7 : T9 + k = tot fo (List.take (a9 + 1) (allL uu fo so rs rg)) := by rw [htk.2.2]; omega
                        rw [e7] at hl hnv2
                        rw [ex_7, nI_1] at hl
                        exact ihE (a9 + 1) ns2 nv2 (by omega) hnv2 _ _ ls hP hD hS (lv_sub hl [1, 2, 0] rfl)
                      | succ d ihF =>
                        intro k ns2 nv2 hd4 hnv2 H locs ls hP hD hS hl
                        have er2 : (nI (p9 + k)).toNatClampNeg = p9 + k := nI_clamp (by omega)
                        have er3 : (nI (T9 + k)).toNatClampNeg = T9 + k := nI_clamp (by omega)
                        have hsr : srcA fo (allL uu fo so rs rg) (T9 + k) = p9 + k := by unfold srcA; rw [hT9, lcp_take (f := fo) hCA.2.1 hi9 (k := k) (by rw [← hp9]; omega), hp9]
                        refine lv_iload hx hb dX2_gather_154 (lv_at hl 4 rfl) ?_
                        refine lv_iload_n hx hb dX2_gather_156 rfl (lv_at hl 3 rfl) ?_
                        refine lv_icmp_ge (tgt := 232) hx hb dX2_gather_157 (by decide) (fun h => absurd h (nI_ge (by omega) (by omega))) (fun _ => ?_)
                        refine lv_aload_n hx hb dX2_gather_160 rfl (lv_at hl 0 rfl) ?_
                        refine va_get (D := (dC, dI)) (ci := 2) (v := .ref ast) (C := RX2) (T := TX2) (N := 14) hx hb ht iX2 hown hK hP 0 rfl rfl 12 (by decide) (ht _ g_338) (fun _ h9 => h9) rfl dX2_gather_161 ?_
                        refine lv_iload_n hx hb dX2_gather_164 rfl (lv_at hl 2 rfl) ?_
                        refine va_iald hx hb hK hP 7 0 rfl rfl (vp_in_nI (by omega) (by decide)) dX2_gather_165 ?_
                        rw [er, hk2.2.1 a9 hi9, ← hp9]
                        refine lv_iload hx hb dX2_gather_166 (lv_at hl 4 rfl) ?_
                        refine lv_iadd hx hb dX2_gather_168 ?_
                        rw [nI_add]
                        refine lv_istore (lv' := [(5, .int (nI (p9 + k))), (0, .ref mx), (1, .int (nI (T9 + k))), (2, .int (nI a9)), (3, .int (nI (oF fo p9 + 1))), (4, .int (nI k))]) hx hb dX2_gather_169 hl (by decide) rfl (fun ls hl => ?_)
                        refine lv_aload_n hx hb dX2_gather_171 rfl (lv_at hl 1 rfl) ?_
                        refine va_get (D := (dC, dI)) (ci := 2) (v := .ref ans) (C := RX2) (T := TX2) (N := 14) hx hb ht iX2 hown hK hP 0 rfl rfl 7 (by decide) (ht _ g_333) (fun _ h9 => h9) rfl dX2_gather_172 ?_
                        refine lv_iload_n hx hb dX2_gather_175 rfl (lv_at hl 2 rfl) ?_
                        refine lv_aload_n hx hb dX2_gather_176 rfl (lv_at hl 1 rfl) ?_
                        refine va_get (D := (dC, dI)) (ci := 2) (v := .ref aso) (C := RX2) (T := TX2) (N := 14) hx hb ht iX2 hown hK hP 0 rfl rfl 5 (by decide) (ht _ g_331) (fun _ h9 => h9) rfl dX2_gather_177 ?_
                        refine lv_iload hx hb dX2_gather_180 (lv_at hl 0 rfl) ?_
                        refine va_iald hx hb hK hP 1 0 rfl rfl (vp_in_nI (by omega) (by decide)) dX2_gather_182 ?_
                        rw [er2]
                        refine va_iast hx hb hK hP hD hS 3 0 rfl rfl (vp_in_nI (by omega) (by decide)) dX2_gather_183 (fun H locs hP hD hS => ?_)
                        have hP : va_P (dC, dI) vwCl [(mx, .inr (2, [.int th, .int hf, .int (nI uu), .int col, .int mov, .ref aso, .ref ava, .ref ans, .ref anv, .ref ars, .ref arv, .int (nI (allL uu fo so rs rg).length), .ref ast, .ref ago])), (aso, .inl (cI, 2100, .inl so)), (ava, .inl (cI, 2100, .inl va)), (ans, .inl (cI, 2100, .inl (upd ns2 (nI (T9 + k)).toNatClampNeg (so (p9 + k))))), (anv, .inl (cI, 2100, .inl nv2)), (ars, .inl (cI, 8, .inl rs)), (arv, .inl (cI, 8, .inl rv)), (ast, .inl (cI, 2100, .inl st2)), (ago, .inl (cI, 2100, .inl go2))] H := hP
                        have hD : va_D A [(mx, .inr (2, [.int th, .int hf, .int (nI uu), .int col, .int mov, .ref aso, .ref ava, .ref ans, .ref anv, .ref ars, .ref arv, .int (nI (allL uu fo so rs rg).length), .ref ast, .ref ago])), (aso, .inl (cI, 2100, .inl so)), (ava, .inl (cI, 2100, .inl va)), (ans, .inl (cI, 2100, .inl (upd ns2 (nI (T9 + k)).toNatClampNeg (so (p9 + k))))), (anv, .inl (cI, 2100, .inl nv2)), (ars, .inl (cI, 8, .inl rs)), (arv, .inl (cI, 8, .inl rv)), (ast, .inl (cI, 2100, .inl st2)), (ago, .inl (cI, 2100, .inl go2))] := hD
                        rw [er3] at hP hD
                        have hP : va_P (dC, dI) vwCl [(mx, .inr (2, [.int th, .int hf, .int (nI uu), .int col, .int mov, .ref aso, .ref ava, .ref ans, .ref anv, .ref ars, .ref arv, .int (nI (allL uu fo so rs rg).length), .ref ast, .ref ago])), (aso, .inl (cI, 2100, .inl so)), (ava, .inl (cI, 2100, .inl va)), (ans, .inl (cI, 2100, .inl (upd ns2 (T9 + k) (so (p9 + k))))), (anv, .inl (cI, 2100, .inl nv2)), (ars, .inl (cI, 8, .inl rs)), (arv, .inl (cI, 8, .inl rv)), (ast, .inl (cI, 2100, .inl st2)), (ago, .inl (cI, 2100, .inl go2))] H := hP
                        have hD : va_D A [(mx, .inr (2, [.int th, .int hf, .int (nI uu), .int col, .int mov, .ref aso, .ref ava, .ref ans, .ref anv, .ref ars, .ref arv, .int (nI (allL uu fo so rs rg).length), .ref ast, .ref ago])), (aso, .inl (cI, 2100, .inl so)), (ava, .inl (cI, 2100, .inl va)), (ans, .inl (cI, 2100, .inl (upd ns2 (T9 + k) (so (p9 + k))))), (anv, .inl (cI, 2100, .inl nv2)), (ars, .inl (cI, 8, .inl rs)), (arv, .inl (cI, 8, .inl rv)), (ast, .inl (cI, 2100, .inl st2)), (ago, .inl (cI, 2100, .inl go2))] := hD
                        refine lv_aload_n hx hb dX2_gather_184 rfl (lv_at hl 1 rfl) ?_
                        refine va_get (D := (dC, dI)) (ci := 2) (v := .ref anv) (C := RX2) (T := TX2) (N := 14) hx hb ht iX2 hown hK hP 0 rfl rfl 8 (by decide) (ht _ g_334) (fun _ h9 => h9) rfl dX2_gather_185 ?_
                        refine lv_iload_n hx hb dX2_gather_188 rfl (lv_at hl 2 rfl) ?_
                        refine lv_aload_n hx hb dX2_gather_189 rfl (lv_at hl 1 rfl) ?_
                        refine va_get (D := (dC, dI)) (ci := 2) (v := .ref aso) (C := RX2) (T := TX2) (N := 14) hx hb ht iX2 hown hK hP 0 rfl rfl 5 (by decide) (ht _ g_331) (fun _ h9 => h9) rfl dX2_gather_190 ?_
                        refine lv_iload hx hb dX2_gather_193 (lv_at hl 0 rfl) ?_
                        refine va_iald hx hb hK hP 1 0 rfl rfl (vp_in_nI (by omega) (by decide)) dX2_gather_195 ?_
                        rw [er2]
                        refine lv_iconst (v := 2) hx hb dX2_gather_196 (by decide) ?_
                        refine lv_icmp_ne (tgt := 215) hx hb dX2_gather_197 (by decide) (fun c_8 => ?_) (fun c_8 => ?_)
                        · refine lv_aload_n hx hb dX2_gather_215 rfl (lv_at hl 1 rfl) ?_
                          refine va_get (D := (dC, dI)) (ci := 2) (v := .ref ava) (C := RX2) (T := TX2) (N := 14) hx hb ht iX2 hown hK hP 0 rfl rfl 6 (by decide) (ht _ g_332) (fun _ h9 => h9) rfl dX2_gather_216 ?_
                          refine lv_iload hx hb dX2_gather_219 (lv_at hl 0 rfl) ?_
                          refine va_iald hx hb hK hP 2 0 rfl rfl (vp_in_nI (by omega) (by decide)) dX2_gather_221 ?_
                          rw [er2]
                          refine va_iast hx hb hK hP hD hS 4 0 rfl rfl (vp_in_nI (by omega) (by decide)) dX2_gather_222 (fun H locs hP hD hS => ?_)
                          have hP : va_P (dC, dI) vwCl [(mx, .inr (2, [.int th, .int hf, .int (nI uu), .int col, .int mov, .ref aso, .ref ava, .ref ans, .ref anv, .ref ars, .ref arv, .int (nI (allL uu fo so rs rg).length), .ref ast, .ref ago])), (aso, .inl (cI, 2100, .inl so)), (ava, .inl (cI, 2100, .inl va)), (ans, .inl (cI, 2100, .inl (upd ns2 (T9 + k) (so (p9 + k))))), (anv, .inl (cI, 2100, .inl (upd nv2 (nI (T9 + k)).toNatClampNeg (va (p9 + k))))), (ars, .inl (cI, 8, .inl rs)), (arv, .inl (cI, 8, .inl rv)), (ast, .inl (cI, 2100, .inl st2)), (ago, .inl (cI, 2100, .inl go2))] H := hP
                          have hD : va_D A [(mx, .inr (2, [.int th, .int hf, .int (nI uu), .int col, .int mov, .ref aso, .ref ava, .ref ans, .ref anv, .ref ars, .ref arv, .int (nI (allL uu fo so rs rg).length), .ref ast, .ref ago])), (aso, .inl (cI, 2100, .inl so)), (ava, .inl (cI, 2100, .inl va)), (ans, .inl (cI, 2100, .inl (upd ns2 (T9 + k) (so (p9 + k))))), (anv, .inl (cI, 2100, .inl (upd nv2 (nI (T9 + k)).toNatClampNeg (va (p9 + k))))), (ars, .inl (cI, 8, .inl rs)), (arv, .inl (cI, 8, .inl rv)), (ast, .inl (cI, 2100, .inl st2)), (ago, .inl (cI, 2100, .inl go2))] := hD
                          rw [er3] at hP hD
                          have hP : va_P (dC, dI) vwCl [(mx, .inr (2, [.int th, .int hf, .int (nI uu), .int col, .int mov, .ref aso, .ref ava, .ref ans, .ref anv, .ref ars, .ref arv, .int (nI (allL uu fo so rs rg).length), .ref ast, .ref ago])), (aso, .inl (cI, 2100, .inl so)), (ava, .inl (cI, 2100, .inl va)), (ans, .inl (cI, 2100, .inl (upd ns2 (T9 + k) (so (p9 + k))))), (anv, .inl (cI, 2100, .inl (upd nv2 (T9 + k) (va (p9 + k))))), (ars, .inl (cI, 8, .inl rs)), (arv, .inl (cI, 8, .inl rv)), (ast, .inl (cI, 2100, .inl st2)), (ago, .inl (cI, 2100, .inl go2))] H := hP
                          have hD : va_D A [(mx, .inr (2, [.int th, .int hf, .int (nI uu), .int col, .int mov, .ref aso, .ref ava, .ref ans, .ref anv, .ref ars, .ref arv, .int (nI (allL uu fo so rs rg).length), .ref ast, .ref ago])), (aso, .inl (cI, 2100, .inl so)), (ava, .inl (cI, 2100, .inl va)), (ans, .inl (cI, 2100, .inl (upd ns2 (T9 + k) (so (p9 + k))))), (anv, .inl (cI, 2100, .inl (upd nv2 (T9 + k) (va (p9 + k))))), (ars, .inl (cI, 8, .inl rs)), (arv, .inl (cI, 8, .inl rv)), (ast, .inl (cI, 2100, .inl st2)), (ago, .inl (cI, 2100, .inl go2))] := hD
                          obtain ⟨x_9, ex_9⟩ : ∃ y : Int32, y = nI (T9 + k) + 1 := ⟨_, rfl⟩
                          refine lv_iinc (v := x_9) (lv' := [(1, .int x_9), (5, .int (nI (p9 + k))), (0, .ref mx), (2, .int (nI a9)), (3, .int (nI (oF fo p9 + 1))), (4, .int (nI k))]) hx hb dX2_gather_223 hl (k := 2) rfl (by rw [ex_9]; rfl) (by decide) rfl (fun ls hl => ?_)
                          obtain ⟨x_10, ex_10⟩ : ∃ y : Int32, y = nI k + 1 := ⟨_, rfl⟩
                          refine lv_iinc (v := x_10) (lv' := [(4, .int x_10), (1, .int x_9), (5, .int (nI (p9 + k))), (0, .ref mx), (2, .int (nI a9)), (3, .int (nI (oF fo p9 + 1)))]) hx hb dX2_gather_226 hl (k := 5) rfl (by rw [ex_10]; rfl) (by decide) rfl (fun ls hl => ?_)
                          refine lv_goto (tgt := 154) hx hb dX2_gather_229 (by decide) ?_
                          have e8 : srcA fo (allL uu fo so rs rg) (T9 + k) = p9 + k := hsr
                          have hm9 : va (p9 + k) = mvV fo so va (allL uu fo so rs rg) (T9 + k) := by unfold mvV; rw [e8, if_neg c_8]
                          rw [ex_10, nI_1] at hl
                          rw [ex_9, nI_1] at hl
                          exact ihF (k + 1) (upd ns2 (T9 + k) (so (p9 + k))) (upd nv2 (T9 + k) (va (p9 + k))) (by omega) (nvS hnv2 (show so (p9 + k) = so (srcA fo (allL uu fo so rs rg) (T9 + k)) by rw [e8]) hm9) _ _ ls hP hD hS (lv_sub hl [3, 1, 4, 5, 0] rfl)
                        · obtain ⟨q5, q6, q7, q8⟩ := hwf.2.2.2.2.1 (p9 + k) (by omega) c_8
                          have hpl : plc (fo (p9 + k)) = q5 := by rw [q8]; exact plcO (by omega)
                          have hqm : q5 ∈ (allL uu fo so rs rg) := by have q := hcA (T9 + k) (by omega) (by rw [hsr]; exact c_8); rw [hsr, hpl] at q; exact q
                          refine lv_aload_n hx hb dX2_gather_200 rfl (lv_at hl 1 rfl) ?_
                          refine va_get (D := (dC, dI)) (ci := 2) (v := .ref ago) (C := RX2) (T := TX2) (N := 14) hx hb ht iX2 hown hK hP 0 rfl rfl 13 (by decide) (ht _ g_339) (fun _ h9 => h9) rfl dX2_gather_201 ?_
                          refine lv_aload_n hx hb dX2_gather_204 rfl (lv_at hl 1 rfl) ?_
                          refine va_get (D := (dC, dI)) (ci := 2) (v := .ref ava) (C := RX2) (T := TX2) (N := 14) hx hb ht iX2 hown hK hP 0 rfl rfl 6 (by decide) (ht _ g_332) (fun _ h9 => h9) rfl dX2_gather_205 ?_
                          refine lv_iload hx hb dX2_gather_208 (lv_at hl 0 rfl) ?_
                          refine va_iald hx hb hK hP 2 0 rfl rfl (vp_in_nI (by omega) (by decide)) dX2_gather_210 ?_
                          rw [er2, (hva (p9 + k) (by omega)).2 c_8, hpl]
                          refine va_iald hx hb hK hP 8 0 rfl rfl (vp_in_nI (by omega) (by decide)) dX2_gather_211 ?_
                          rw [nI_clamp (show q5 < 2 ^ 31 by omega), hk2.2.2 q5 q6, if_pos hqm]
                          refine lv_goto (tgt := 222) hx hb dX2_gather_212 (by decide) ?_
                          refine va_iast hx hb hK hP hD hS 4 0 rfl rfl (vp_in_nI (by omega) (by decide)) dX2_gather_222 (fun H locs hP hD hS => ?_)
                          have hP : va_P (dC, dI) vwCl [(mx, .inr (2, [.int th, .int hf, .int (nI uu), .int col, .int mov, .ref aso, .ref ava, .ref ans, .ref anv, .ref ars, .ref arv, .int (nI (allL uu fo so rs rg).length), .ref ast, .ref ago])), (aso, .inl (cI, 2100, .inl so)), (ava, .inl (cI, 2100, .inl va)), (ans, .inl (cI, 2100, .inl (upd ns2 (T9 + k) (so (p9 + k))))), (anv, .inl (cI, 2100, .inl (upd nv2 (nI (T9 + k)).toNatClampNeg (nI (tgt fo (allL uu fo so rs rg) q5))))), (ars, .inl (cI, 8, .inl rs)), (arv, .inl (cI, 8, .inl rv)), (ast, .inl (cI, 2100, .inl st2)), (ago, .inl (cI, 2100, .inl go2))] H := hP
                          have hD : va_D A [(mx, .inr (2, [.int th, .int hf, .int (nI uu), .int col, .int mov, .ref aso, .ref ava, .ref ans, .ref anv, .ref ars, .ref arv, .int (nI (allL uu fo so rs rg).length), .ref ast, .ref ago])), (aso, .inl (cI, 2100, .inl so)), (ava, .inl (cI, 2100, .inl va)), (ans, .inl (cI, 2100, .inl (upd ns2 (T9 + k) (so (p9 + k))))), (anv, .inl (cI, 2100, .inl (upd nv2 (nI (T9 + k)).toNatClampNeg (nI (tgt fo (allL uu fo so rs rg) q5))))), (ars, .inl (cI, 8, .inl rs)), (arv, .inl (cI, 8, .inl rv)), (ast, .inl (cI, 2100, .inl st2)), (ago, .inl (cI, 2100, .inl go2))] := hD
                          rw [er3] at hP hD
                          have hP : va_P (dC, dI) vwCl [(mx, .inr (2, [.int th, .int hf, .int (nI uu), .int col, .int mov, .ref aso, .ref ava, .ref ans, .ref anv, .ref ars, .ref arv, .int (nI (allL uu fo so rs rg).length), .ref ast, .ref ago])), (aso, .inl (cI, 2100, .inl so)), (ava, .inl (cI, 2100, .inl va)), (ans, .inl (cI, 2100, .inl (upd ns2 (T9 + k) (so (p9 + k))))), (anv, .inl (cI, 2100, .inl (upd nv2 (T9 + k) (nI (tgt fo (allL uu fo so rs rg) q5))))), (ars, .inl (cI, 8, .inl rs)), (arv, .inl (cI, 8, .inl rv)), (ast, .inl (cI, 2100, .inl st2)), (ago, .inl (cI, 2100, .inl go2))] H := hP
                          have hD : va_D A [(mx, .inr (2, [.int th, .int hf, .int (nI uu), .int col, .int mov, .ref aso, .ref ava, .ref ans, .ref anv, .ref ars, .ref arv, .int (nI (allL uu fo so rs rg).length), .ref ast, .ref ago])), (aso, .inl (cI, 2100, .inl so)), (ava, .inl (cI, 2100, .inl va)), (ans, .inl (cI, 2100, .inl (upd ns2 (T9 + k) (so (p9 + k))))), (anv, .inl (cI, 2100, .inl (upd nv2 (T9 + k) (nI (tgt fo (allL uu fo so rs rg) q5))))), (ars, .inl (cI, 8, .inl rs)), (arv, .inl (cI, 8, .inl rv)), (ast, .inl (cI, 2100, .inl st2)), (ago, .inl (cI, 2100, .inl go2))] := hD
                          obtain ⟨x_11, ex_11⟩ : ∃ y : Int32, y = nI (T9 + k) + 1 := ⟨_, rfl⟩
                          refine lv_iinc (v := x_11) (lv' := [(1, .int x_11), (5, .int (nI (p9 + k))), (0, .ref mx), (2, .int (nI a9)), (3, .int (nI (oF fo p9 + 1))), (4, .int (nI k))]) hx hb dX2_gather_223 hl (k := 2) rfl (by rw [ex_11]; rfl) (by decide) rfl (fun ls hl => ?_)
                          obtain ⟨x_12, ex_12⟩ : ∃ y : Int32, y = nI k + 1 := ⟨_, rfl⟩
                          refine lv_iinc (v := x_12) (lv' := [(4, .int x_12), (1, .int x_11), (5, .int (nI (p9 + k))), (0, .ref mx), (2, .int (nI a9)), (3, .int (nI (oF fo p9 + 1)))]) hx hb dX2_gather_226 hl (k := 5) rfl (by rw [ex_12]; rfl) (by decide) rfl (fun ls hl => ?_)
                          refine lv_goto (tgt := 154) hx hb dX2_gather_229 (by decide) ?_
                          have e8 : srcA fo (allL uu fo so rs rg) (T9 + k) = p9 + k := hsr
                          have hm9 : nI (tgt fo (allL uu fo so rs rg) q5) = mvV fo so va (allL uu fo so rs rg) (T9 + k) := by unfold mvV; rw [e8, if_pos c_8, hpl]
                          rw [ex_12, nI_1] at hl
                          rw [ex_11, nI_1] at hl
                          exact ihF (k + 1) (upd ns2 (T9 + k) (so (p9 + k))) (upd nv2 (T9 + k) (nI (tgt fo (allL uu fo so rs rg) q5))) (by omega) (nvS hnv2 (show so (p9 + k) = so (srcA fo (allL uu fo so rs rg) (T9 + k)) by rw [e8]) hm9) _ _ ls hP hD hS (lv_sub hl [3, 1, 4, 5, 0] rfl)
                    exact hlF (oF fo p9 + 1) 0 ns1 nv1 (by omega) hnv _ _ ls hP hD hS (lv_sub hl [2, 3, 4, 1, 0] rfl)
                exact hlE ((allL uu fo so rs rg).length) 0 ns nv (by omega) (fun k hk => absurd hk (Nat.not_lt_zero k)) _ _ ls hP hD hS (lv_sub hl [2, 1, 0] rfl)
              · have hi9 : i < L.length := by
                  rcases Nat.lt_or_ge i L.length with q | q
                  · exact q
                  · exact absurd (nI_le q (by omega)) c_1
                obtain ⟨p9, hp9⟩ : ∃ p, p = List.getD L i 0 := ⟨_, rfl⟩
                obtain ⟨T9, hT9⟩ : ∃ T, T = tot fo (List.take i L) := ⟨_, rfl⟩
                have htk := take_tot (f := fo) hC.2.1 hi9
                rw [← hp9, ← hT9] at htk
                have htl := take_le (f := fo) L (i + 1)
                have hpm := hC.2.2 p9 htk.1
                have hh := hwf.2.2.2.1 p9 hpm.1 hpm.2
                have e5 : fX2_fieldsAt va (nI p9) = nI (oF fo p9) := mfI (by omega) hh.1 (hv0 p9 hpm.1 hpm.2)
                refine lv_aload_n hx hb dX2_gather_72 rfl (lv_at hl 0 rfl) ?_
                refine va_get (D := (dC, dI)) (ci := 2) (v := .ref ast) (C := RX2) (T := TX2) (N := 14) hx hb ht iX2 hown hK hP 0 rfl rfl 12 (by decide) (ht _ g_338) (fun _ h9 => h9) rfl dX2_gather_73 ?_
                refine lv_iload_n hx hb dX2_gather_76 rfl (lv_at hl 1 rfl) ?_
                refine va_iald hx hb hK hP 7 0 rfl rfl (vp_in_nI (by omega) (by decide)) dX2_gather_77 ?_
                rw [er, hk2.2.1 i hi9, ← hp9]
                refine lv_istore_n (lv' := [(2, .int (nI p9)), (0, .ref mx), (1, .int (nI i))]) hx hb dX2_gather_78 rfl hl (by decide) rfl (fun ls hl => ?_)
                refine lv_iconst (v := 1) hx hb dX2_gather_79 (by decide) ?_
                refine lv_istore_n (lv' := [(3, .int 1), (2, .int (nI p9)), (0, .ref mx), (1, .int (nI i))]) hx hb dX2_gather_80 rfl hl (by decide) rfl (fun ls hl => ?_)
                have hscD := scnH hC hi9 hsc
                rw [← hT9] at hscD
                have hlD : ∀ (d : Nat) (k : Nat) (L2 : List Nat) (sty3 : Int32) (st3 : Nat → Int32) (go3 : Nat → Int32), (hd2 : k + d = oF fo p9 + 1) → (hkge : 1 ≤ k) → (hC2 : CL uu n fo so L2) → (hi2 : i < L2.length) → (hp2 : L2.getD i 0 = p9) → (hT : tot fo (L2.take i) = T9) → (hkR : kR uu fo L2 sty3 st3 go3) → (hsc2 : scnL fo so (uu + 1 - (T9 + k)) L2 (T9 + k) = (allL uu fo so rs rg)) → ∀ (H : Heap) (locs : List Loc) (ls : Array Slot), va_P (dC, dI) vwCl [(mx, .inr (2, [.int th, .int hf, .int (nI uu), .int col, .int mov, .ref aso, .ref ava, .ref ans, .ref anv, .ref ars, .ref arv, .int sty3, .ref ast, .ref ago])), (aso, .inl (cI, 2100, .inl so)), (ava, .inl (cI, 2100, .inl va)), (ans, .inl (cI, 2100, .inl ns)), (anv, .inl (cI, 2100, .inl nv)), (ars, .inl (cI, 8, .inl rs)), (arv, .inl (cI, 8, .inl rv)), (ast, .inl (cI, 2100, .inl st3)), (ago, .inl (cI, 2100, .inl go3))] H → va_D A [(mx, .inr (2, [.int th, .int hf, .int (nI uu), .int col, .int mov, .ref aso, .ref ava, .ref ans, .ref anv, .ref ars, .ref arv, .int sty3, .ref ast, .ref ago])), (aso, .inl (cI, 2100, .inl so)), (ava, .inl (cI, 2100, .inl va)), (ans, .inl (cI, 2100, .inl ns)), (anv, .inl (cI, 2100, .inl nv)), (ars, .inl (cI, 8, .inl rs)), (arv, .inl (cI, 8, .inl rv)), (ast, .inl (cI, 2100, .inl st3)), (ago, .inl (cI, 2100, .inl go3))] → va_S A s.heap H locs → lv_has ls 6 [(0, .ref mx), (1, .int (nI i)), (2, .int (nI p9)), (3, .int (nI k))] → W p l e (headSpec (kX2_gather :: gT) ({ frames := 2, cells := 0, slots := 0, locals := 43 })).room s m ([.ref mx] : List Value).toArray below meth c H locs 0 0 (MQ below (va_Qi (fun (r : Int32) (u : Int32 × Int32 × Int32 × Int32 × (Nat → Int32) × (Nat → Int32) × (Nat → Int32) × (Nat → Int32) × (Nat → Int32) × (Nat → Int32) × Int32 × (Nat → Int32) × (Nat → Int32)) => r = nI (tot fo (allL uu fo so rs rg)) ∧ u.1 = th ∧ u.2.1 = nI (tot fo (allL uu fo so rs rg)) ∧ u.2.2.1 = col + 1 ∧ u.2.2.2.1 = mov + nI (tot fo (allL uu fo so rs rg)) ∧ (∀ k, k < tot fo (allL uu fo so rs rg) → u.2.2.2.2.1 k = so (srcA fo (allL uu fo so rs rg) k) ∧ u.2.2.2.2.2.1 k = mvV fo so va (allL uu fo so rs rg) k) ∧ u.2.2.2.2.2.2.2.2.1 = rs ∧ (∀ k, k < 8 → u.2.2.2.2.2.2.2.2.2.1 k = if rs k = 2 then nI (tgt fo (allL uu fo so rs rg) (plc (rg k))) else rv k)) (atX2_gather dC dI cI A mx aso ava ans anv ars arv ast ago hf) A) ([.ref mx] : List Value).toArray s 0 0 A) (F0 m 81 ls []) := by
                  intro d
                  induction d with
                  | zero =>
                    intro k L2 sty3 st3 go3 hd2 hkge hC2 hi2 hp2 hT hkR hsc2 H locs ls hP hD hS hl
                    refine lv_iload_n hx hb dX2_gather_81 rfl (lv_at hl 3 rfl) ?_
                    refine lv_aload_n hx hb dX2_gather_82 rfl (lv_at hl 0 rfl) ?_
                    refine lv_iload_n hx hb dX2_gather_83 rfl (lv_at hl 2 rfl) ?_
                    have hPc := hP.sub (ws' := [(mx, .inr (2, [.int th, .int hf, .int (nI uu), .int col, .int mov, .ref aso, .ref ava, .ref ans, .ref anv, .ref ars, .ref arv, .int sty3, .ref ast, .ref ago])), (aso, .inl (cI, 2100, .inl so)), (ava, .inl (cI, 2100, .inl va)), (ans, .inl (cI, 2100, .inl ns)), (anv, .inl (cI, 2100, .inl nv)), (ars, .inl (cI, 8, .inl rs)), (arv, .inl (cI, 8, .inl rv)), (ast, .inl (cI, 2100, .inl st3)), (ago, .inl (cI, 2100, .inl go3))]) [0, 1, 2, 3, 4, 5, 6, 7, 8] rfl
                    have hKc := hK.sub (tys' := [(cI, .int)]) [0] rfl
                    refine vp_callSi (va_runV (As := [.int (nI p9)]) (rest := [.int (nI k)]) ⟨hx, hb, hml, hown, ht⟩ (ctX2_fieldsAt l dC dI cI mx aso ava ans anv ars arv ast ago th hf (nI uu) col mov sty3 so va ns nv rs rv st3 go3 (nI p9) (vp_in_nI (by omega) (by decide))) (cwV 1 ht gcX2_44 rfl rfl rfl (by decide +kernel) ⟨Nat.le_of_ble_eq_true rfl, Nat.le_of_ble_eq_true rfl⟩) ⟨pS.blind, va_recv hKc hPc (ci := 2) (q0 := 0) rfl rfl, pS.call hPc hKc hE⟩ rfl rfl hl.1 rfl (lv_room (Nat.le_of_ble_eq_true rfl)) dX2_gather_84 ⟨Nat.le_of_ble_eq_true rfl, Nat.le_of_ble_eq_true rfl⟩).run (fun r_13 hr_13 => ?_)
                    subst hr_13
                    rw [e5]
                    refine lv_icmp_gt (tgt := 120) hx hb dX2_gather_87 (by decide) (fun _ => ?_) (fun h => absurd (nI_lt (by omega) (by omega)) h)
                    obtain ⟨x_14, ex_14⟩ : ∃ y : Int32, y = nI i + 1 := ⟨_, rfl⟩
                    refine lv_iinc (v := x_14) (lv' := [(1, .int x_14), (0, .ref mx), (2, .int (nI p9)), (3, .int (nI k))]) hx hb dX2_gather_120 hl (k := 1) rfl (by rw [ex_14]; rfl) (by decide) rfl (fun ls hl => ?_)
                    refine lv_goto (tgt := 64) hx hb dX2_gather_123 (by decide) ?_
                    have hk9 : k = oF fo p9 + 1 := by omega
                    rw [ex_14, nI_1] at hl
                    exact ihC (i + 1) L2 sty3 st3 go3 (by omega) hC2 hi2 hkR (by rw [(take_tot (f := fo) hC2.2.1 hi2).2.2, hT, hp2, Nat.add_assoc, ← hk9]; exact hsc2) _ _ ls hP hD hS (lv_sub hl [1, 0] rfl)
                  | succ d ihD =>
                    intro k L2 sty3 st3 go3 hd2 hkge hC2 hi2 hp2 hT hkR hsc2 H locs ls hP hD hS hl
                    have er2 : (nI (p9 + k)).toNatClampNeg = p9 + k := nI_clamp (by omega)
                    refine lv_iload_n hx hb dX2_gather_81 rfl (lv_at hl 3 rfl) ?_
                    refine lv_aload_n hx hb dX2_gather_82 rfl (lv_at hl 0 rfl) ?_
                    refine lv_iload_n hx hb dX2_gather_83 rfl (lv_at hl 2 rfl) ?_
                    have hPc := hP.sub (ws' := [(mx, .inr (2, [.int th, .int hf, .int (nI uu), .int col, .int mov, .ref aso, .ref ava, .ref ans, .ref anv, .ref ars, .ref arv, .int sty3, .ref ast, .ref ago])), (aso, .inl (cI, 2100, .inl so)), (ava, .inl (cI, 2100, .inl va)), (ans, .inl (cI, 2100, .inl ns)), (anv, .inl (cI, 2100, .inl nv)), (ars, .inl (cI, 8, .inl rs)), (arv, .inl (cI, 8, .inl rv)), (ast, .inl (cI, 2100, .inl st3)), (ago, .inl (cI, 2100, .inl go3))]) [0, 1, 2, 3, 4, 5, 6, 7, 8] rfl
                    have hKc := hK.sub (tys' := [(cI, .int)]) [0] rfl
                    refine vp_callSi (va_runV (As := [.int (nI p9)]) (rest := [.int (nI k)]) ⟨hx, hb, hml, hown, ht⟩ (ctX2_fieldsAt l dC dI cI mx aso ava ans anv ars arv ast ago th hf (nI uu) col mov sty3 so va ns nv rs rv st3 go3 (nI p9) (vp_in_nI (by omega) (by decide))) (cwV 1 ht gcX2_44 rfl rfl rfl (by decide +kernel) ⟨Nat.le_of_ble_eq_true rfl, Nat.le_of_ble_eq_true rfl⟩) ⟨pS.blind, va_recv hKc hPc (ci := 2) (q0 := 0) rfl rfl, pS.call hPc hKc hE⟩ rfl rfl hl.1 rfl (lv_room (Nat.le_of_ble_eq_true rfl)) dX2_gather_84 ⟨Nat.le_of_ble_eq_true rfl, Nat.le_of_ble_eq_true rfl⟩).run (fun r_15 hr_15 => ?_)
                    subst hr_15
                    rw [e5]
                    refine lv_icmp_gt (tgt := 120) hx hb dX2_gather_87 (by decide) (fun h => absurd h (nI_nlt (by omega) (by omega))) (fun _ => ?_)
                    refine lv_aload_n hx hb dX2_gather_90 rfl (lv_at hl 0 rfl) ?_
                    refine va_get (D := (dC, dI)) (ci := 2) (v := .ref aso) (C := RX2) (T := TX2) (N := 14) hx hb ht iX2 hown hK hP 0 rfl rfl 5 (by decide) (ht _ g_331) (fun _ h9 => h9) rfl dX2_gather_91 ?_
                    refine lv_iload_n hx hb dX2_gather_94 rfl (lv_at hl 2 rfl) ?_
                    refine lv_iload_n hx hb dX2_gather_95 rfl (lv_at hl 3 rfl) ?_
                    refine lv_iadd hx hb dX2_gather_96 ?_
                    rw [nI_add]
                    refine va_iald hx hb hK hP 1 0 rfl rfl (vp_in_nI (by omega) (by decide)) dX2_gather_97 ?_
                    rw [er2]
                    refine lv_iconst (v := 2) hx hb dX2_gather_98 (by decide) ?_
                    refine lv_icmp_ne (tgt := 114) hx hb dX2_gather_99 (by decide) (fun c_16 => ?_) (fun c_16 => ?_)
                    · obtain ⟨x_17, ex_17⟩ : ∃ y : Int32, y = nI k + 1 := ⟨_, rfl⟩
                      refine lv_iinc (v := x_17) (lv' := [(3, .int x_17), (0, .ref mx), (1, .int (nI i)), (2, .int (nI p9))]) hx hb dX2_gather_114 hl (k := 3) rfl (by rw [ex_17]; rfl) (by decide) rfl (fun ls hl => ?_)
                      refine lv_goto (tgt := 81) hx hb dX2_gather_117 (by decide) ?_
                      have hq9 := scnF (A := (allL uu fo so rs rg)) hC2 hi2 hkge (by rw [hp2]; omega) (by rw [hT]; exact hsc2)
                      rw [hp2, hT] at hq9
                      rw [if_neg c_16] at hq9
                      rw [ex_17, nI_1] at hl
                      exact ihD (k + 1) L2 sty3 st3 go3 (by omega) (by omega) hC2 hi2 hp2 hT hkR hq9 _ _ ls hP hD hS (lv_sub hl [1, 2, 3, 0] rfl)
                    · obtain ⟨q5, q6, q7, q8⟩ := hwf.2.2.2.2.1 (p9 + k) (by omega) c_16
                      have hpl : plc (fo (p9 + k)) = q5 := by rw [q8]; exact plcO (by omega)
                      refine lv_aload_n hx hb dX2_gather_102 rfl (lv_at hl 0 rfl) ?_
                      refine lv_aload_n hx hb dX2_gather_103 rfl (lv_at hl 0 rfl) ?_
                      refine va_get (D := (dC, dI)) (ci := 2) (v := .ref ava) (C := RX2) (T := TX2) (N := 14) hx hb ht iX2 hown hK hP 0 rfl rfl 6 (by decide) (ht _ g_332) (fun _ h9 => h9) rfl dX2_gather_104 ?_
                      refine lv_iload_n hx hb dX2_gather_107 rfl (lv_at hl 2 rfl) ?_
                      refine lv_iload_n hx hb dX2_gather_108 rfl (lv_at hl 3 rfl) ?_
                      refine lv_iadd hx hb dX2_gather_109 ?_
                      rw [nI_add]
                      refine va_iald hx hb hK hP 2 0 rfl rfl (vp_in_nI (by omega) (by decide)) dX2_gather_110 ?_
                      rw [er2, (hva (p9 + k) (by omega)).2 c_16, hpl]
                      have hPc := hP.sub (ws' := [(mx, .inr (2, [.int th, .int hf, .int (nI uu), .int col, .int mov, .ref aso, .ref ava, .ref ans, .ref anv, .ref ars, .ref arv, .int sty3, .ref ast, .ref ago])), (aso, .inl (cI, 2100, .inl so)), (ava, .inl (cI, 2100, .inl va)), (ans, .inl (cI, 2100, .inl ns)), (anv, .inl (cI, 2100, .inl nv)), (ars, .inl (cI, 8, .inl rs)), (arv, .inl (cI, 8, .inl rv)), (ast, .inl (cI, 2100, .inl st3)), (ago, .inl (cI, 2100, .inl go3))]) [0, 1, 2, 3, 4, 5, 6, 7, 8] rfl
                      have hKc := hK.sub (tys' := [(cI, .int)]) [0] rfl
                      have hDc := hD.sub (ws' := [(mx, .inr (2, [.int th, .int hf, .int (nI uu), .int col, .int mov, .ref aso, .ref ava, .ref ans, .ref anv, .ref ars, .ref arv, .int sty3, .ref ast, .ref ago])), (aso, .inl (cI, 2100, .inl so)), (ava, .inl (cI, 2100, .inl va)), (ans, .inl (cI, 2100, .inl ns)), (anv, .inl (cI, 2100, .inl nv)), (ars, .inl (cI, 8, .inl rs)), (arv, .inl (cI, 8, .inl rv)), (ast, .inl (cI, 2100, .inl st3)), (ago, .inl (cI, 2100, .inl go3))]) [0, 1, 2, 3, 4, 5, 6, 7, 8] (by decide) rfl
                      have hFc := va_free (wc := [(mx, .inr (2, [.int th, .int hf, .int (nI uu), .int col, .int mov, .ref aso, .ref ava, .ref ans, .ref anv, .ref ars, .ref arv, .int sty3, .ref ast, .ref ago])), (aso, .inl (cI, 2100, .inl so)), (ava, .inl (cI, 2100, .inl va)), (ans, .inl (cI, 2100, .inl ns)), (anv, .inl (cI, 2100, .inl nv)), (ars, .inl (cI, 8, .inl rs)), (arv, .inl (cI, 8, .inl rv)), (ast, .inl (cI, 2100, .inl st3)), (ago, .inl (cI, 2100, .inl go3))]) hD hS hA [0, 1, 2, 3, 4, 5, 6, 7, 8] rfl
                      refine va_callv (va_runV (As := [.int (nI q5)]) (rest := []) ⟨hx, hb, hml, hown, ht⟩ (ctX2_keep l dC dI cI mx aso ava ans anv ars arv ast ago th hf (nI uu) col mov sty3 so va ns nv rs rv st3 go3 (nI q5) _ (vp_in_nI (by omega) (by decide)) (keepHyp hC2 hkR).1 (keepHyp hC2 hkR).2) (cwV 1 ht gcX2_51 rfl rfl rfl (by decide +kernel) ⟨Nat.le_of_ble_eq_true rfl, Nat.le_of_ble_eq_true rfl⟩) ⟨pM.blind, va_recv hKc hPc (ci := 2) (q0 := 0) rfl rfl, pM.call hPc hKc hDc hE⟩ rfl rfl hl.1 rfl (lv_room (Nat.le_of_ble_eq_true rfl)) dX2_gather_111 ⟨Nat.le_of_ble_eq_true rfl, Nat.le_of_ble_eq_true rfl⟩) hS (fun q _ h => hFc q h) hFc (fun u_18 t H1 locs ht9 hvm hw hB hz1 hk1 hS => ?_)
                      subst hw
                      obtain ⟨hP1, hK1, hD1⟩ := hB
                      rw [ht9] at hP1
                      obtain ⟨hP, hD⟩ := va_join (wr := []) (w1 := [(mx, .inr (2, [.int ((fX2_keep th (nI uu) col mov so va ns nv rs rv sty3 st3 go3 (nI q5)).1), .int hf, .int ((fX2_keep th (nI uu) col mov so va ns nv rs rv sty3 st3 go3 (nI q5)).2.1), .int ((fX2_keep th (nI uu) col mov so va ns nv rs rv sty3 st3 go3 (nI q5)).2.2.1), .int ((fX2_keep th (nI uu) col mov so va ns nv rs rv sty3 st3 go3 (nI q5)).2.2.2.1), .ref aso, .ref ava, .ref ans, .ref anv, .ref ars, .ref arv, .int ((fX2_keep th (nI uu) col mov so va ns nv rs rv sty3 st3 go3 (nI q5)).2.2.2.2.2.2.2.2.2.2.1), .ref ast, .ref ago])), (aso, .inl (cI, 2100, .inl ((fX2_keep th (nI uu) col mov so va ns nv rs rv sty3 st3 go3 (nI q5)).2.2.2.2.1))), (ava, .inl (cI, 2100, .inl ((fX2_keep th (nI uu) col mov so va ns nv rs rv sty3 st3 go3 (nI q5)).2.2.2.2.2.1))), (ans, .inl (cI, 2100, .inl ((fX2_keep th (nI uu) col mov so va ns nv rs rv sty3 st3 go3 (nI q5)).2.2.2.2.2.2.1))), (anv, .inl (cI, 2100, .inl ((fX2_keep th (nI uu) col mov so va ns nv rs rv sty3 st3 go3 (nI q5)).2.2.2.2.2.2.2.1))), (ars, .inl (cI, 8, .inl ((fX2_keep th (nI uu) col mov so va ns nv rs rv sty3 st3 go3 (nI q5)).2.2.2.2.2.2.2.2.1))), (arv, .inl (cI, 8, .inl ((fX2_keep th (nI uu) col mov so va ns nv rs rv sty3 st3 go3 (nI q5)).2.2.2.2.2.2.2.2.2.1))), (ast, .inl (cI, 2100, .inl ((fX2_keep th (nI uu) col mov so va ns nv rs rv sty3 st3 go3 (nI q5)).2.2.2.2.2.2.2.2.2.2.2.1))), (ago, .inl (cI, 2100, .inl ((fX2_keep th (nI uu) col mov so va ns nv rs rv sty3 st3 go3 (nI q5)).2.2.2.2.2.2.2.2.2.2.2.2)))]) hP hD [0, 1, 2, 3, 4, 5, 6, 7, 8] [] rfl rfl (by decide) (by decide) hk1 hFc hP1 hD1
                      generalize H1 = H at hP hS ⊢
                      have hP := hP.sub (ws' := [(mx, .inr (2, [.int ((fX2_keep th (nI uu) col mov so va ns nv rs rv sty3 st3 go3 (nI q5)).1), .int hf, .int ((fX2_keep th (nI uu) col mov so va ns nv rs rv sty3 st3 go3 (nI q5)).2.1), .int ((fX2_keep th (nI uu) col mov so va ns nv rs rv sty3 st3 go3 (nI q5)).2.2.1), .int ((fX2_keep th (nI uu) col mov so va ns nv rs rv sty3 st3 go3 (nI q5)).2.2.2.1), .ref aso, .ref ava, .ref ans, .ref anv, .ref ars, .ref arv, .int ((fX2_keep th (nI uu) col mov so va ns nv rs rv sty3 st3 go3 (nI q5)).2.2.2.2.2.2.2.2.2.2.1), .ref ast, .ref ago])), (aso, .inl (cI, 2100, .inl ((fX2_keep th (nI uu) col mov so va ns nv rs rv sty3 st3 go3 (nI q5)).2.2.2.2.1))), (ava, .inl (cI, 2100, .inl ((fX2_keep th (nI uu) col mov so va ns nv rs rv sty3 st3 go3 (nI q5)).2.2.2.2.2.1))), (ans, .inl (cI, 2100, .inl ((fX2_keep th (nI uu) col mov so va ns nv rs rv sty3 st3 go3 (nI q5)).2.2.2.2.2.2.1))), (anv, .inl (cI, 2100, .inl ((fX2_keep th (nI uu) col mov so va ns nv rs rv sty3 st3 go3 (nI q5)).2.2.2.2.2.2.2.1))), (ars, .inl (cI, 8, .inl ((fX2_keep th (nI uu) col mov so va ns nv rs rv sty3 st3 go3 (nI q5)).2.2.2.2.2.2.2.2.1))), (arv, .inl (cI, 8, .inl ((fX2_keep th (nI uu) col mov so va ns nv rs rv sty3 st3 go3 (nI q5)).2.2.2.2.2.2.2.2.2.1))), (ast, .inl (cI, 2100, .inl ((fX2_keep th (nI uu) col mov so va ns nv rs rv sty3 st3 go3 (nI q5)).2.2.2.2.2.2.2.2.2.2.2.1))), (ago, .inl (cI, 2100, .inl ((fX2_keep th (nI uu) col mov so va ns nv rs rv sty3 st3 go3 (nI q5)).2.2.2.2.2.2.2.2.2.2.2.2)))]) [0, 1, 2, 3, 4, 5, 6, 7, 8] rfl
                      have hD := hD.sub (ws' := [(mx, .inr (2, [.int ((fX2_keep th (nI uu) col mov so va ns nv rs rv sty3 st3 go3 (nI q5)).1), .int hf, .int ((fX2_keep th (nI uu) col mov so va ns nv rs rv sty3 st3 go3 (nI q5)).2.1), .int ((fX2_keep th (nI uu) col mov so va ns nv rs rv sty3 st3 go3 (nI q5)).2.2.1), .int ((fX2_keep th (nI uu) col mov so va ns nv rs rv sty3 st3 go3 (nI q5)).2.2.2.1), .ref aso, .ref ava, .ref ans, .ref anv, .ref ars, .ref arv, .int ((fX2_keep th (nI uu) col mov so va ns nv rs rv sty3 st3 go3 (nI q5)).2.2.2.2.2.2.2.2.2.2.1), .ref ast, .ref ago])), (aso, .inl (cI, 2100, .inl ((fX2_keep th (nI uu) col mov so va ns nv rs rv sty3 st3 go3 (nI q5)).2.2.2.2.1))), (ava, .inl (cI, 2100, .inl ((fX2_keep th (nI uu) col mov so va ns nv rs rv sty3 st3 go3 (nI q5)).2.2.2.2.2.1))), (ans, .inl (cI, 2100, .inl ((fX2_keep th (nI uu) col mov so va ns nv rs rv sty3 st3 go3 (nI q5)).2.2.2.2.2.2.1))), (anv, .inl (cI, 2100, .inl ((fX2_keep th (nI uu) col mov so va ns nv rs rv sty3 st3 go3 (nI q5)).2.2.2.2.2.2.2.1))), (ars, .inl (cI, 8, .inl ((fX2_keep th (nI uu) col mov so va ns nv rs rv sty3 st3 go3 (nI q5)).2.2.2.2.2.2.2.2.1))), (arv, .inl (cI, 8, .inl ((fX2_keep th (nI uu) col mov so va ns nv rs rv sty3 st3 go3 (nI q5)).2.2.2.2.2.2.2.2.2.1))), (ast, .inl (cI, 2100, .inl ((fX2_keep th (nI uu) col mov so va ns nv rs rv sty3 st3 go3 (nI q5)).2.2.2.2.2.2.2.2.2.2.2.1))), (ago, .inl (cI, 2100, .inl ((fX2_keep th (nI uu) col mov so va ns nv rs rv sty3 st3 go3 (nI q5)).2.2.2.2.2.2.2.2.2.2.2.2)))]) [0, 1, 2, 3, 4, 5, 6, 7, 8] (by decide) rfl
                      obtain ⟨sty9, st9, go9, e9, hk9⟩ := keepL (va := va) (th := th) (us := nI uu) (col := col) (mov := mov) (ns := ns) (nv := nv) (rs := rs) (rv := rv) hC2 hkR hv0 q6 q7
                      rw [e9] at hP hD
                      have hP : va_P (dC, dI) vwCl [(mx, .inr (2, [.int th, .int hf, .int (nI uu), .int col, .int mov, .ref aso, .ref ava, .ref ans, .ref anv, .ref ars, .ref arv, .int sty9, .ref ast, .ref ago])), (aso, .inl (cI, 2100, .inl so)), (ava, .inl (cI, 2100, .inl va)), (ans, .inl (cI, 2100, .inl ns)), (anv, .inl (cI, 2100, .inl nv)), (ars, .inl (cI, 8, .inl rs)), (arv, .inl (cI, 8, .inl rv)), (ast, .inl (cI, 2100, .inl st9)), (ago, .inl (cI, 2100, .inl go9))] H := hP
                      have hD : va_D A [(mx, .inr (2, [.int th, .int hf, .int (nI uu), .int col, .int mov, .ref aso, .ref ava, .ref ans, .ref anv, .ref ars, .ref arv, .int sty9, .ref ast, .ref ago])), (aso, .inl (cI, 2100, .inl so)), (ava, .inl (cI, 2100, .inl va)), (ans, .inl (cI, 2100, .inl ns)), (anv, .inl (cI, 2100, .inl nv)), (ars, .inl (cI, 8, .inl rs)), (arv, .inl (cI, 8, .inl rv)), (ast, .inl (cI, 2100, .inl st9)), (ago, .inl (cI, 2100, .inl go9))] := hD
                      obtain ⟨x_19, ex_19⟩ : ∃ y : Int32, y = nI k + 1 := ⟨_, rfl⟩
                      refine lv_iinc (v := x_19) (lv' := [(3, .int x_19), (0, .ref mx), (1, .int (nI i)), (2, .int (nI p9))]) hx hb dX2_gather_114 hl (k := 3) rfl (by rw [ex_19]; rfl) (by decide) rfl (fun ls hl => ?_)
                      refine lv_goto (tgt := 81) hx hb dX2_gather_117 (by decide) ?_
                      have hq9 := scnF (A := (allL uu fo so rs rg)) hC2 hi2 hkge (by rw [hp2]; omega) (by rw [hT]; exact hsc2)
                      rw [hp2, hT] at hq9
                      rw [if_pos c_16, hpl] at hq9
                      obtain ⟨M9, hM9⟩ := kpL_ext L2 q5
                      have hx9 := take_ext (M := M9) hi2
                      rw [ex_19, nI_1] at hl
                      exact ihD (k + 1) (kpL L2 q5) sty9 st9 go9 (by omega) (by omega) (hC2.kp q6 q7) (by rw [hM9]; exact hx9.1) (by rw [hM9, hx9.2.1]; exact hp2) (by rw [hM9, hx9.2.2]; exact hT) hk9 hq9 _ _ ls hP hD hS (lv_sub hl [1, 2, 3, 0] rfl)
                exact hlD (oF fo p9) 1 L (nI L.length) st2 go2 (by omega) (Nat.le_refl _) hC hi9 hp9.symm hT9.symm hk2 hscD _ _ ls hP hD hS (lv_sub hl [2, 3, 1, 0] rfl)
          exact hlC (uu + 1) 0 (regL rs rg 8) sty1 st1 go1 (by omega) hC8 (Nat.zero_le _) hk rfl _ _ ls hP hD hS (lv_sub hl [1, 0] rfl)
        | succ d ihB =>
          intro r sty1 st1 go1 hd hk H locs ls hP hD hS hl
          have er : (nI r).toNatClampNeg = r := nI_clamp (by omega)
          have hC := regCL hwf hrg r (by omega)
          refine lv_iload_n hx hb dX2_gather_30 rfl (lv_at hl 1 rfl) ?_
          refine lv_bipush (v := 8) hx hb dX2_gather_31 (by decide) ?_
          refine lv_icmp_ge (tgt := 62) hx hb dX2_gather_33 (by decide) (fun h => absurd h (by rw [show (8 : Int32) = nI 8 from rfl]; exact nI_ge (by omega) (by decide))) (fun _ => ?_)
          refine lv_aload_n hx hb dX2_gather_36 rfl (lv_at hl 0 rfl) ?_
          refine va_get (D := (dC, dI)) (ci := 2) (v := .ref ars) (C := RX2) (T := TX2) (N := 14) hx hb ht iX2 hown hK hP 0 rfl rfl 9 (by decide) (ht _ g_335) (fun _ h9 => h9) rfl dX2_gather_37 ?_
          refine lv_iload_n hx hb dX2_gather_40 rfl (lv_at hl 1 rfl) ?_
          refine va_iald hx hb hK hP 5 0 rfl rfl (vp_in_nI (by omega) (by decide)) dX2_gather_41 ?_
          rw [er]
          refine lv_iconst (v := 2) hx hb dX2_gather_42 (by decide) ?_
          refine lv_icmp_ne (tgt := 56) hx hb dX2_gather_43 (by decide) (fun c_20 => ?_) (fun c_20 => ?_)
          · obtain ⟨x_21, ex_21⟩ : ∃ y : Int32, y = nI r + 1 := ⟨_, rfl⟩
            refine lv_iinc (v := x_21) (lv' := [(1, .int x_21), (0, .ref mx)]) hx hb dX2_gather_56 hl (k := 1) rfl (by rw [ex_21]; rfl) (by decide) rfl (fun ls hl => ?_)
            refine lv_goto (tgt := 30) hx hb dX2_gather_59 (by decide) ?_
            rw [ex_21, nI_1] at hl
            exact ihB (r + 1) sty1 st1 go1 (by omega) (by rw [regL_num c_20]; exact hk) _ _ ls hP hD hS (lv_sub hl [1, 0] rfl)
          · obtain ⟨q1, q5, q6, q7, q8⟩ := (hrg r (by omega)).resolve_right (fun q => q.1 c_20)
            have hpl : plc (rg r) = q5 := by rw [q8]; exact plcO (by omega)
            refine lv_aload_n hx hb dX2_gather_46 rfl (lv_at hl 0 rfl) ?_
            refine lv_aload_n hx hb dX2_gather_47 rfl (lv_at hl 0 rfl) ?_
            refine va_get (D := (dC, dI)) (ci := 2) (v := .ref arv) (C := RX2) (T := TX2) (N := 14) hx hb ht iX2 hown hK hP 0 rfl rfl 10 (by decide) (ht _ g_336) (fun _ h9 => h9) rfl dX2_gather_48 ?_
            refine lv_iload_n hx hb dX2_gather_51 rfl (lv_at hl 1 rfl) ?_
            refine va_iald hx hb hK hP 6 0 rfl rfl (vp_in_nI (by omega) (by decide)) dX2_gather_52 ?_
            rw [er, hrv r (by omega) q1, hpl]
            have hPc := hP.sub (ws' := [(mx, .inr (2, [.int th, .int hf, .int (nI uu), .int col, .int mov, .ref aso, .ref ava, .ref ans, .ref anv, .ref ars, .ref arv, .int sty1, .ref ast, .ref ago])), (aso, .inl (cI, 2100, .inl so)), (ava, .inl (cI, 2100, .inl va)), (ans, .inl (cI, 2100, .inl ns)), (anv, .inl (cI, 2100, .inl nv)), (ars, .inl (cI, 8, .inl rs)), (arv, .inl (cI, 8, .inl rv)), (ast, .inl (cI, 2100, .inl st1)), (ago, .inl (cI, 2100, .inl go1))]) [0, 1, 2, 3, 4, 5, 6, 7, 8] rfl
            have hKc := hK.sub (tys' := [(cI, .int)]) [0] rfl
            have hDc := hD.sub (ws' := [(mx, .inr (2, [.int th, .int hf, .int (nI uu), .int col, .int mov, .ref aso, .ref ava, .ref ans, .ref anv, .ref ars, .ref arv, .int sty1, .ref ast, .ref ago])), (aso, .inl (cI, 2100, .inl so)), (ava, .inl (cI, 2100, .inl va)), (ans, .inl (cI, 2100, .inl ns)), (anv, .inl (cI, 2100, .inl nv)), (ars, .inl (cI, 8, .inl rs)), (arv, .inl (cI, 8, .inl rv)), (ast, .inl (cI, 2100, .inl st1)), (ago, .inl (cI, 2100, .inl go1))]) [0, 1, 2, 3, 4, 5, 6, 7, 8] (by decide) rfl
            have hFc := va_free (wc := [(mx, .inr (2, [.int th, .int hf, .int (nI uu), .int col, .int mov, .ref aso, .ref ava, .ref ans, .ref anv, .ref ars, .ref arv, .int sty1, .ref ast, .ref ago])), (aso, .inl (cI, 2100, .inl so)), (ava, .inl (cI, 2100, .inl va)), (ans, .inl (cI, 2100, .inl ns)), (anv, .inl (cI, 2100, .inl nv)), (ars, .inl (cI, 8, .inl rs)), (arv, .inl (cI, 8, .inl rv)), (ast, .inl (cI, 2100, .inl st1)), (ago, .inl (cI, 2100, .inl go1))]) hD hS hA [0, 1, 2, 3, 4, 5, 6, 7, 8] rfl
            refine va_callv (va_runV (As := [.int (nI q5)]) (rest := []) ⟨hx, hb, hml, hown, ht⟩ (ctX2_keep l dC dI cI mx aso ava ans anv ars arv ast ago th hf (nI uu) col mov sty1 so va ns nv rs rv st1 go1 (nI q5) _ (vp_in_nI (by omega) (by decide)) (keepHyp hC hk).1 (keepHyp hC hk).2) (cwV 1 ht gcX2_51 rfl rfl rfl (by decide +kernel) ⟨Nat.le_of_ble_eq_true rfl, Nat.le_of_ble_eq_true rfl⟩) ⟨pM.blind, va_recv hKc hPc (ci := 2) (q0 := 0) rfl rfl, pM.call hPc hKc hDc hE⟩ rfl rfl hl.1 rfl (lv_room (Nat.le_of_ble_eq_true rfl)) dX2_gather_53 ⟨Nat.le_of_ble_eq_true rfl, Nat.le_of_ble_eq_true rfl⟩) hS (fun q _ h => hFc q h) hFc (fun u_22 t H1 locs ht9 hvm hw hB hz1 hk1 hS => ?_)
            subst hw
            obtain ⟨hP1, hK1, hD1⟩ := hB
            rw [ht9] at hP1
            obtain ⟨hP, hD⟩ := va_join (wr := []) (w1 := [(mx, .inr (2, [.int ((fX2_keep th (nI uu) col mov so va ns nv rs rv sty1 st1 go1 (nI q5)).1), .int hf, .int ((fX2_keep th (nI uu) col mov so va ns nv rs rv sty1 st1 go1 (nI q5)).2.1), .int ((fX2_keep th (nI uu) col mov so va ns nv rs rv sty1 st1 go1 (nI q5)).2.2.1), .int ((fX2_keep th (nI uu) col mov so va ns nv rs rv sty1 st1 go1 (nI q5)).2.2.2.1), .ref aso, .ref ava, .ref ans, .ref anv, .ref ars, .ref arv, .int ((fX2_keep th (nI uu) col mov so va ns nv rs rv sty1 st1 go1 (nI q5)).2.2.2.2.2.2.2.2.2.2.1), .ref ast, .ref ago])), (aso, .inl (cI, 2100, .inl ((fX2_keep th (nI uu) col mov so va ns nv rs rv sty1 st1 go1 (nI q5)).2.2.2.2.1))), (ava, .inl (cI, 2100, .inl ((fX2_keep th (nI uu) col mov so va ns nv rs rv sty1 st1 go1 (nI q5)).2.2.2.2.2.1))), (ans, .inl (cI, 2100, .inl ((fX2_keep th (nI uu) col mov so va ns nv rs rv sty1 st1 go1 (nI q5)).2.2.2.2.2.2.1))), (anv, .inl (cI, 2100, .inl ((fX2_keep th (nI uu) col mov so va ns nv rs rv sty1 st1 go1 (nI q5)).2.2.2.2.2.2.2.1))), (ars, .inl (cI, 8, .inl ((fX2_keep th (nI uu) col mov so va ns nv rs rv sty1 st1 go1 (nI q5)).2.2.2.2.2.2.2.2.1))), (arv, .inl (cI, 8, .inl ((fX2_keep th (nI uu) col mov so va ns nv rs rv sty1 st1 go1 (nI q5)).2.2.2.2.2.2.2.2.2.1))), (ast, .inl (cI, 2100, .inl ((fX2_keep th (nI uu) col mov so va ns nv rs rv sty1 st1 go1 (nI q5)).2.2.2.2.2.2.2.2.2.2.2.1))), (ago, .inl (cI, 2100, .inl ((fX2_keep th (nI uu) col mov so va ns nv rs rv sty1 st1 go1 (nI q5)).2.2.2.2.2.2.2.2.2.2.2.2)))]) hP hD [0, 1, 2, 3, 4, 5, 6, 7, 8] [] rfl rfl (by decide) (by decide) hk1 hFc hP1 hD1
            generalize H1 = H at hP hS ⊢
            have hP := hP.sub (ws' := [(mx, .inr (2, [.int ((fX2_keep th (nI uu) col mov so va ns nv rs rv sty1 st1 go1 (nI q5)).1), .int hf, .int ((fX2_keep th (nI uu) col mov so va ns nv rs rv sty1 st1 go1 (nI q5)).2.1), .int ((fX2_keep th (nI uu) col mov so va ns nv rs rv sty1 st1 go1 (nI q5)).2.2.1), .int ((fX2_keep th (nI uu) col mov so va ns nv rs rv sty1 st1 go1 (nI q5)).2.2.2.1), .ref aso, .ref ava, .ref ans, .ref anv, .ref ars, .ref arv, .int ((fX2_keep th (nI uu) col mov so va ns nv rs rv sty1 st1 go1 (nI q5)).2.2.2.2.2.2.2.2.2.2.1), .ref ast, .ref ago])), (aso, .inl (cI, 2100, .inl ((fX2_keep th (nI uu) col mov so va ns nv rs rv sty1 st1 go1 (nI q5)).2.2.2.2.1))), (ava, .inl (cI, 2100, .inl ((fX2_keep th (nI uu) col mov so va ns nv rs rv sty1 st1 go1 (nI q5)).2.2.2.2.2.1))), (ans, .inl (cI, 2100, .inl ((fX2_keep th (nI uu) col mov so va ns nv rs rv sty1 st1 go1 (nI q5)).2.2.2.2.2.2.1))), (anv, .inl (cI, 2100, .inl ((fX2_keep th (nI uu) col mov so va ns nv rs rv sty1 st1 go1 (nI q5)).2.2.2.2.2.2.2.1))), (ars, .inl (cI, 8, .inl ((fX2_keep th (nI uu) col mov so va ns nv rs rv sty1 st1 go1 (nI q5)).2.2.2.2.2.2.2.2.1))), (arv, .inl (cI, 8, .inl ((fX2_keep th (nI uu) col mov so va ns nv rs rv sty1 st1 go1 (nI q5)).2.2.2.2.2.2.2.2.2.1))), (ast, .inl (cI, 2100, .inl ((fX2_keep th (nI uu) col mov so va ns nv rs rv sty1 st1 go1 (nI q5)).2.2.2.2.2.2.2.2.2.2.2.1))), (ago, .inl (cI, 2100, .inl ((fX2_keep th (nI uu) col mov so va ns nv rs rv sty1 st1 go1 (nI q5)).2.2.2.2.2.2.2.2.2.2.2.2)))]) [0, 1, 2, 3, 4, 5, 6, 7, 8] rfl
            have hD := hD.sub (ws' := [(mx, .inr (2, [.int ((fX2_keep th (nI uu) col mov so va ns nv rs rv sty1 st1 go1 (nI q5)).1), .int hf, .int ((fX2_keep th (nI uu) col mov so va ns nv rs rv sty1 st1 go1 (nI q5)).2.1), .int ((fX2_keep th (nI uu) col mov so va ns nv rs rv sty1 st1 go1 (nI q5)).2.2.1), .int ((fX2_keep th (nI uu) col mov so va ns nv rs rv sty1 st1 go1 (nI q5)).2.2.2.1), .ref aso, .ref ava, .ref ans, .ref anv, .ref ars, .ref arv, .int ((fX2_keep th (nI uu) col mov so va ns nv rs rv sty1 st1 go1 (nI q5)).2.2.2.2.2.2.2.2.2.2.1), .ref ast, .ref ago])), (aso, .inl (cI, 2100, .inl ((fX2_keep th (nI uu) col mov so va ns nv rs rv sty1 st1 go1 (nI q5)).2.2.2.2.1))), (ava, .inl (cI, 2100, .inl ((fX2_keep th (nI uu) col mov so va ns nv rs rv sty1 st1 go1 (nI q5)).2.2.2.2.2.1))), (ans, .inl (cI, 2100, .inl ((fX2_keep th (nI uu) col mov so va ns nv rs rv sty1 st1 go1 (nI q5)).2.2.2.2.2.2.1))), (anv, .inl (cI, 2100, .inl ((fX2_keep th (nI uu) col mov so va ns nv rs rv sty1 st1 go1 (nI q5)).2.2.2.2.2.2.2.1))), (ars, .inl (cI, 8, .inl ((fX2_keep th (nI uu) col mov so va ns nv rs rv sty1 st1 go1 (nI q5)).2.2.2.2.2.2.2.2.1))), (arv, .inl (cI, 8, .inl ((fX2_keep th (nI uu) col mov so va ns nv rs rv sty1 st1 go1 (nI q5)).2.2.2.2.2.2.2.2.2.1))), (ast, .inl (cI, 2100, .inl ((fX2_keep th (nI uu) col mov so va ns nv rs rv sty1 st1 go1 (nI q5)).2.2.2.2.2.2.2.2.2.2.2.1))), (ago, .inl (cI, 2100, .inl ((fX2_keep th (nI uu) col mov so va ns nv rs rv sty1 st1 go1 (nI q5)).2.2.2.2.2.2.2.2.2.2.2.2)))]) [0, 1, 2, 3, 4, 5, 6, 7, 8] (by decide) rfl
            obtain ⟨sty9, st9, go9, e9, hk9⟩ := keepL (va := va) (th := th) (us := nI uu) (col := col) (mov := mov) (ns := ns) (nv := nv) (rs := rs) (rv := rv) hC hk hv0 q6 q7
            rw [e9] at hP hD
            have hP : va_P (dC, dI) vwCl [(mx, .inr (2, [.int th, .int hf, .int (nI uu), .int col, .int mov, .ref aso, .ref ava, .ref ans, .ref anv, .ref ars, .ref arv, .int sty9, .ref ast, .ref ago])), (aso, .inl (cI, 2100, .inl so)), (ava, .inl (cI, 2100, .inl va)), (ans, .inl (cI, 2100, .inl ns)), (anv, .inl (cI, 2100, .inl nv)), (ars, .inl (cI, 8, .inl rs)), (arv, .inl (cI, 8, .inl rv)), (ast, .inl (cI, 2100, .inl st9)), (ago, .inl (cI, 2100, .inl go9))] H := hP
            have hD : va_D A [(mx, .inr (2, [.int th, .int hf, .int (nI uu), .int col, .int mov, .ref aso, .ref ava, .ref ans, .ref anv, .ref ars, .ref arv, .int sty9, .ref ast, .ref ago])), (aso, .inl (cI, 2100, .inl so)), (ava, .inl (cI, 2100, .inl va)), (ans, .inl (cI, 2100, .inl ns)), (anv, .inl (cI, 2100, .inl nv)), (ars, .inl (cI, 8, .inl rs)), (arv, .inl (cI, 8, .inl rv)), (ast, .inl (cI, 2100, .inl st9)), (ago, .inl (cI, 2100, .inl go9))] := hD
            obtain ⟨x_23, ex_23⟩ : ∃ y : Int32, y = nI r + 1 := ⟨_, rfl⟩
            refine lv_iinc (v := x_23) (lv' := [(1, .int x_23), (0, .ref mx)]) hx hb dX2_gather_56 hl (k := 1) rfl (by rw [ex_23]; rfl) (by decide) rfl (fun ls hl => ?_)
            refine lv_goto (tgt := 30) hx hb dX2_gather_59 (by decide) ?_
            rw [ex_23, nI_1] at hl
            exact ihB (r + 1) sty9 st9 go9 (by omega) (by rw [regL_ref q1 hpl]; exact hk9) _ _ ls hP hD hS (lv_sub hl [1, 0] rfl)
      exact hlB 8 0 0 st go1 (by omega) (kR0 hgu) _ _ ls hP hD hS (lv_sub hl [1, 0] rfl)
    | succ d ihA =>
      intro j go1 hd hgo H locs ls hP hD hS hl
      have er : (nI j).toNatClampNeg = j := nI_clamp (by omega)
      refine lv_iload_n hx hb dX2_gather_7 rfl (lv_at hl 1 rfl) ?_
      refine lv_aload_n hx hb dX2_gather_8 rfl (lv_at hl 0 rfl) ?_
      refine va_get (D := (dC, dI)) (ci := 2) (v := .int (nI uu)) (C := RX2) (T := TX2) (N := 14) hx hb ht iX2 hown hK hP 0 rfl rfl 2 (by decide) (ht _ g_328) (fun _ h9 => h9) rfl dX2_gather_9 ?_
      refine lv_icmp_ge (tgt := 28) hx hb dX2_gather_12 (by decide) (fun h => absurd h (nI_ge (by omega) (by omega))) (fun _ => ?_)
      refine lv_aload_n hx hb dX2_gather_15 rfl (lv_at hl 0 rfl) ?_
      refine va_get (D := (dC, dI)) (ci := 2) (v := .ref ago) (C := RX2) (T := TX2) (N := 14) hx hb ht iX2 hown hK hP 0 rfl rfl 13 (by decide) (ht _ g_339) (fun _ h9 => h9) rfl dX2_gather_16 ?_
      refine lv_iload_n hx hb dX2_gather_19 rfl (lv_at hl 1 rfl) ?_
      refine lv_iconst (v := (-1)) hx hb dX2_gather_20 (by decide) ?_
      refine va_iast hx hb hK hP hD hS 8 0 rfl rfl (vp_in_nI (by omega) (by decide)) dX2_gather_21 (fun H locs hP hD hS => ?_)
      have hP : va_P (dC, dI) vwCl [(mx, .inr (2, [.int th, .int hf, .int (nI uu), .int col, .int mov, .ref aso, .ref ava, .ref ans, .ref anv, .ref ars, .ref arv, .int 0, .ref ast, .ref ago])), (aso, .inl (cI, 2100, .inl so)), (ava, .inl (cI, 2100, .inl va)), (ans, .inl (cI, 2100, .inl ns)), (anv, .inl (cI, 2100, .inl nv)), (ars, .inl (cI, 8, .inl rs)), (arv, .inl (cI, 8, .inl rv)), (ast, .inl (cI, 2100, .inl st)), (ago, .inl (cI, 2100, .inl (upd go1 (nI j).toNatClampNeg (-1))))] H := hP
      have hD : va_D A [(mx, .inr (2, [.int th, .int hf, .int (nI uu), .int col, .int mov, .ref aso, .ref ava, .ref ans, .ref anv, .ref ars, .ref arv, .int 0, .ref ast, .ref ago])), (aso, .inl (cI, 2100, .inl so)), (ava, .inl (cI, 2100, .inl va)), (ans, .inl (cI, 2100, .inl ns)), (anv, .inl (cI, 2100, .inl nv)), (ars, .inl (cI, 8, .inl rs)), (arv, .inl (cI, 8, .inl rv)), (ast, .inl (cI, 2100, .inl st)), (ago, .inl (cI, 2100, .inl (upd go1 (nI j).toNatClampNeg (-1))))] := hD
      rw [er] at hP hD
      have hP : va_P (dC, dI) vwCl [(mx, .inr (2, [.int th, .int hf, .int (nI uu), .int col, .int mov, .ref aso, .ref ava, .ref ans, .ref anv, .ref ars, .ref arv, .int 0, .ref ast, .ref ago])), (aso, .inl (cI, 2100, .inl so)), (ava, .inl (cI, 2100, .inl va)), (ans, .inl (cI, 2100, .inl ns)), (anv, .inl (cI, 2100, .inl nv)), (ars, .inl (cI, 8, .inl rs)), (arv, .inl (cI, 8, .inl rv)), (ast, .inl (cI, 2100, .inl st)), (ago, .inl (cI, 2100, .inl (upd go1 j (-1))))] H := hP
      have hD : va_D A [(mx, .inr (2, [.int th, .int hf, .int (nI uu), .int col, .int mov, .ref aso, .ref ava, .ref ans, .ref anv, .ref ars, .ref arv, .int 0, .ref ast, .ref ago])), (aso, .inl (cI, 2100, .inl so)), (ava, .inl (cI, 2100, .inl va)), (ans, .inl (cI, 2100, .inl ns)), (anv, .inl (cI, 2100, .inl nv)), (ars, .inl (cI, 8, .inl rs)), (arv, .inl (cI, 8, .inl rv)), (ast, .inl (cI, 2100, .inl st)), (ago, .inl (cI, 2100, .inl (upd go1 j (-1))))] := hD
      obtain ⟨x_24, ex_24⟩ : ∃ y : Int32, y = nI j + 1 := ⟨_, rfl⟩
      refine lv_iinc (v := x_24) (lv' := [(1, .int x_24), (0, .ref mx)]) hx hb dX2_gather_22 hl (k := 1) rfl (by rw [ex_24]; rfl) (by decide) rfl (fun ls hl => ?_)
      refine lv_goto (tgt := 7) hx hb dX2_gather_25 (by decide) ?_
      rw [ex_24, nI_1] at hl
      exact ihA (j + 1) (upd go1 j (-1)) (by omega) (goS hgo) _ _ ls hP hD hS (lv_sub hl [1, 0] rfl)
  exact hlA uu 0 go (by omega) (fun k hk => absurd hk (Nat.not_lt_zero k)) _ _ ls hP hD hS (lv_sub hl [1, 0] rfl)
