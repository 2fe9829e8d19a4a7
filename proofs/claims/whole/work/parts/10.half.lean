theorem zb {v : Int32} (h : v = 0 ∨ v = 1) : narrow .boolean (.int v) = .int v := by rcases h with rfl | rfl <;> decide
def fX1_asNumber (x : Int32) : Int32 := x <<< (1 &&& 31)
set_option maxHeartbeats 4000000 in
set_option maxRecDepth 100000 in
theorem ctX1_asNumber (l : Launch) (x : Int32) : Met l yX1_asNumber (kX1_asNumber :: gT) ({ frames := 0, cells := 0, slots := 0, locals := 0 }) (va_Pc [.int x] (fun _ => True)) (vp_Si (fun r => r = fX1_asNumber x)) 0 0 (fun _ => False) := by
  refine Met.ofW (cc := cX1_asNumber) (maxL := 1) (ret := (some .int)) (by decide) rfl ?_
  intro p e s m args below meth c s₁ B hml hv
  obtain ⟨rfl, -⟩ := hv
  have hx := B.exec
  have hb := B.bytes
  have hr := B.returns
  have ht : ∀ w ∈ gT, w.before ([.int x] : List Value).toArray s = true := fun w h => atoms_spec (ws := kX1_asNumber :: gT) B.pre w (List.mem_cons_of_mem _ h)
  have hown : s.vm.findClass RX1 = some m.cls := findClass_of_methodNamed B.named
  have hlocks := B.notSynchronized
  have hl := lv_entry ([.int x]) (n := 1) (Nat.le_of_ble_eq_true rfl)
  rw [lg_entry_eq]
  generalize (lg_sl ([.int x]) ++ List.replicate (1 - (lg_sl ([.int x])).length) Slot.unset).toArray = ls at hl ⊢
  have hl : lv_has ls 1 [(0, .int x)] := hl
  refine lv_iload_n hx hb dX1_asNumber_0 rfl (lv_at hl 0 rfl) ?_
  refine lv_iconst (v := 1) hx hb dX1_asNumber_1 (by decide) ?_
  refine lv_ishl hx hb dX1_asNumber_2 ?_
  exact W.iret (v := x <<< (1 &&& 31)) hx hb hr (fun t ht hW => ⟨_, rfl, rfl, ht⟩) (fun q hq => nomatch hq) dX1_asNumber_3
def fX1_asReference (x : Int32) : Int32 := (x <<< (1 &&& 31)) ||| 1
set_option maxHeartbeats 4000000 in
set_option maxRecDepth 100000 in
theorem ctX1_asReference (l : Launch) (x : Int32) : Met l yX1_asReference (kX1_asReference :: gT) ({ frames := 0, cells := 0, slots := 0, locals := 0 }) (va_Pc [.int x] (fun _ => True)) (vp_Si (fun r => r = fX1_asReference x)) 0 0 (fun _ => False) := by
  refine Met.ofW (cc := cX1_asReference) (maxL := 1) (ret := (some .int)) (by decide) rfl ?_
  intro p e s m args below meth c s₁ B hml hv
  obtain ⟨rfl, -⟩ := hv
  have hx := B.exec
  have hb := B.bytes
  have hr := B.returns
  have ht : ∀ w ∈ gT, w.before ([.int x] : List Value).toArray s = true := fun w h => atoms_spec (ws := kX1_asReference :: gT) B.pre w (List.mem_cons_of_mem _ h)
  have hown : s.vm.findClass RX1 = some m.cls := findClass_of_methodNamed B.named
  have hlocks := B.notSynchronized
  have hl := lv_entry ([.int x]) (n := 1) (Nat.le_of_ble_eq_true rfl)
  rw [lg_entry_eq]
  generalize (lg_sl ([.int x]) ++ List.replicate (1 - (lg_sl ([.int x])).length) Slot.unset).toArray = ls at hl ⊢
  have hl : lv_has ls 1 [(0, .int x)] := hl
  refine lv_iload_n hx hb dX1_asReference_0 rfl (lv_at hl 0 rfl) ?_
  refine lv_iconst (v := 1) hx hb dX1_asReference_1 (by decide) ?_
  refine lv_ishl hx hb dX1_asReference_2 ?_
  refine lv_iconst (v := 1) hx hb dX1_asReference_3 (by decide) ?_
  refine lv_ior hx hb dX1_asReference_4 ?_
  exact W.iret (v := (x <<< (1 &&& 31)) ||| 1) hx hb hr (fun t ht hW => ⟨_, rfl, rfl, ht⟩) (fun q hq => nomatch hq) dX1_asReference_5
def fX1_isReference (x : Int32) : Int32 := (if x &&& 1 = 0 then 0 else 1)
set_option maxHeartbeats 4000000 in
set_option maxRecDepth 100000 in
theorem ctX1_isReference (l : Launch) (x : Int32) : Met l yX1_isReference (kX1_isReference :: gT) ({ frames := 0, cells := 0, slots := 0, locals := 0 }) (va_Pc [.int x] (fun _ => True)) (vp_Si (fun r => r = fX1_isReference x)) 0 0 (fun _ => False) := by
  refine Met.ofW (cc := cX1_isReference) (maxL := 1) (ret := (some .boolean)) (by decide) rfl ?_
  intro p e s m args below meth c s₁ B hml hv
  obtain ⟨rfl, -⟩ := hv
  have hx := B.exec
  have hb := B.bytes
  have hr := B.returns
  have ht : ∀ w ∈ gT, w.before ([.int x] : List Value).toArray s = true := fun w h => atoms_spec (ws := kX1_isReference :: gT) B.pre w (List.mem_cons_of_mem _ h)
  have hown : s.vm.findClass RX1 = some m.cls := findClass_of_methodNamed B.named
  have hlocks := B.notSynchronized
  have hl := lv_entry ([.int x]) (n := 1) (Nat.le_of_ble_eq_true rfl)
  rw [lg_entry_eq]
  generalize (lg_sl ([.int x]) ++ List.replicate (1 - (lg_sl ([.int x])).length) Slot.unset).toArray = ls at hl ⊢
  have hl : lv_has ls 1 [(0, .int x)] := hl
  refine lv_iload_n hx hb dX1_isReference_0 rfl (lv_at hl 0 rfl) ?_
  refine lv_iconst (v := 1) hx hb dX1_isReference_1 (by decide) ?_
  refine lv_iand hx hb dX1_isReference_2 ?_
  refine lv_if_eq (tgt := 10) hx hb dX1_isReference_3 (by decide) (fun c_1 => ?_) (fun c_1 => ?_)
  · refine lv_iconst (v := 0) hx hb dX1_isReference_10 (by decide) ?_
    exact W.zret (v := 0) hx hb hr (by decide) (fun t ht hW => ⟨_, rfl, (by simp only [fX1_isReference, if_pos c_1]), ht⟩) (fun q hq => nomatch hq) dX1_isReference_11
  · refine lv_iconst (v := 1) hx hb dX1_isReference_6 (by decide) ?_
    refine lv_goto (tgt := 11) hx hb dX1_isReference_7 (by decide) ?_
    exact W.zret (v := 1) hx hb hr (by decide) (fun t ht hW => ⟨_, rfl, (by simp only [fX1_isReference, if_neg c_1]), ht⟩) (fun q hq => nomatch hq) dX1_isReference_11
def fX1_content (x : Int32) : Int32 := x >>> (1 &&& 31)
set_option maxHeartbeats 4000000 in
set_option maxRecDepth 100000 in
theorem ctX1_content (l : Launch) (x : Int32) : Met l yX1_content (kX1_content :: gT) ({ frames := 0, cells := 0, slots := 0, locals := 0 }) (va_Pc [.int x] (fun _ => True)) (vp_Si (fun r => r = fX1_content x)) 0 0 (fun _ => False) := by
  refine Met.ofW (cc := cX1_content) (maxL := 1) (ret := (some .int)) (by decide) rfl ?_
  intro p e s m args below meth c s₁ B hml hv
  obtain ⟨rfl, -⟩ := hv
  have hx := B.exec
  have hb := B.bytes
  have hr := B.returns
  have ht : ∀ w ∈ gT, w.before ([.int x] : List Value).toArray s = true := fun w h => atoms_spec (ws := kX1_content :: gT) B.pre w (List.mem_cons_of_mem _ h)
  have hown : s.vm.findClass RX1 = some m.cls := findClass_of_methodNamed B.named
  have hlocks := B.notSynchronized
  have hl := lv_entry ([.int x]) (n := 1) (Nat.le_of_ble_eq_true rfl)
  rw [lg_entry_eq]
  generalize (lg_sl ([.int x]) ++ List.replicate (1 - (lg_sl ([.int x])).length) Slot.unset).toArray = ls at hl ⊢
  have hl : lv_has ls 1 [(0, .int x)] := hl
  refine lv_iload_n hx hb dX1_content_0 rfl (lv_at hl 0 rfl) ?_
  refine lv_iconst (v := 1) hx hb dX1_content_1 (by decide) ?_
  refine lv_ishr hx hb dX1_content_2 ?_
  exact W.iret (v := x >>> (1 &&& 31)) hx hb hr (fun t ht hW => ⟨_, rfl, rfl, ht⟩) (fun q hq => nomatch hq) dX1_content_3
def fX0_hasRoomFor (n : Nat) (us : Int32) (ip : Int32) : Int32 := (if (nI n) - us < ip then 0 else 1)
set_option maxHeartbeats 4000000 in
set_option maxRecDepth 100000 in
theorem ctX0_hasRoomFor (l : Launch) (dC : Nat → ClassId) (dI : Nat → Nat → Nat) (cI : ClassId) (ha : Nat) (wa : Nat) (n : Nat) (us : Int32) (ob : Int32) (f : Nat → Int32) (ip : Int32) : Met l yX0_hasRoomFor (kX0_hasRoomFor :: gT) ({ frames := 0, cells := 0, slots := 0, locals := 0 }) (va_Pc [.ref ha, .int ip] (pS (dC, dI) [(ha, .inr (0, [.ref wa, .int us, .int ob])), (wa, .inl (cI, n, .inl f))] [(cI, .int)])) (vp_Si (fun r => r = fX0_hasRoomFor n us ip)) 0 0 (fun _ => False) := by
  refine Met.ofW (cc := cX0_hasRoomFor) (maxL := 2) (ret := (some .boolean)) (by decide) rfl ?_
  intro p e s m args below meth c s₁ B hml hv
  obtain ⟨rfl, hP, hK, hE⟩ := hv
  have hx := B.exec
  have hb := B.bytes
  have hr := B.returns
  have ht : ∀ w ∈ gT, w.before ([.ref ha, .int ip] : List Value).toArray s = true := fun w h => atoms_spec (ws := kX0_hasRoomFor :: gT) B.pre w (List.mem_cons_of_mem _ h)
  have hown : s.vm.findClass RX0 = some m.cls := findClass_of_methodNamed B.named
  have hlocks := B.notSynchronized
  have hl := lv_entry ([.ref ha, .int ip]) (n := 2) (Nat.le_of_ble_eq_true rfl)
  rw [lg_entry_eq]
  generalize (lg_sl ([.ref ha, .int ip]) ++ List.replicate (2 - (lg_sl ([.ref ha, .int ip])).length) Slot.unset).toArray = ls at hl ⊢
  have hl : lv_has ls 2 [(0, .ref ha), (1, .int ip)] := hl
  refine lv_iload_n hx hb dX0_hasRoomFor_0 rfl (lv_at hl 1 rfl) ?_
  refine lv_aload_n hx hb dX0_hasRoomFor_1 rfl (lv_at hl 0 rfl) ?_
  refine va_get (D := (dC, dI)) (ci := 0) (v := .ref wa) (C := RX0) (T := TX0) (N := 3) hx hb ht iX0 hown hK hP 0 rfl rfl 0 (by decide) (ht _ g_24) (fun _ h9 => h9) rfl dX0_hasRoomFor_2 ?_
  refine va_alen (v := nI n) hx hb hK hP 1 0 rfl rfl rfl dX0_hasRoomFor_5 ?_
  refine lv_aload_n hx hb dX0_hasRoomFor_6 rfl (lv_at hl 0 rfl) ?_
  refine va_get (D := (dC, dI)) (ci := 0) (v := .int us) (C := RX0) (T := TX0) (N := 3) hx hb ht iX0 hown hK hP 0 rfl rfl 1 (by decide) (ht _ g_26) (fun _ h9 => h9) rfl dX0_hasRoomFor_7 ?_
  refine lv_isub hx hb dX0_hasRoomFor_10 ?_
  refine lv_icmp_gt (tgt := 18) hx hb dX0_hasRoomFor_11 (by decide) (fun c_1 => ?_) (fun c_1 => ?_)
  · refine lv_iconst (v := 0) hx hb dX0_hasRoomFor_18 (by decide) ?_
    exact W.zret (v := 0) hx hb hr (by decide) (fun t ht hW => ⟨_, rfl, (by simp only [fX0_hasRoomFor, if_pos c_1]), ht⟩) (fun q hq => nomatch hq) dX0_hasRoomFor_19
  · refine lv_iconst (v := 1) hx hb dX0_hasRoomFor_14 (by decide) ?_
    refine lv_goto (tgt := 19) hx hb dX0_hasRoomFor_15 (by decide) ?_
    exact W.zret (v := 1) hx hb hr (by decide) (fun t ht hW => ⟨_, rfl, (by simp only [fX0_hasRoomFor, if_neg c_1]), ht⟩) (fun q hq => nomatch hq) dX0_hasRoomFor_19
def fX0_holds (us : Int32) (ip : Int32) : Int32 := (if ip < 0 then 0 else (if us ≤ ip then 0 else 1))
set_option maxHeartbeats 4000000 in
set_option maxRecDepth 100000 in
theorem ctX0_holds (l : Launch) (dC : Nat → ClassId) (dI : Nat → Nat → Nat) (cI : ClassId) (ha : Nat) (wa : Nat) (n : Nat) (us : Int32) (ob : Int32) (f : Nat → Int32) (ip : Int32) : Met l yX0_holds (kX0_holds :: gT) ({ frames := 0, cells := 0, slots := 0, locals := 0 }) (va_Pc [.ref ha, .int ip] (pS (dC, dI) [(ha, .inr (0, [.ref wa, .int us, .int ob])), (wa, .inl (cI, n, .inl f))] [(cI, .int)])) (vp_Si (fun r => r = fX0_holds us ip)) 0 0 (fun _ => False) := by
  refine Met.ofW (cc := cX0_holds) (maxL := 2) (ret := (some .boolean)) (by decide) rfl ?_
  intro p e s m args below meth c s₁ B hml hv
  obtain ⟨rfl, hP, hK, hE⟩ := hv
  have hx := B.exec
  have hb := B.bytes
  have hr := B.returns
  have ht : ∀ w ∈ gT, w.before ([.ref ha, .int ip] : List Value).toArray s = true := fun w h => atoms_spec (ws := kX0_holds :: gT) B.pre w (List.mem_cons_of_mem _ h)
  have hown : s.vm.findClass RX0 = some m.cls := findClass_of_methodNamed B.named
  have hlocks := B.notSynchronized
  have hl := lv_entry ([.ref ha, .int ip]) (n := 2) (Nat.le_of_ble_eq_true rfl)
  rw [lg_entry_eq]
  generalize (lg_sl ([.ref ha, .int ip]) ++ List.replicate (2 - (lg_sl ([.ref ha, .int ip])).length) Slot.unset).toArray = ls at hl ⊢
  have hl : lv_has ls 2 [(0, .ref ha), (1, .int ip)] := hl
  refine lv_iload_n hx hb dX0_holds_0 rfl (lv_at hl 1 rfl) ?_
  refine lv_if_lt (tgt := 16) hx hb dX0_holds_1 (by decide) (fun c_1 => ?_) (fun c_1 => ?_)
  · refine lv_iconst (v := 0) hx hb dX0_holds_16 (by decide) ?_
    exact W.zret (v := 0) hx hb hr (by decide) (fun t ht hW => ⟨_, rfl, (by simp only [fX0_holds, if_pos c_1]), ht⟩) (fun q hq => nomatch hq) dX0_holds_17
  · refine lv_iload_n hx hb dX0_holds_4 rfl (lv_at hl 1 rfl) ?_
    refine lv_aload_n hx hb dX0_holds_5 rfl (lv_at hl 0 rfl) ?_
    refine va_get (D := (dC, dI)) (ci := 0) (v := .int us) (C := RX0) (T := TX0) (N := 3) hx hb ht iX0 hown hK hP 0 rfl rfl 1 (by decide) (ht _ g_26) (fun _ h9 => h9) rfl dX0_holds_6 ?_
    refine lv_icmp_ge (tgt := 16) hx hb dX0_holds_9 (by decide) (fun c_2 => ?_) (fun c_2 => ?_)
    · refine lv_iconst (v := 0) hx hb dX0_holds_16 (by decide) ?_
      exact W.zret (v := 0) hx hb hr (by decide) (fun t ht hW => ⟨_, rfl, (by simp only [fX0_holds, if_neg c_1, if_pos c_2]), ht⟩) (fun q hq => nomatch hq) dX0_holds_17
    · refine lv_iconst (v := 1) hx hb dX0_holds_12 (by decide) ?_
      refine lv_goto (tgt := 17) hx hb dX0_holds_13 (by decide) ?_
      exact W.zret (v := 1) hx hb hr (by decide) (fun t ht hW => ⟨_, rfl, (by simp only [fX0_holds, if_neg c_1, if_neg c_2]), ht⟩) (fun q hq => nomatch hq) dX0_holds_17
def fX0_wordAt (n : Nat) (f : Nat → Int32) (ip : Int32) : Int32 := (if ip < 0 then 0 else (if nI n ≤ ip then 0 else f ip.toNatClampNeg))
set_option maxHeartbeats 4000000 in
set_option maxRecDepth 100000 in
theorem ctX0_wordAt (l : Launch) (dC : Nat → ClassId) (dI : Nat → Nat → Nat) (cI : ClassId) (ha : Nat) (wa : Nat) (n : Nat) (us : Int32) (ob : Int32) (f : Nat → Int32) (ip : Int32) (hn : n < 2 ^ 31) : Met l yX0_wordAt (kX0_wordAt :: gT) ({ frames := 0, cells := 0, slots := 0, locals := 0 }) (va_Pc [.ref ha, .int ip] (pS (dC, dI) [(ha, .inr (0, [.ref wa, .int us, .int ob])), (wa, .inl (cI, n, .inl f))] [(cI, .int)])) (vp_Si (fun r => r = fX0_wordAt n f ip)) 0 0 (fun _ => False) := by
  refine Met.ofW (cc := cX0_wordAt) (maxL := 2) (ret := (some .int)) (by decide) rfl ?_
  intro p e s m args below meth c s₁ B hml hv
  obtain ⟨rfl, hP, hK, hE⟩ := hv
  have hx := B.exec
  have hb := B.bytes
  have hr := B.returns
  have ht : ∀ w ∈ gT, w.before ([.ref ha, .int ip] : List Value).toArray s = true := fun w h => atoms_spec (ws := kX0_wordAt :: gT) B.pre w (List.mem_cons_of_mem _ h)
  have hown : s.vm.findClass RX0 = some m.cls := findClass_of_methodNamed B.named
  have hlocks := B.notSynchronized
  have hl := lv_entry ([.ref ha, .int ip]) (n := 2) (Nat.le_of_ble_eq_true rfl)
  rw [lg_entry_eq]
  generalize (lg_sl ([.ref ha, .int ip]) ++ List.replicate (2 - (lg_sl ([.ref ha, .int ip])).length) Slot.unset).toArray = ls at hl ⊢
  have hl : lv_has ls 2 [(0, .ref ha), (1, .int ip)] := hl
  refine lv_iload_n hx hb dX0_wordAt_0 rfl (lv_at hl 1 rfl) ?_
  refine lv_if_lt (tgt := 22) hx hb dX0_wordAt_1 (by decide) (fun c_1 => ?_) (fun c_1 => ?_)
  · refine lv_iconst (v := 0) hx hb dX0_wordAt_22 (by decide) ?_
    exact W.iret (v := 0) hx hb hr (fun t ht hW => ⟨_, rfl, (by simp only [fX0_wordAt, if_pos c_1]), ht⟩) (fun q hq => nomatch hq) dX0_wordAt_23
  · refine lv_iload_n hx hb dX0_wordAt_4 rfl (lv_at hl 1 rfl) ?_
    refine lv_aload_n hx hb dX0_wordAt_5 rfl (lv_at hl 0 rfl) ?_
    refine va_get (D := (dC, dI)) (ci := 0) (v := .ref wa) (C := RX0) (T := TX0) (N := 3) hx hb ht iX0 hown hK hP 0 rfl rfl 0 (by decide) (ht _ g_24) (fun _ h9 => h9) rfl dX0_wordAt_6 ?_
    refine va_alen (v := nI n) hx hb hK hP 1 0 rfl rfl rfl dX0_wordAt_9 ?_
    refine lv_icmp_ge (tgt := 22) hx hb dX0_wordAt_10 (by decide) (fun c_2 => ?_) (fun c_2 => ?_)
    · refine lv_iconst (v := 0) hx hb dX0_wordAt_22 (by decide) ?_
      exact W.iret (v := 0) hx hb hr (fun t ht hW => ⟨_, rfl, (by simp only [fX0_wordAt, if_neg c_1, if_pos c_2]), ht⟩) (fun q hq => nomatch hq) dX0_wordAt_23
    · refine lv_aload_n hx hb dX0_wordAt_13 rfl (lv_at hl 0 rfl) ?_
      refine va_get (D := (dC, dI)) (ci := 0) (v := .ref wa) (C := RX0) (T := TX0) (N := 3) hx hb ht iX0 hown hK hP 0 rfl rfl 0 (by decide) (ht _ g_24) (fun _ h9 => h9) rfl dX0_wordAt_14 ?_
      refine lv_iload_n hx hb dX0_wordAt_17 rfl (lv_at hl 1 rfl) ?_
      refine va_iald hx hb hK hP 1 0 rfl rfl (in2 hn c_1 c_2) dX0_wordAt_18 ?_
      refine lv_goto (tgt := 23) hx hb dX0_wordAt_19 (by decide) ?_
      exact W.iret (v := f ip.toNatClampNeg) hx hb hr (fun t ht hW => ⟨_, rfl, (by simp only [fX0_wordAt, if_neg c_1, if_neg c_2]), ht⟩) (fun q hq => nomatch hq) dX0_wordAt_23
def fX0_kindAt (n : Nat) (f : Nat → Int32) (ip : Int32) : Int32 := (fX0_wordAt n f ip) &&& 1
set_option maxHeartbeats 4000000 in
set_option maxRecDepth 100000 in
theorem ctX0_kindAt (l : Launch) (dC : Nat → ClassId) (dI : Nat → Nat → Nat) (cI : ClassId) (ha : Nat) (wa : Nat) (n : Nat) (us : Int32) (ob : Int32) (f : Nat → Int32) (ip : Int32) (hn : n < 2 ^ 31) : Met l yX0_kindAt (kX0_kindAt :: gT) ({ frames := 1, cells := 0, slots := 0, locals := 21 }) (va_Pc [.ref ha, .int ip] (pS (dC, dI) [(ha, .inr (0, [.ref wa, .int us, .int ob])), (wa, .inl (cI, n, .inl f))] [(cI, .int)])) (vp_Si (fun r => r = fX0_kindAt n f ip)) 0 0 (fun _ => False) := by
  refine Met.ofW (cc := cX0_kindAt) (maxL := 2) (ret := (some .int)) (by decide) rfl ?_
  intro p e s m args below meth c s₁ B hml hv
  obtain ⟨rfl, hP, hK, hE⟩ := hv
  have hx := B.exec
  have hb := B.bytes
  have hr := B.returns
  have ht : ∀ w ∈ gT, w.before ([.ref ha, .int ip] : List Value).toArray s = true := fun w h => atoms_spec (ws := kX0_kindAt :: gT) B.pre w (List.mem_cons_of_mem _ h)
  have hown : s.vm.findClass RX0 = some m.cls := findClass_of_methodNamed B.named
  have hlocks := B.notSynchronized
  have hl := lv_entry ([.ref ha, .int ip]) (n := 2) (Nat.le_of_ble_eq_true rfl)
  rw [lg_entry_eq]
  generalize (lg_sl ([.ref ha, .int ip]) ++ List.replicate (2 - (lg_sl ([.ref ha, .int ip])).length) Slot.unset).toArray = ls at hl ⊢
  have hl : lv_has ls 2 [(0, .ref ha), (1, .int ip)] := hl
  refine lv_aload_n hx hb dX0_kindAt_0 rfl (lv_at hl 0 rfl) ?_
  refine lv_iload_n hx hb dX0_kindAt_1 rfl (lv_at hl 1 rfl) ?_
  have hPc := hP.sub (ws' := [(ha, .inr (0, [.ref wa, .int us, .int ob])), (wa, .inl (cI, n, .inl f))]) [0, 1] rfl
  have hKc := hK.sub (tys' := [(cI, .int)]) [0] rfl
  refine vp_callSi (va_runV (As := [.int ip]) (rest := []) ⟨hx, hb, hml, hown, ht⟩ (ctX0_wordAt l dC dI cI ha wa n us ob f ip hn) (cwV 1 ht gcX0_22 rfl rfl rfl (by decide +kernel) ⟨Nat.le_of_ble_eq_true rfl, Nat.le_of_ble_eq_true rfl⟩) ⟨pS.blind, va_recv hKc hPc (ci := 0) (q0 := 0) rfl rfl, pS.call hPc hKc hE⟩ rfl rfl hl.1 rfl (lv_room (Nat.le_of_ble_eq_true rfl)) dX0_kindAt_2 ⟨Nat.le_of_ble_eq_true rfl, Nat.le_of_ble_eq_true rfl⟩).run (fun r_1 hr_1 => ?_)
  subst hr_1
  refine lv_iconst (v := 1) hx hb dX0_kindAt_5 (by decide) ?_
  refine lv_iand hx hb dX0_kindAt_6 ?_
  exact W.iret (v := (fX0_wordAt n f ip) &&& 1) hx hb hr (fun t ht hW => ⟨_, rfl, rfl, ht⟩) (fun q hq => nomatch hq) dX0_kindAt_7
def fX0_fieldsAt (n : Nat) (f : Nat → Int32) (ip : Int32) : Int32 := (fX0_wordAt n f ip) >>> (1 &&& 31)
set_option maxHeartbeats 4000000 in
set_option maxRecDepth 100000 in
theorem ctX0_fieldsAt (l : Launch) (dC : Nat → ClassId) (dI : Nat → Nat → Nat) (cI : ClassId) (ha : Nat) (wa : Nat) (n : Nat) (us : Int32) (ob : Int32) (f : Nat → Int32) (ip : Int32) (hn : n < 2 ^ 31) : Met l yX0_fieldsAt (kX0_fieldsAt :: gT) ({ frames := 1, cells := 0, slots := 0, locals := 21 }) (va_Pc [.ref ha, .int ip] (pS (dC, dI) [(ha, .inr (0, [.ref wa, .int us, .int ob])), (wa, .inl (cI, n, .inl f))] [(cI, .int)])) (vp_Si (fun r => r = fX0_fieldsAt n f ip)) 0 0 (fun _ => False) := by
  refine Met.ofW (cc := cX0_fieldsAt) (maxL := 2) (ret := (some .int)) (by decide) rfl ?_
  intro p e s m args below meth c s₁ B hml hv
  obtain ⟨rfl, hP, hK, hE⟩ := hv
  have hx := B.exec
  have hb := B.bytes
  have hr := B.returns
  have ht : ∀ w ∈ gT, w.before ([.ref ha, .int ip] : List Value).toArray s = true := fun w h => atoms_spec (ws := kX0_fieldsAt :: gT) B.pre w (List.mem_cons_of_mem _ h)
  have hown : s.vm.findClass RX0 = some m.cls := findClass_of_methodNamed B.named
  have hlocks := B.notSynchronized
  have hl := lv_entry ([.ref ha, .int ip]) (n := 2) (Nat.le_of_ble_eq_true rfl)
  rw [lg_entry_eq]
  generalize (lg_sl ([.ref ha, .int ip]) ++ List.replicate (2 - (lg_sl ([.ref ha, .int ip])).length) Slot.unset).toArray = ls at hl ⊢
  have hl : lv_has ls 2 [(0, .ref ha), (1, .int ip)] := hl
  refine lv_aload_n hx hb dX0_fieldsAt_0 rfl (lv_at hl 0 rfl) ?_
  refine lv_iload_n hx hb dX0_fieldsAt_1 rfl (lv_at hl 1 rfl) ?_
  have hPc := hP.sub (ws' := [(ha, .inr (0, [.ref wa, .int us, .int ob])), (wa, .inl (cI, n, .inl f))]) [0, 1] rfl
  have hKc := hK.sub (tys' := [(cI, .int)]) [0] rfl
  refine vp_callSi (va_runV (As := [.int ip]) (rest := []) ⟨hx, hb, hml, hown, ht⟩ (ctX0_wordAt l dC dI cI ha wa n us ob f ip hn) (cwV 1 ht gcX0_22 rfl rfl rfl (by decide +kernel) ⟨Nat.le_of_ble_eq_true rfl, Nat.le_of_ble_eq_true rfl⟩) ⟨pS.blind, va_recv hKc hPc (ci := 0) (q0 := 0) rfl rfl, pS.call hPc hKc hE⟩ rfl rfl hl.1 rfl (lv_room (Nat.le_of_ble_eq_true rfl)) dX0_fieldsAt_2 ⟨Nat.le_of_ble_eq_true rfl, Nat.le_of_ble_eq_true rfl⟩).run (fun r_1 hr_1 => ?_)
  subst hr_1
  refine lv_iconst (v := 1) hx hb dX0_fieldsAt_5 (by decide) ?_
  refine lv_ishr hx hb dX0_fieldsAt_6 ?_
  exact W.iret (v := (fX0_wordAt n f ip) >>> (1 &&& 31)) hx hb hr (fun t ht hW => ⟨_, rfl, rfl, ht⟩) (fun q hq => nomatch hq) dX0_fieldsAt_7
def fX0_empty (f : Nat → Int32) : Int32 × Int32 × (Nat → Int32) := (0, 0, f)
abbrev atX0_empty (dC : Nat → ClassId) (dI : Nat → Nat → Nat) (cI : ClassId) (A : Nat → Prop) (ha : Nat) (wa : Nat) (n : Nat) (u : Int32 × Int32 × (Nat → Int32)) (t : State) : Prop := va_P (dC, dI) vwCl [(ha, .inr (0, [.ref wa, .int u.1, .int u.2.1])), (wa, .inl (cI, n, .inl u.2.2))] t.heap ∧ va_K (dC, dI) vwCl [(cI, .int)] t ∧ va_D A [(ha, .inr (0, [.ref wa, .int u.1, .int u.2.1])), (wa, .inl (cI, n, .inl u.2.2))]
set_option maxHeartbeats 4000000 in
set_option maxRecDepth 100000 in
theorem ctX0_empty (l : Launch) (dC : Nat → ClassId) (dI : Nat → Nat → Nat) (cI : ClassId) (ha : Nat) (wa : Nat) (n : Nat) (us : Int32) (ob : Int32) (f : Nat → Int32) (sz : Nat) : Met l yX0_empty (kX0_empty :: gT) ({ frames := 0, cells := 0, slots := 0, locals := 0 }) (va_Pc [.ref ha] (pM (dC, dI) [(ha, .inr (0, [.ref wa, .int us, .int ob])), (wa, .inl (cI, n, .inl f))] [(cI, .int)] sz)) (va_Qv (fun u : Int32 × Int32 × (Nat → Int32) => u = fX0_empty f) (atX0_empty dC dI cI (va_A [(ha, .inr (0, [.ref wa, .int us, .int ob])), (wa, .inl (cI, n, .inl f))] sz) ha wa n) (va_A [(ha, .inr (0, [.ref wa, .int us, .int ob])), (wa, .inl (cI, n, .inl f))] sz)) 0 0 (va_A [(ha, .inr (0, [.ref wa, .int us, .int ob])), (wa, .inl (cI, n, .inl f))] sz) := by
  refine Met.ofW (cc := cX0_empty) (maxL := 1) (ret := none) (by decide) rfl ?_
  intro p e s m args below meth c s₁ B hml hv
  obtain ⟨rfl, hsz, hP, hK, hD0, hE⟩ := hv
  have hx := B.exec
  have hb := B.bytes
  have hr := B.returns
  have ht : ∀ w ∈ gT, w.before ([.ref ha] : List Value).toArray s = true := fun w h => atoms_spec (ws := kX0_empty :: gT) B.pre w (List.mem_cons_of_mem _ h)
  have hown : s.vm.findClass RX0 = some m.cls := findClass_of_methodNamed B.named
  have hlocks := B.notSynchronized
  subst hsz
  have hD := hD0.self (sz := s.heap.size)
  generalize hAe : va_A [(ha, .inr (0, [.ref wa, .int us, .int ob])), (wa, .inl (cI, n, .inl f))] s.heap.size = A at hD ⊢
  have hA : ∀ q : Nat, s.heap.size ≤ q → A q := fun q h => by rw [← hAe]; exact Or.inr h
  have hS : va_S A s.heap s.heap [] := va_S.rf
  have hl := lv_entry ([.ref ha]) (n := 1) (Nat.le_of_ble_eq_true rfl)
  rw [lg_entry_eq]
  generalize (lg_sl ([.ref ha]) ++ List.replicate (1 - (lg_sl ([.ref ha])).length) Slot.unset).toArray = ls at hl ⊢
  have hl : lv_has ls 1 [(0, .ref ha)] := hl
  refine lv_aload_n hx hb dX0_empty_0 rfl (lv_at hl 0 rfl) ?_
  refine lv_iconst (v := 0) hx hb dX0_empty_1 (by decide) ?_
  refine va_put (D := (dC, dI)) (ci := 0) (v := .int 0) (ty := .int) (C := RX0) (T := TX0) (N := 3) hx hb ht iX0 tyX0 tkX0 nmX0 hown hK hP hD hS 0 rfl rfl 1 (by decide) (ht _ g_26) (fun _ h9 => h9) rfl (by decide +kernel) rfl rfl (Nat.le_of_ble_eq_true rfl) dX0_empty_2 (fun H locs hP hD hS => ?_)
  have hP : va_P (dC, dI) vwCl [(ha, .inr (0, [.ref wa, .int 0, .int ob])), (wa, .inl (cI, n, .inl f))] H := hP
  have hD : va_D A [(ha, .inr (0, [.ref wa, .int 0, .int ob])), (wa, .inl (cI, n, .inl f))] := hD
  refine lv_aload_n hx hb dX0_empty_5 rfl (lv_at hl 0 rfl) ?_
  refine lv_iconst (v := 0) hx hb dX0_empty_6 (by decide) ?_
  refine va_put (D := (dC, dI)) (ci := 0) (v := .int 0) (ty := .int) (C := RX0) (T := TX0) (N := 3) hx hb ht iX0 tyX0 tkX0 nmX0 hown hK hP hD hS 0 rfl rfl 2 (by decide) (ht _ g_28) (fun _ h9 => h9) rfl (by decide +kernel) rfl rfl (Nat.le_of_ble_eq_true rfl) dX0_empty_7 (fun H locs hP hD hS => ?_)
  have hP : va_P (dC, dI) vwCl [(ha, .inr (0, [.ref wa, .int 0, .int 0])), (wa, .inl (cI, n, .inl f))] H := hP
  have hD : va_D A [(ha, .inr (0, [.ref wa, .int 0, .int 0])), (wa, .inl (cI, n, .inl f))] := hD
  have hP9 := hP.sub (ws' := [(ha, .inr (0, [.ref wa, .int 0, .int 0])), (wa, .inl (cI, n, .inl f))]) [0, 1] rfl
  have hD9 := hD.sub (ws' := [(ha, .inr (0, [.ref wa, .int 0, .int 0])), (wa, .inl (cI, n, .inl f))]) [0, 1] (by decide) rfl
  have hK9 := hK.sub (tys' := [(cI, .int)]) [0] rfl
  exact W.vret hx hb hr (fun t ht hW => ⟨⟨(0, 0, f), rfl, rfl, by rw [ht]; exact hP9, va_K.moved hW.alike hK9, hD9⟩, hS.F ht⟩) hS.2.2 dX0_empty_10
def fX0_setWord (n : Nat) (us : Int32) (ob : Int32) (f : Nat → Int32) (ip : Int32) (iq : Int32) : Int32 × Int32 × (Nat → Int32) := (if ip < 0 then (us, ob, f) else (if nI n ≤ ip then (us, ob, f) else (us, ob, upd f ip.toNatClampNeg iq)))
abbrev atX0_setWord (dC : Nat → ClassId) (dI : Nat → Nat → Nat) (cI : ClassId) (A : Nat → Prop) (ha : Nat) (wa : Nat) (n : Nat) (u : Int32 × Int32 × (Nat → Int32)) (t : State) : Prop := va_P (dC, dI) vwCl [(ha, .inr (0, [.ref wa, .int u.1, .int u.2.1])), (wa, .inl (cI, n, .inl u.2.2))] t.heap ∧ va_K (dC, dI) vwCl [(cI, .int)] t ∧ va_D A [(ha, .inr (0, [.ref wa, .int u.1, .int u.2.1])), (wa, .inl (cI, n, .inl u.2.2))]
set_option maxHeartbeats 4000000 in
set_option maxRecDepth 100000 in
theorem ctX0_setWord (l : Launch) (dC : Nat → ClassId) (dI : Nat → Nat → Nat) (cI : ClassId) (ha : Nat) (wa : Nat) (n : Nat) (us : Int32) (ob : Int32) (f : Nat → Int32) (ip : Int32) (iq : Int32) (sz : Nat) (hn : n < 2 ^ 31) : Met l yX0_setWord (kX0_setWord :: gT) ({ frames := 0, cells := 0, slots := 0, locals := 0 }) (va_Pc [.ref ha, .int ip, .int iq] (pM (dC, dI) [(ha, .inr (0, [.ref wa, .int us, .int ob])), (wa, .inl (cI, n, .inl f))] [(cI, .int)] sz)) (va_Qv (fun u : Int32 × Int32 × (Nat → Int32) => u = fX0_setWord n us ob f ip iq) (atX0_setWord dC dI cI (va_A [(ha, .inr (0, [.ref wa, .int us, .int ob])), (wa, .inl (cI, n, .inl f))] sz) ha wa n) (va_A [(ha, .inr (0, [.ref wa, .int us, .int ob])), (wa, .inl (cI, n, .inl f))] sz)) 0 0 (va_A [(ha, .inr (0, [.ref wa, .int us, .int ob])), (wa, .inl (cI, n, .inl f))] sz) := by
  refine Met.ofW (cc := cX0_setWord) (maxL := 3) (ret := none) (by decide) rfl ?_
  intro p e s m args below meth c s₁ B hml hv
  obtain ⟨rfl, hsz, hP, hK, hD0, hE⟩ := hv
  have hx := B.exec
  have hb := B.bytes
  have hr := B.returns
  have ht : ∀ w ∈ gT, w.before ([.ref ha, .int ip, .int iq] : List Value).toArray s = true := fun w h => atoms_spec (ws := kX0_setWord :: gT) B.pre w (List.mem_cons_of_mem _ h)
  have hown : s.vm.findClass RX0 = some m.cls := findClass_of_methodNamed B.named
  have hlocks := B.notSynchronized
  subst hsz
  have hD := hD0.self (sz := s.heap.size)
  generalize hAe : va_A [(ha, .inr (0, [.ref wa, .int us, .int ob])), (wa, .inl (cI, n, .inl f))] s.heap.size = A at hD ⊢
  have hA : ∀ q : Nat, s.heap.size ≤ q → A q := fun q h => by rw [← hAe]; exact Or.inr h
  have hS : va_S A s.heap s.heap [] := va_S.rf
  have hl := lv_entry ([.ref ha, .int ip, .int iq]) (n := 3) (Nat.le_of_ble_eq_true rfl)
  rw [lg_entry_eq]
  generalize (lg_sl ([.ref ha, .int ip, .int iq]) ++ List.replicate (3 - (lg_sl ([.ref ha, .int ip, .int iq])).length) Slot.unset).toArray = ls at hl ⊢
  have hl : lv_has ls 3 [(0, .ref ha), (1, .int ip), (2, .int iq)] := hl
  refine lv_iload_n hx hb dX0_setWord_0 rfl (lv_at hl 1 rfl) ?_
  refine lv_if_lt (tgt := 20) hx hb dX0_setWord_1 (by decide) (fun c_1 => ?_) (fun c_1 => ?_)
  · have hP9 := hP.sub (ws' := [(ha, .inr (0, [.ref wa, .int us, .int ob])), (wa, .inl (cI, n, .inl f))]) [0, 1] rfl
    have hD9 := hD.sub (ws' := [(ha, .inr (0, [.ref wa, .int us, .int ob])), (wa, .inl (cI, n, .inl f))]) [0, 1] (by decide) rfl
    have hK9 := hK.sub (tys' := [(cI, .int)]) [0] rfl
    exact W.vret hx hb hr (fun t ht hW => ⟨⟨(us, ob, f), rfl, (by simp only [fX0_setWord, if_pos c_1]), by rw [ht]; exact hP9, va_K.moved hW.alike hK9, hD9⟩, hS.F ht⟩) hS.2.2 dX0_setWord_20
  · refine lv_iload_n hx hb dX0_setWord_4 rfl (lv_at hl 1 rfl) ?_
    refine lv_aload_n hx hb dX0_setWord_5 rfl (lv_at hl 0 rfl) ?_
    refine va_get (D := (dC, dI)) (ci := 0) (v := .ref wa) (C := RX0) (T := TX0) (N := 3) hx hb ht iX0 hown hK hP 0 rfl rfl 0 (by decide) (ht _ g_24) (fun _ h9 => h9) rfl dX0_setWord_6 ?_
    refine va_alen (v := nI n) hx hb hK hP 1 0 rfl rfl rfl dX0_setWord_9 ?_
    refine lv_icmp_ge (tgt := 20) hx hb dX0_setWord_10 (by decide) (fun c_2 => ?_) (fun c_2 => ?_)
    · have hP9 := hP.sub (ws' := [(ha, .inr (0, [.ref wa, .int us, .int ob])), (wa, .inl (cI, n, .inl f))]) [0, 1] rfl
      have hD9 := hD.sub (ws' := [(ha, .inr (0, [.ref wa, .int us, .int ob])), (wa, .inl (cI, n, .inl f))]) [0, 1] (by decide) rfl
      have hK9 := hK.sub (tys' := [(cI, .int)]) [0] rfl
      exact W.vret hx hb hr (fun t ht hW => ⟨⟨(us, ob, f), rfl, (by simp only [fX0_setWord, if_neg c_1, if_pos c_2]), by rw [ht]; exact hP9, va_K.moved hW.alike hK9, hD9⟩, hS.F ht⟩) hS.2.2 dX0_setWord_20
    · refine lv_aload_n hx hb dX0_setWord_13 rfl (lv_at hl 0 rfl) ?_
      refine va_get (D := (dC, dI)) (ci := 0) (v := .ref wa) (C := RX0) (T := TX0) (N := 3) hx hb ht iX0 hown hK hP 0 rfl rfl 0 (by decide) (ht _ g_24) (fun _ h9 => h9) rfl dX0_setWord_14 ?_
      refine lv_iload_n hx hb dX0_setWord_17 rfl (lv_at hl 1 rfl) ?_
      refine lv_iload_n hx hb dX0_setWord_18 rfl (lv_at hl 2 rfl) ?_
      refine va_iast hx hb hK hP hD hS 1 0 rfl rfl (in2 hn c_1 c_2) dX0_setWord_19 (fun H locs hP hD hS => ?_)
      have hP : va_P (dC, dI) vwCl [(ha, .inr (0, [.ref wa, .int us, .int ob])), (wa, .inl (cI, n, .inl (upd f ip.toNatClampNeg iq)))] H := hP
      have hD : va_D A [(ha, .inr (0, [.ref wa, .int us, .int ob])), (wa, .inl (cI, n, .inl (upd f ip.toNatClampNeg iq)))] := hD
      have hP9 := hP.sub (ws' := [(ha, .inr (0, [.ref wa, .int us, .int ob])), (wa, .inl (cI, n, .inl (upd f ip.toNatClampNeg iq)))]) [0, 1] rfl
      have hD9 := hD.sub (ws' := [(ha, .inr (0, [.ref wa, .int us, .int ob])), (wa, .inl (cI, n, .inl (upd f ip.toNatClampNeg iq)))]) [0, 1] (by decide) rfl
      have hK9 := hK.sub (tys' := [(cI, .int)]) [0] rfl
      exact W.vret hx hb hr (fun t ht hW => ⟨⟨(us, ob, upd f ip.toNatClampNeg iq), rfl, (by simp only [fX0_setWord, if_neg c_1, if_neg c_2]), by rw [ht]; exact hP9, va_K.moved hW.alike hK9, hD9⟩, hS.F ht⟩) hS.2.2 dX0_setWord_20
def fX0_addWord (n : Nat) (us : Int32) (ob : Int32) (f : Nat → Int32) (iq : Int32) : Int32 × Int32 × (Nat → Int32) := (((fX0_setWord n us ob f us iq).1) + 1, (fX0_setWord n us ob f us iq).2.1, (fX0_setWord n us ob f us iq).2.2)
abbrev atX0_addWord (dC : Nat → ClassId) (dI : Nat → Nat → Nat) (cI : ClassId) (A : Nat → Prop) (ha : Nat) (wa : Nat) (n : Nat) (u : Int32 × Int32 × (Nat → Int32)) (t : State) : Prop := va_P (dC, dI) vwCl [(ha, .inr (0, [.ref wa, .int u.1, .int u.2.1])), (wa, .inl (cI, n, .inl u.2.2))] t.heap ∧ va_K (dC, dI) vwCl [(cI, .int)] t ∧ va_D A [(ha, .inr (0, [.ref wa, .int u.1, .int u.2.1])), (wa, .inl (cI, n, .inl u.2.2))]
set_option maxHeartbeats 4000000 in
set_option maxRecDepth 100000 in
theorem ctX0_addWord (l : Launch) (dC : Nat → ClassId) (dI : Nat → Nat → Nat) (cI : ClassId) (ha : Nat) (wa : Nat) (n : Nat) (us : Int32) (ob : Int32) (f : Nat → Int32) (iq : Int32) (sz : Nat) (hn : n < 2 ^ 31) : Met l yX0_addWord (kX0_addWord :: gT) ({ frames := 1, cells := 0, slots := 0, locals := 22 }) (va_Pc [.ref ha, .int iq] (pM (dC, dI) [(ha, .inr (0, [.ref wa, .int us, .int ob])), (wa, .inl (cI, n, .inl f))] [(cI, .int)] sz)) (va_Qv (fun u : Int32 × Int32 × (Nat → Int32) => u = fX0_addWord n us ob f iq) (atX0_addWord dC dI cI (va_A [(ha, .inr (0, [.ref wa, .int us, .int ob])), (wa, .inl (cI, n, .inl f))] sz) ha wa n) (va_A [(ha, .inr (0, [.ref wa, .int us, .int ob])), (wa, .inl (cI, n, .inl f))] sz)) 0 0 (va_A [(ha, .inr (0, [.ref wa, .int us, .int ob])), (wa, .inl (cI, n, .inl f))] sz) := by
  refine Met.ofW (cc := cX0_addWord) (maxL := 2) (ret := none) (by decide) rfl ?_
  intro p e s m args below meth c s₁ B hml hv
  obtain ⟨rfl, hsz, hP, hK, hD0, hE⟩ := hv
  have hx := B.exec
  have hb := B.bytes
  have hr := B.returns
  have ht : ∀ w ∈ gT, w.before ([.ref ha, .int iq] : List Value).toArray s = true := fun w h => atoms_spec (ws := kX0_addWord :: gT) B.pre w (List.mem_cons_of_mem _ h)
  have hown : s.vm.findClass RX0 = some m.cls := findClass_of_methodNamed B.named
  have hlocks := B.notSynchronized
  subst hsz
  have hD := hD0.self (sz := s.heap.size)
  generalize hAe : va_A [(ha, .inr (0, [.ref wa, .int us, .int ob])), (wa, .inl (cI, n, .inl f))] s.heap.size = A at hD ⊢
  have hA : ∀ q : Nat, s.heap.size ≤ q → A q := fun q h => by rw [← hAe]; exact Or.inr h
  have hS : va_S A s.heap s.heap [] := va_S.rf
  have hl := lv_entry ([.ref ha, .int iq]) (n := 2) (Nat.le_of_ble_eq_true rfl)
  rw [lg_entry_eq]
  generalize (lg_sl ([.ref ha, .int iq]) ++ List.replicate (2 - (lg_sl ([.ref ha, .int iq])).length) Slot.unset).toArray = ls at hl ⊢
  have hl : lv_has ls 2 [(0, .ref ha), (1, .int iq)] := hl
  refine lv_aload_n hx hb dX0_addWord_0 rfl (lv_at hl 0 rfl) ?_
  refine lv_aload_n hx hb dX0_addWord_1 rfl (lv_at hl 0 rfl) ?_
  refine va_get (D := (dC, dI)) (ci := 0) (v := .int us) (C := RX0) (T := TX0) (N := 3) hx hb ht iX0 hown hK hP 0 rfl rfl 1 (by decide) (ht _ g_26) (fun _ h9 => h9) rfl dX0_addWord_2 ?_
  refine lv_iload_n hx hb dX0_addWord_5 rfl (lv_at hl 1 rfl) ?_
  have hPc := hP.sub (ws' := [(ha, .inr (0, [.ref wa, .int us, .int ob])), (wa, .inl (cI, n, .inl f))]) [0, 1] rfl
  have hKc := hK.sub (tys' := [(cI, .int)]) [0] rfl
  have hDc := hD.sub (ws' := [(ha, .inr (0, [.ref wa, .int us, .int ob])), (wa, .inl (cI, n, .inl f))]) [0, 1] (by decide) rfl
  have hFc := va_free (wc := [(ha, .inr (0, [.ref wa, .int us, .int ob])), (wa, .inl (cI, n, .inl f))]) hD hS hA [0, 1] rfl
  refine va_callv (va_runV (As := [.int us, .int iq]) (rest := []) ⟨hx, hb, hml, hown, ht⟩ (ctX0_setWord l dC dI cI ha wa n us ob f us iq _ hn) (cwV 2 ht gcX0_40 rfl rfl rfl (by decide +kernel) ⟨Nat.le_of_ble_eq_true rfl, Nat.le_of_ble_eq_true rfl⟩) ⟨pM.blind, va_recv hKc hPc (ci := 0) (q0 := 0) rfl rfl, pM.call hPc hKc hDc hE⟩ rfl rfl hl.1 rfl (lv_room (Nat.le_of_ble_eq_true rfl)) dX0_addWord_6 ⟨Nat.le_of_ble_eq_true rfl, Nat.le_of_ble_eq_true rfl⟩) hS (fun q _ h => hFc q h) hFc (fun u_1 t H1 locs ht9 hvm hw hB hz1 hk1 hS => ?_)
  subst hw
  obtain ⟨hP1, hK1, hD1⟩ := hB
  rw [ht9] at hP1
  obtain ⟨hP, hD⟩ := va_join (wr := []) (w1 := [(ha, .inr (0, [.ref wa, .int ((fX0_setWord n us ob f us iq).1), .int ((fX0_setWord n us ob f us iq).2.1)])), (wa, .inl (cI, n, .inl ((fX0_setWord n us ob f us iq).2.2)))]) hP hD [0, 1] [] rfl rfl (by decide) (by decide) hk1 hFc hP1 hD1
  generalize H1 = H at hP hS ⊢
  have hP := hP.sub (ws' := [(ha, .inr (0, [.ref wa, .int ((fX0_setWord n us ob f us iq).1), .int ((fX0_setWord n us ob f us iq).2.1)])), (wa, .inl (cI, n, .inl ((fX0_setWord n us ob f us iq).2.2)))]) [0, 1] rfl
  have hD := hD.sub (ws' := [(ha, .inr (0, [.ref wa, .int ((fX0_setWord n us ob f us iq).1), .int ((fX0_setWord n us ob f us iq).2.1)])), (wa, .inl (cI, n, .inl ((fX0_setWord n us ob f us iq).2.2)))]) [0, 1] (by decide) rfl
  refine lv_aload_n hx hb dX0_addWord_9 rfl (lv_at hl 0 rfl) ?_
  refine lv_dup hx hb dX0_addWord_10 rfl ?_
  refine va_get (D := (dC, dI)) (ci := 0) (v := .int ((fX0_setWord n us ob f us iq).1)) (C := RX0) (T := TX0) (N := 3) hx hb ht iX0 hown hK hP 0 rfl rfl 1 (by decide) (ht _ g_26) (fun _ h9 => h9) rfl dX0_addWord_11 ?_
  refine lv_iconst (v := 1) hx hb dX0_addWord_14 (by decide) ?_
  refine lv_iadd hx hb dX0_addWord_15 ?_
  refine va_put (D := (dC, dI)) (ci := 0) (v := .int (((fX0_setWord n us ob f us iq).1) + 1)) (ty := .int) (C := RX0) (T := TX0) (N := 3) hx hb ht iX0 tyX0 tkX0 nmX0 hown hK hP hD hS 0 rfl rfl 1 (by decide) (ht _ g_26) (fun _ h9 => h9) rfl (by decide +kernel) rfl rfl (Nat.le_of_ble_eq_true rfl) dX0_addWord_16 (fun H locs hP hD hS => ?_)
  have hP : va_P (dC, dI) vwCl [(ha, .inr (0, [.ref wa, .int (((fX0_setWord n us ob f us iq).1) + 1), .int ((fX0_setWord n us ob f us iq).2.1)])), (wa, .inl (cI, n, .inl ((fX0_setWord n us ob f us iq).2.2)))] H := hP
  have hD : va_D A [(ha, .inr (0, [.ref wa, .int (((fX0_setWord n us ob f us iq).1) + 1), .int ((fX0_setWord n us ob f us iq).2.1)])), (wa, .inl (cI, n, .inl ((fX0_setWord n us ob f us iq).2.2)))] := hD
  have hP9 := hP.sub (ws' := [(ha, .inr (0, [.ref wa, .int (((fX0_setWord n us ob f us iq).1) + 1), .int ((fX0_setWord n us ob f us iq).2.1)])), (wa, .inl (cI, n, .inl ((fX0_setWord n us ob f us iq).2.2)))]) [0, 1] rfl
  have hD9 := hD.sub (ws' := [(ha, .inr (0, [.ref wa, .int (((fX0_setWord n us ob f us iq).1) + 1), .int ((fX0_setWord n us ob f us iq).2.1)])), (wa, .inl (cI, n, .inl ((fX0_setWord n us ob f us iq).2.2)))]) [0, 1] (by decide) rfl
  have hK9 := hK.sub (tys' := [(cI, .int)]) [0] rfl
  exact W.vret hx hb hr (fun t ht hW => ⟨⟨(((fX0_setWord n us ob f us iq).1) + 1, (fX0_setWord n us ob f us iq).2.1, (fX0_setWord n us ob f us iq).2.2), rfl, rfl, by rw [ht]; exact hP9, va_K.moved hW.alike hK9, hD9⟩, hS.F ht⟩) hS.2.2 dX0_addWord_19
def fX1_requireRegister (ip : Int32) : Nat × Int32 × Unit := (if ip < 0 then (1, 0, ()) else (if ip < 8 then (0, 0, ()) else (1, 0, ())))
set_option maxHeartbeats 4000000 in
set_option maxRecDepth 100000 in
theorem ctX1_requireRegister (l : Launch) (hl9 : l.stackTraces = false) (dC : Nat → ClassId) (dI : Nat → Nat → Nat) (cI : ClassId) (sa : Nat → Nat) (ip : Int32) (sz : Nat) : vx_Met l yX1_requireRegister (kX1_requireRegister :: gT) ({ frames := 6, cells := 1, slots := 6, locals := 90 }) (va_Pc [.int ip] (pR (dC, dI) [] [] sa sz)) (va_Qv (fun u : Unit => fX1_requireRegister ip = (0, 0, u)) (fun _ _ => True) (va_A [] sz)) (vx_X (fun v : Nat × Unit => fX1_requireRegister ip = (v.1, 0, v.2) ∧ v.1 ≠ 0) (fun E v _ => E = exN v.1) (va_A [] sz)) 1 6 (va_A [] sz) := by
  refine vx_ofW (cc := cX1_requireRegister) (maxL := 1) (ret := none) (by decide) rfl ?_
  intro p e s m args below meth c s₁ B hml hEx hv
  obtain ⟨rfl, hsz, hP, hK, hE, hX⟩ := hv
  have hx := B.exec
  have hb := B.bytes
  have hr := B.returns
  have ht : ∀ w ∈ gT, w.before ([.int ip] : List Value).toArray s = true := fun w h => atoms_spec (ws := kX1_requireRegister :: gT) B.pre w (List.mem_cons_of_mem _ h)
  have hown : s.vm.findClass RX1 = some m.cls := findClass_of_methodNamed B.named
  have hlocks := B.notSynchronized
  subst hsz
  generalize hAe : va_A [] s.heap.size = A at hX ⊢
  have hA : ∀ q : Nat, s.heap.size ≤ q → A q := fun q h => by rw [← hAe]; exact Or.inr h
  have hS : va_S A s.heap s.heap [] := va_S.rf
  have hl := lv_entry ([.int ip]) (n := 1) (Nat.le_of_ble_eq_true rfl)
  rw [lg_entry_eq]
  generalize (lg_sl ([.int ip]) ++ List.replicate (1 - (lg_sl ([.int ip])).length) Slot.unset).toArray = ls at hl ⊢
  have hl : lv_has ls 1 [(0, .int ip)] := hl
  refine lv_iload_n hx hb dX1_requireRegister_0 rfl (lv_at hl 0 rfl) ?_
  refine lv_if_lt (tgt := 10) hx hb dX1_requireRegister_1 (by decide) (fun c_1 => ?_) (fun c_1 => ?_)
  · exact vx_throwS (own := RX1) (cls := "java/lang/IllegalArgumentException") (names := ["java/lang/RuntimeException", "java/lang/Exception"]) hx hb hl9 hown (by decide +kernel) (by decide +kernel) (ht _ g_124) (ht _ g_7) hX.s120 (thA ht hE) toA hX.zU hX.zN hS (hl.1.trans hml.symm) dX1_requireRegister_10 dX1_requireRegister_13 dX1_requireRegister_14 dX1_requireRegister_16 dX1_requireRegister_19 (fun x hx => (hEx x hx).elim) (Nat.le_of_ble_eq_true rfl) (Nat.le_of_ble_eq_true rfl) (Nat.le_of_ble_eq_true rfl) (Nat.le_of_ble_eq_true rfl) hlocks (fun t ha hsz hk => ⟨(1, ()), ⟨(by simp only [fX1_requireRegister, if_pos c_1]), Nat.succ_ne_zero _⟩, rfl, Nat.le_trans hS.1 hsz, fun q h1 h2 => (hk q (Nat.lt_of_lt_of_le h1 hS.1)).trans (hS.2.1 q h1 h2)⟩) hS.2.2 (Nat.le_of_ble_eq_true rfl) (Nat.le_of_ble_eq_true rfl)
  · refine lv_iload_n hx hb dX1_requireRegister_4 rfl (lv_at hl 0 rfl) ?_
    refine lv_bipush (v := 8) hx hb dX1_requireRegister_5 (by decide) ?_
    refine lv_icmp_lt (tgt := 20) hx hb dX1_requireRegister_7 (by decide) (fun c_2 => ?_) (fun c_2 => ?_)
    · refine vx_ret ?_
      refine W.widen (k := 1) (n := 6) (Nat.le_of_ble_eq_true rfl) (Nat.le_of_ble_eq_true rfl) ?_
      exact W.vret hx hb hr (fun t ht hW => ⟨⟨(), rfl, (by simp only [fX1_requireRegister, if_neg c_1, if_pos c_2]), trivial⟩, hS.F ht⟩) hS.2.2 dX1_requireRegister_20
    · exact vx_throwS (own := RX1) (cls := "java/lang/IllegalArgumentException") (names := ["java/lang/RuntimeException", "java/lang/Exception"]) hx hb hl9 hown (by decide +kernel) (by decide +kernel) (ht _ g_124) (ht _ g_7) hX.s120 (thA ht hE) toA hX.zU hX.zN hS (hl.1.trans hml.symm) dX1_requireRegister_10 dX1_requireRegister_13 dX1_requireRegister_14 dX1_requireRegister_16 dX1_requireRegister_19 (fun x hx => (hEx x hx).elim) (Nat.le_of_ble_eq_true rfl) (Nat.le_of_ble_eq_true rfl) (Nat.le_of_ble_eq_true rfl) (Nat.le_of_ble_eq_true rfl) hlocks (fun t ha hsz hk => ⟨(1, ()), ⟨(by simp only [fX1_requireRegister, if_neg c_1, if_neg c_2]), Nat.succ_ne_zero _⟩, rfl, Nat.le_trans hS.1 hsz, fun q h1 h2 => (hk q (Nat.lt_of_lt_of_le h1 hS.1)).trans (hS.2.1 q h1 h2)⟩) hS.2.2 (Nat.le_of_ble_eq_true rfl) (Nat.le_of_ble_eq_true rfl)
