/-! THE CLAIM OUT OF ONE WALK OF THE LAW'S BODY. Your part is whole_start (and what it stands on); all else here is the same for every law, but numbers. -/
def R_law : String := "CopyHeapLaw"
def lw_P (b : Addr) (xs : List Int32) (args : Array Value) (s : State) : Prop := args = #[.ref b] ∧ s.IntsAt b xs ∧ xs.length ≤ 2049 ∧ (Jvm.Cond.and given_1 narrow_1).before args s = true
def lw_Q (_ : Array Value) (s : State) (o : Outcome) (t : State) : Prop := o = .returned (some (.int 1)) ∧ Framed s o t [] 601024 7293000
def lw_Z (below : List Frame) (a : Array Value) (s : State) : State → Prop := fun t => ∃ o, t.status = .running ∧ Ended t below o ∧ lw_Q a s o t
/-- the law's own end, with 1 on the stack, nothing written that was there before, its room as the claim has it -/
theorem lw_ret {p : Program} {l : Launch} {e : Env} {s : State} {m : MethodId} {below : List Frame} {meth : Method} {c : Code} {b : Nat} (hx : p.tables.exec = Jvm.exec) (hb : c.code = code) (hr : meth.sig.returnType = ret) (hlocks : meth.locks = false) {pc : Nat} {H : Heap} {ls : Array Slot} (hdg : decode code pc = .ok (.ireturn, 1)) : W p l e room_1 s m #[Value.ref b] below meth c H [] 601024 7293000 (lw_Z below #[Value.ref b] s) (F0 m pc ls [.int 1]) := by
  intro T hT X
  obtain ⟨fs, hret, hrun, hended, hW, hframe⟩ := X.leave (v := some (.int 1)) (hlocks := hlocks) (fun h => by rw [hr] at h; cases h)
  have hmeth' : T.vm.method? m = some meth := X.method'
  refine ⟨T.setFrames fs, ?_, .returned (some (.int 1)), hrun, hended, rfl, ⟨_, rfl⟩, hW, hframe⟩
  jvm_step X.here [X.here.top, hx, hb, hdg, hmeth', hr, ret, narrow_b1]
  (try refine ⟨rfl, ?_⟩); (try refine ⟨rfl, ?_⟩)
  first | (intro acts; rw [hret _ acts rfl rfl rfl]) | rw [hret _ _ rfl rfl rfl]
  exact Steps.refl _
/-- what holds at the law's entry: the machine, the code, the tables' words (any of lw_tbl by 'hts w (by decide +kernel)'), the script of L ints xs at the cell b, what the Statement gives of the start (any of its parts by flat_of_before) -/
def lw_At (p : Program) (s : State) (m : MethodId) (meth : Method) (c : Code) (b L : Nat) (xs : Nat → Int32) : Prop :=
  p.tables.exec = Jvm.exec ∧ c.code = code ∧ meth.sig.returnType = ret ∧ c.maxLocals = 7 ∧ s.vm.findClass R_law = some m.cls ∧ (∀ w ∈ lw_tbl, w.before #[Value.ref b] s = true) ∧ va_X b L xs s s.heap ∧ b < s.heap.size ∧ meth.locks = false ∧ (Jvm.Cond.and given_1 narrow_1).before #[Value.ref b] s = true
theorem bm_25 : (.fieldLinkNest "CopyHeap" 106 "CopyHeap$Half" "words" "[I" "CopyHeap" : Cond) ∈ lw_tbl := List.mem_append_right _ (List.mem_of_getElem? (i := 25) (by decide +kernel))
theorem bm_27 : (.fieldLinkNest "CopyHeap" 84 "CopyHeap$Half" "used" "I" "CopyHeap" : Cond) ∈ lw_tbl := List.mem_append_right _ (List.mem_of_getElem? (i := 27) (by decide +kernel))
theorem bm_29 : (.fieldLinkNest "CopyHeap" 115 "CopyHeap$Half" "objects" "I" "CopyHeap" : Cond) ∈ lw_tbl := List.mem_append_right _ (List.mem_of_getElem? (i := 29) (by decide +kernel))
theorem bm_70 : (.methodLinkNest "CopyHeap$Half" 32 ⟨"CopyHeap", "isReference", "(I)Z"⟩ "CopyHeap" : Cond) ∈ lw_tbl := List.mem_append_right _ (List.mem_of_getElem? (i := 70) (by decide +kernel))
theorem bm_73 : (.methodLinkNest "CopyHeap$Half" 44 ⟨"CopyHeap", "content", "(I)I"⟩ "CopyHeap" : Cond) ∈ lw_tbl := List.mem_append_right _ (List.mem_of_getElem? (i := 73) (by decide +kernel))
theorem bm_96 : (.methodLinkNest "CopyHeap$Half" 51 ⟨"CopyHeap", "asReference", "(I)I"⟩ "CopyHeap" : Cond) ∈ lw_tbl := List.mem_append_right _ (List.mem_of_getElem? (i := 96) (by decide +kernel))
theorem bm_126 : (.castable "java/lang/IllegalArgumentException" "java/lang/IllegalArgumentException" : Cond) ∈ lw_tbl := List.mem_append_right _ (List.mem_of_getElem? (i := 126) (by decide +kernel))
theorem bm_199 : (.castable "java/lang/IllegalStateException" "java/lang/IllegalStateException" : Cond) ∈ lw_tbl := List.mem_append_right _ (List.mem_of_getElem? (i := 199) (by decide +kernel))
theorem bm_257 : (.castable "java/lang/IndexOutOfBoundsException" "java/lang/IndexOutOfBoundsException" : Cond) ∈ lw_tbl := List.mem_append_right _ (List.mem_of_getElem? (i := 257) (by decide +kernel))
theorem bm_128 : (.declares ⟨"java/lang/RuntimeException", "<init>", "(Ljava/lang/String;)V"⟩ : Cond) ∈ lw_tbl := List.mem_append_right _ (List.mem_of_getElem? (i := 128) (by decide +kernel))
theorem bm_130 : (.declares ⟨"java/lang/Exception", "<init>", "(Ljava/lang/String;)V"⟩ : Cond) ∈ lw_tbl := List.mem_append_right _ (List.mem_of_getElem? (i := 130) (by decide +kernel))
theorem bm_132 : (.declares ⟨"java/lang/Throwable", "<init>", "(Ljava/lang/String;)V"⟩ : Cond) ∈ lw_tbl := List.mem_append_right _ (List.mem_of_getElem? (i := 132) (by decide +kernel))
theorem bm_165 : (.stringRef "CopyHeap" 120 "no register" : Cond) ∈ lw_tbl := List.mem_append_right _ (List.mem_of_getElem? (i := 165) (by decide +kernel))
theorem bm_192 : (.stringRef "CopyHeap" 30 "no such kind, or not 0 to 200 fields" : Cond) ∈ lw_tbl := List.mem_append_right _ (List.mem_of_getElem? (i := 192) (by decide +kernel))
theorem bm_206 : (.stringRef "CopyHeap" 44 "no room behind a collection" : Cond) ∈ lw_tbl := List.mem_append_right _ (List.mem_of_getElem? (i := 206) (by decide +kernel))
theorem bm_249 : (.stringRef "CopyHeap" 124 "the register refers to nothing" : Cond) ∈ lw_tbl := List.mem_append_right _ (List.mem_of_getElem? (i := 249) (by decide +kernel))
theorem bm_250 : (.stringRef "CopyHeap" 70 "a RAW object takes no reference" : Cond) ∈ lw_tbl := List.mem_append_right _ (List.mem_of_getElem? (i := 250) (by decide +kernel))
theorem bm_264 : (.stringRef "CopyHeap" 122 "no such field" : Cond) ∈ lw_tbl := List.mem_append_right _ (List.mem_of_getElem? (i := 264) (by decide +kernel))
theorem bm_278 : (.stringRef "CopyHeap" 79 "no RAW object" : Cond) ∈ lw_tbl := List.mem_append_right _ (List.mem_of_getElem? (i := 278) (by decide +kernel))
theorem bm_293 : (.stringRef "CopyHeap" 93 "what is not 0 to 3" : Cond) ∈ lw_tbl := List.mem_append_right _ (List.mem_of_getElem? (i := 293) (by decide +kernel))
theorem bm_305 : (.stringRef "CopyHeap" 99 "no such word in use" : Cond) ∈ lw_tbl := List.mem_append_right _ (List.mem_of_getElem? (i := 305) (by decide +kernel))
theorem bm_311 : (.stringRef "CopyHeap" 104 "what is not 0 or 1" : Cond) ∈ lw_tbl := List.mem_append_right _ (List.mem_of_getElem? (i := 311) (by decide +kernel))
theorem bm_319 : (.stringRef "CopyHeap" 118 "what is not 0 to 4" : Cond) ∈ lw_tbl := List.mem_append_right _ (List.mem_of_getElem? (i := 319) (by decide +kernel))
theorem bm_151 : (.laysStatic "java/lang/Throwable" "UNASSIGNED_STACK" "[Ljava/lang/StackTraceElement;" : Cond) ∈ lw_tbl := List.mem_append_right _ (List.mem_of_getElem? (i := 151) (by decide +kernel))
theorem bm_153 : (.laysStatic "java/lang/Throwable" "SUPPRESSED_SENTINEL" "Ljava/util/List;" : Cond) ∈ lw_tbl := List.mem_append_right _ (List.mem_of_getElem? (i := 153) (by decide +kernel))
set_option maxHeartbeats 4000000 in
theorem lawE {b : Nat} {s : State} (hts : ∀ w ∈ lw_tbl, w.before #[Value.ref b] s = true) (hgv : (Jvm.Cond.and given_1 narrow_1).before #[Value.ref b] s = true) : eN s ∧ eC s ∧ ∃ sa : Nat → Nat, eX sa (fun q : Nat => s.heap.size ≤ q) s s.heap := by
  have hs := flat_of_before _ hgv
  obtain ⟨a0, -, -, -, q0, -⟩ := Cond.exactly_spec (args := #[Value.ref b]) (first := s) (o := none) (s := s) (idx := []) (t := .string "CopyHeap" 120) (cls := "java/lang/String") (hs (.exactly (.string "CopyHeap" 120) "java/lang/String") (by decide +kernel))
  obtain ⟨a1, -, -, -, q1, -⟩ := Cond.exactly_spec (args := #[Value.ref b]) (first := s) (o := none) (s := s) (idx := []) (t := .string "CopyHeap" 30) (cls := "java/lang/String") (hs (.exactly (.string "CopyHeap" 30) "java/lang/String") (by decide +kernel))
  obtain ⟨a2, -, -, -, q2, -⟩ := Cond.exactly_spec (args := #[Value.ref b]) (first := s) (o := none) (s := s) (idx := []) (t := .string "CopyHeap" 44) (cls := "java/lang/String") (hs (.exactly (.string "CopyHeap" 44) "java/lang/String") (by decide +kernel))
  obtain ⟨a3, -, -, -, q3, -⟩ := Cond.exactly_spec (args := #[Value.ref b]) (first := s) (o := none) (s := s) (idx := []) (t := .string "CopyHeap" 124) (cls := "java/lang/String") (hs (.exactly (.string "CopyHeap" 124) "java/lang/String") (by decide +kernel))
  obtain ⟨a4, -, -, -, q4, -⟩ := Cond.exactly_spec (args := #[Value.ref b]) (first := s) (o := none) (s := s) (idx := []) (t := .string "CopyHeap" 70) (cls := "java/lang/String") (hs (.exactly (.string "CopyHeap" 70) "java/lang/String") (by decide +kernel))
  obtain ⟨a5, -, -, -, q5, -⟩ := Cond.exactly_spec (args := #[Value.ref b]) (first := s) (o := none) (s := s) (idx := []) (t := .string "CopyHeap" 122) (cls := "java/lang/String") (hs (.exactly (.string "CopyHeap" 122) "java/lang/String") (by decide +kernel))
  obtain ⟨a6, -, -, -, q6, -⟩ := Cond.exactly_spec (args := #[Value.ref b]) (first := s) (o := none) (s := s) (idx := []) (t := .string "CopyHeap" 79) (cls := "java/lang/String") (hs (.exactly (.string "CopyHeap" 79) "java/lang/String") (by decide +kernel))
  obtain ⟨a7, -, -, -, q7, -⟩ := Cond.exactly_spec (args := #[Value.ref b]) (first := s) (o := none) (s := s) (idx := []) (t := .string "CopyHeap" 93) (cls := "java/lang/String") (hs (.exactly (.string "CopyHeap" 93) "java/lang/String") (by decide +kernel))
  obtain ⟨a8, -, -, -, q8, -⟩ := Cond.exactly_spec (args := #[Value.ref b]) (first := s) (o := none) (s := s) (idx := []) (t := .string "CopyHeap" 99) (cls := "java/lang/String") (hs (.exactly (.string "CopyHeap" 99) "java/lang/String") (by decide +kernel))
  obtain ⟨a9, -, -, -, q9, -⟩ := Cond.exactly_spec (args := #[Value.ref b]) (first := s) (o := none) (s := s) (idx := []) (t := .string "CopyHeap" 104) (cls := "java/lang/String") (hs (.exactly (.string "CopyHeap" 104) "java/lang/String") (by decide +kernel))
  obtain ⟨a10, -, -, -, q10, -⟩ := Cond.exactly_spec (args := #[Value.ref b]) (first := s) (o := none) (s := s) (idx := []) (t := .string "CopyHeap" 118) (cls := "java/lang/String") (hs (.exactly (.string "CopyHeap" 118) "java/lang/String") (by decide +kernel))
  refine ⟨⟨va_Nw.of rfl (hts _ bm_25), va_Nw.of rfl (hts _ bm_27), va_Nw.of rfl (hts _ bm_29), va_Nw.of rfl (hts _ bm_70), va_Nw.of rfl (hts _ bm_73), va_Nw.of rfl (hts _ bm_96), va_Nw.of rfl (hts _ bm_126), va_Nw.of rfl (hts _ bm_199), va_Nw.of rfl (hts _ bm_257), va_Nw.of rfl (hts _ bm_128), va_Nw.of rfl (hts _ bm_130), va_Nw.of rfl (hts _ bm_132)⟩, ⟨va_Nc.of (hs (.not (.castable "java/lang/IllegalStateException" "java/lang/IllegalArgumentException")) (by decide +kernel)), va_Nc.of (hs (.not (.castable "java/lang/IndexOutOfBoundsException" "java/lang/IllegalArgumentException")) (by decide +kernel)), va_Nc.of (hs (.not (.castable "java/lang/IndexOutOfBoundsException" "java/lang/IllegalStateException")) (by decide +kernel))⟩, fun i => [a0, a1, a2, a3, a4, a5, a6, a7, a8, a9, a10].getD i 0, ?_⟩
  exact ⟨vk_R.of (hts _ bm_165) q0, vk_R.of (hts _ bm_192) q1, vk_R.of (hts _ bm_206) q2, vk_R.of (hts _ bm_249) q3, vk_R.of (hts _ bm_250) q4, vk_R.of (hts _ bm_264) q5, vk_R.of (hts _ bm_278) q6, vk_R.of (hts _ bm_293) q7, vk_R.of (hts _ bm_305) q8, vk_R.of (hts _ bm_311) q9, vk_R.of (hts _ bm_319) q10, vx_Zqof (hts _ bm_151) (hts _ (List.mem_filter.mp g_4).1) (hs (.isRef (.static "java/lang/Throwable" "UNASSIGNED_STACK" "[Ljava/lang/StackTraceElement;")) (by decide +kernel)) (fun a h9 => Nat.not_le.mpr h9), vx_Zqof (hts _ bm_153) (hts _ (List.mem_filter.mp g_4).1) (hs (.isRef (.static "java/lang/Throwable" "SUPPRESSED_SENTINEL" "Ljava/util/List;")) (by decide +kernel)) (fun a h9 => Nat.not_le.mpr h9)⟩
def fcl (L : Nat) (xs : Nat → Int32) (i : Int32) : Int32 := if nI L ≤ i then 0 else xs i.toNatClampNeg
def pX (b L : Nat) (xs : Nat → Int32) (U : State) : Prop := va_X b L xs U U.heap ∧ b < U.heap.size
theorem pX.blind {b L : Nat} {xs : Nat → Int32} {av : List Value} : FrameBlind (va_Pc av (pX b L xs)) := fun a U g mk q => ⟨q.1, va_X.moved (u := U) (U := U.calling g mk a) (Vm.Alike.refl U.vm) q.2.1, q.2.2⟩
theorem pX.call {b L : Nat} {xs : Nat → Int32} {av : List Value} {s : State} {H0 H : Heap} {A : Nat → Prop} {locs : List Loc} (hX : va_X b L xs s H0) (hbl : b < H0.size) (hbA : ¬ A b) (hS : va_S A H0 H locs) : ∀ U : State, U.heap = H → s.WarmedH U.vm → va_Pc av (pX b L xs) av.toArray U := fun U hU hW => ⟨rfl, by rw [hU]; exact va_X.moved hW.alike (va_X.kept hX (hS.2.1 b hbl hbA)), by rw [hU]; exact Nat.lt_of_lt_of_le hbl hS.1⟩
set_option maxHeartbeats 4000000 in
set_option maxRecDepth 100000 in
theorem ctL_cell (l : Launch) (b L : Nat) (xs : Nat → Int32) (hL : L < 2 ^ 31) : Met l yL_cell (kL_cell :: gT) ({ frames := 0, cells := 0, slots := 0, locals := 0 }) (va_Pc [.ref b, .int 0] (pX b L xs)) (vp_Si (fun r => r = fcl L xs 0)) 0 0 (fun _ => False) := by
  refine Met.ofW (cc := cL_cell) (maxL := 2) (ret := (some .int)) (by decide) rfl ?_
  intro p e s m args below meth c s₁ B hml hv
  obtain ⟨rfl, hX, hbl⟩ := hv
  have hx := B.exec
  have hb := B.bytes
  have hr := B.returns
  have hlocks := B.notSynchronized
  have hS : va_S (fun _ => False) s.heap s.heap [] := va_S.rf
  have hl := lv_entry ([.ref b, .int 0]) (n := 2) (Nat.le_of_ble_eq_true rfl)
  rw [lg_entry_eq]
  generalize (lg_sl ([.ref b, .int 0]) ++ List.replicate (2 - (lg_sl ([.ref b, .int 0])).length) Slot.unset).toArray = ls at hl ⊢
  have hl : lv_has ls 2 [(0, .ref b), (1, .int 0)] := hl
  refine lv_iload_n hx hb dL_cell_0 rfl (lv_at hl 1 rfl) ?_
  refine lv_aload_n hx hb dL_cell_1 rfl (lv_at hl 0 rfl) ?_
  refine va_slen hx hb hX hbl (fun q => q) hS dL_cell_2 ?_
  refine lv_icmp_ge (tgt := 12) hx hb dL_cell_3 (by decide) (fun c_1 => ?_) (fun c_1 => ?_)
  · refine lv_iconst (v := 0) hx hb dL_cell_12 (by decide) ?_
    exact W.iret (v := 0) hx hb hr (fun t ht hW => ⟨_, rfl, (by unfold fcl; exact (if_pos c_1).symm), ht⟩) (fun q hq => nomatch hq) dL_cell_13
  · refine lv_aload_n hx hb dL_cell_6 rfl (lv_at hl 0 rfl) ?_
    refine lv_iload_n hx hb dL_cell_7 rfl (lv_at hl 1 rfl) ?_
    refine va_sld hx hb hX hbl (fun q => q) hS (in2 (n := L) hL (by decide) c_1) dL_cell_8 ?_
    refine lv_goto (tgt := 13) hx hb dL_cell_9 (by decide) ?_
    exact W.iret (v := xs (0 : Int32).toNatClampNeg) hx hb hr (fun t ht hW => ⟨_, rfl, (by unfold fcl; exact (if_neg c_1).symm), ht⟩) (fun q hq => nomatch hq) dL_cell_13
